set_option maxHeartbeats 40000000 in
set_option maxRecDepth 100000 in
theorem zq_law_776 {p : Program} {l : Launch} {e : Env} {s : State} {m : MethodId} {args : Array Value} {below : List Frame} {meth : Method} {c : Code} {Q : State → Prop} {G : va_G} {cI cL : ClassId} {A : Nat → Prop} {b L : Nat} {xs : Nat → Int32} {cells slots : Nat} (hlt : l.stackTraces = false) (adO qO3 qO4 qO5 qO6 adP0 qP00 qP01 qP02 qP03 qP04 adP1 qP10 qP11 qP12 qP13 qP14 adP2 qP20 qP21 qP22 qP23 qP24 adN qN0 qN1 qN2 qN3 qN4 qN5 adT qT0 qT1 qT2 qT3 qT4 qT5 qT6 qT7 adF0 qF00 qF01 qF02 qF03 adF1 qF10 qF11 qF12 qF13 adF2 qF20 qF21 qF22 qF23 adM qM1 qM2 qM3 qM4 qM5 qM6 qM7 qM8 qM12 qM13 qM15 qM16 qM17 qM18 qM19 qM20 qM21 qout : Nat) (C : zv_C p s m args c cL_law 7 RL lw_tbl G cI A) (hB : zx_B A s) (hKL : va_K G vwCl [(cL, .long)] s) (hN : zl_B s) (hX : va_X b L xs s s.heap) (hbl : b < s.heap.size) (hbA : ¬ A b) (hc : cells + 1 ≤ room_1.cells) (hs : slots + 6 ≤ room_1.slots) (O : zMem) (P0 : zMem) (P1 : zMem) (P2 : zMem) (N : zMem) (T : zMem) (F0 : zMem) (F1 : zMem) (F2 : zMem) (M : zMem) (out : zRowL) (i : Int32) (K : zMem → zMem → zMem → zMem → zMem → zMem → zMem → zMem → zMem → zMem → zRowL → Prop) (hK : ∀ (O : zMem) (P0 : zMem) (P1 : zMem) (P2 : zMem) (N : zMem) (T : zMem) (F0 : zMem) (F1 : zMem) (F2 : zMem) (M : zMem) (out : zRowL), K O P0 P1 P2 N T F0 F1 F2 M out → zv_V p l e room_1 s m args below meth c Q G A 7 (cells + 1) (slots + 6) (zd_L_law cI cL adO qO3 qO4 qO5 qO6 adP0 qP00 qP01 qP02 qP03 qP04 adP1 qP10 qP11 qP12 qP13 qP14 adP2 qP20 qP21 qP22 qP23 qP24 adN qN0 qN1 qN2 qN3 qN4 qN5 adT qT0 qT1 qT2 qT3 qT4 qT5 qT6 qT7 adF0 qF00 qF01 qF02 qF03 adF1 qF10 qF11 qF12 qF13 adF2 qF20 qF21 qF22 qF23 adM qM1 qM2 qM3 qM4 qM5 qM6 qM7 qM8 qM12 qM13 qM15 qM16 qM17 qM18 qM19 qM20 qM21 qout O P0 P1 P2 N T F0 F1 F2 M out) 1485 [(4, .int i), (0, .ref b), (1, .ref adO), (2, .ref adM), (3, .ref qout)] []) (hF : zw_law_776 L xs O P0 P1 P2 N T F0 F1 F2 M out i K) : zv_V p l e room_1 s m args below meth c Q G A 7 cells slots (zd_L_law cI cL adO qO3 qO4 qO5 qO6 adP0 qP00 qP01 qP02 qP03 qP04 adP1 qP10 qP11 qP12 qP13 qP14 adP2 qP20 qP21 qP22 qP23 qP24 adN qN0 qN1 qN2 qN3 qN4 qN5 adT qT0 qT1 qT2 qT3 qT4 qT5 qT6 qT7 adF0 qF00 qF01 qF02 qF03 adF1 qF10 qF11 qF12 qF13 adF2 qF20 qF21 qF22 qF23 adM qM1 qM2 qM3 qM4 qM5 qM6 qM7 qM8 qM12 qM13 qM15 qM16 qM17 qM18 qM19 qM20 qM21 qout O P0 P1 P2 N T F0 F1 F2 M out) 776 [(4, .int i), (0, .ref b), (1, .ref adO), (2, .ref adM), (3, .ref qout)] [] := by
  refine zv_aload_n (pc := 776) C rfl 2 rfl dL_law_776 ?_
  refine zv_aload_n (pc := 777) C rfl 1 rfl dL_law_777 ?_
  refine zv_iload (pc := 778) C 0 rfl dL_law_778 ?_
  refine zv_iconst (pc := 780) (v := 1) C (by decide) dL_law_780 ?_
  refine zv_iadd (pc := 781) C  dL_law_781 ?_
  obtain ⟨h_1, hF⟩ := hF
  refine zl_sld (pc := 782) C hX hbl hbA h_1 dL_law_782 ?_
  refine zv_aload_n (pc := 783) C rfl 1 rfl dL_law_783 ?_
  refine zv_iload (pc := 784) C 0 rfl dL_law_784 ?_
  refine zv_iconst (pc := 786) (v := 2) C (by decide) dL_law_786 ?_
  refine zv_iadd (pc := 787) C  dL_law_787 ?_
  obtain ⟨h_2, hF⟩ := hF
  refine zl_sld (pc := 788) C hX hbl hbA h_2 dL_law_788 ?_
  refine zv_aload_n (pc := 789) C rfl 1 rfl dL_law_789 ?_
  refine zv_iload (pc := 790) C 0 rfl dL_law_790 ?_
  refine zv_iconst (pc := 792) (v := 3) C (by decide) dL_law_792 ?_
  refine zv_iadd (pc := 793) C  dL_law_793 ?_
  obtain ⟨h_3, hF⟩ := hF
  refine zl_sld (pc := 794) C hX hbl hbA h_3 dL_law_794 ?_
  refine zv_if_eq (pc := 795) (tgt := 802) C dL_law_795 (by decide) (fun c_4 => ?_) (fun c_4 => ?_)
  · replace hF := And.left hF c_4
    refine zv_iconst (pc := 802) (v := 0) C (by decide) dL_law_802 ?_
    refine zv_aload_n (pc := 803) C rfl 1 rfl dL_law_803 ?_
    refine zv_iload (pc := 804) C 0 rfl dL_law_804 ?_
    refine zv_iconst (pc := 806) (v := 4) C (by decide) dL_law_806 ?_
    refine zv_iadd (pc := 807) C  dL_law_807 ?_
    obtain ⟨h_5, hF⟩ := hF
    refine zl_sld (pc := 808) C hX hbl hbA h_5 dL_law_808 ?_
    refine zv_aload_n (pc := 809) C rfl 4 rfl dL_law_809 ?_
    refine zm_ci (pc := 810) (ws' := (fun uz : zMem × zMem × zRowL => (zd_L_law cI cL adO qO3 qO4 qO5 qO6 adP0 qP00 qP01 qP02 qP03 qP04 adP1 qP10 qP11 qP12 qP13 qP14 adP2 qP20 qP21 qP22 qP23 qP24 adN qN0 qN1 qN2 qN3 qN4 qN5 adT qT0 qT1 qT2 qT3 qT4 qT5 qT6 qT7 adF0 qF00 qF01 qF02 qF03 adF1 qF10 qF11 qF12 qF13 adF2 qF20 qF21 qF22 qF23 adM qM1 qM2 qM3 qM4 qM5 qM6 qM7 qM8 qM12 qM13 qM15 qM16 qM17 qM18 qM19 qM20 qM21 qout O P0 P1 P2 N uz.1 uz.2.1 F1 F2 M uz.2.2))) C (zm_runW (As := [.ref adO, .int (xs (Int32.toNatClampNeg (i + (1 : Int32)))), .int (xs (Int32.toNatClampNeg (i + (2 : Int32)))), .int (0 : Int32), .int (xs (Int32.toNatClampNeg (i + (4 : Int32)))), .ref qout]) (rest := []) C hB hKL hN (zc_L_entry l hlt G cI cL adO qO3 qO4 qO5 qO6 adP0 qP00 qP01 qP02 qP03 qP04 adP1 qP10 qP11 qP12 qP13 qP14 adT qT0 qT1 qT2 qT3 qT4 qT5 qT6 qT7 adF0 qF00 qF01 qF02 qF03 qout adP2 adN adF1 adF2 O P0 P1 T F0 out (xs (Int32.toNatClampNeg (i + (1 : Int32)))) (xs (Int32.toNatClampNeg (i + (2 : Int32)))) (0 : Int32) (xs (Int32.toNatClampNeg (i + (4 : Int32)))) _ hF) (vx_cwSW 6 C.2.2.2.2.1 lwc_L_entry rfl rfl rfl zy_L_entry ⟨(Nat.le_of_ble_eq_true rfl), (Nat.le_of_ble_eq_true rfl)⟩) rfl rfl (Nat.le_of_ble_eq_true rfl) ⟨hc, hs⟩ dL_law_810) [0, 1, 2, 3, 4, 5, 6, 7, 8, 9, 10, 11, 12, 13, 14, 15, 16, 30, 31, 32, 33, 34, 35, 36, 37, 38, 39, 40, 41, 42, 43, 72] [17, 18, 19, 20, 21, 22, 23, 24, 25, 26, 27, 28, 29, 44, 45, 46, 47, 48, 49, 50, 51, 52, 53, 54, 55, 56, 57, 58, 59, 60, 61, 62, 63, 64, 65, 66, 67, 68, 69, 70, 71] rfl rfl rfl rfl rfl (fun _ => rfl) (fun _ => rfl) (fun _ => rfl) (fun v_9 uz hF => ?_)
    obtain ⟨T_6, T_7, r_8⟩ := uz
    refine zv_istore (pc := 813) (lv' := [(5, .int v_9), (4, .int i), (0, .ref b), (1, .ref adO), (2, .ref adM), (3, .ref qout)]) C (by decide) rfl dL_law_813 ?_
    refine zv_aload_n (pc := 815) C rfl 4 rfl dL_law_815 ?_
    refine zv_aload_n (pc := 816) C rfl 2 rfl dL_law_816 ?_
    refine zv_iload (pc := 817) C 1 rfl dL_law_817 ?_
    refine zv_iconst (pc := 819) (v := 1) C (by decide) dL_law_819 ?_
    refine zv_iadd (pc := 820) C  dL_law_820 ?_
    obtain ⟨h_10, hF⟩ := hF
    refine zl_sld (pc := 821) C hX hbl hbA h_10 dL_law_821 ?_
    refine zv_aload_n (pc := 822) C rfl 2 rfl dL_law_822 ?_
    refine zv_iload (pc := 823) C 1 rfl dL_law_823 ?_
    refine zv_iconst (pc := 825) (v := 2) C (by decide) dL_law_825 ?_
    refine zv_iadd (pc := 826) C  dL_law_826 ?_
    obtain ⟨h_11, hF⟩ := hF
    refine zl_sld (pc := 827) C hX hbl hbA h_11 dL_law_827 ?_
    refine zv_aload_n (pc := 828) C rfl 2 rfl dL_law_828 ?_
    refine zv_iload (pc := 829) C 1 rfl dL_law_829 ?_
    refine zv_iconst (pc := 831) (v := 3) C (by decide) dL_law_831 ?_
    refine zv_iadd (pc := 832) C  dL_law_832 ?_
    obtain ⟨h_12, hF⟩ := hF
    refine zl_sld (pc := 833) C hX hbl hbA h_12 dL_law_833 ?_
    refine zv_if_eq (pc := 834) (tgt := 841) C dL_law_834 (by decide) (fun c_13 => ?_) (fun c_13 => ?_)
    · replace hF := And.left hF c_13
      refine zv_iconst (pc := 841) (v := 0) C (by decide) dL_law_841 ?_
      refine zv_aload_n (pc := 842) C rfl 2 rfl dL_law_842 ?_
      refine zv_iload (pc := 843) C 1 rfl dL_law_843 ?_
      refine zv_iconst (pc := 845) (v := 4) C (by decide) dL_law_845 ?_
      refine zv_iadd (pc := 846) C  dL_law_846 ?_
      obtain ⟨h_14, hF⟩ := hF
      refine zl_sld (pc := 847) C hX hbl hbA h_14 dL_law_847 ?_
      refine zv_ci0 (pc := 848) (ws' := (fun uz : zMem => (zd_L_law cI cL adO qO3 qO4 qO5 qO6 adP0 qP00 qP01 qP02 qP03 qP04 adP1 qP10 qP11 qP12 qP13 qP14 adP2 qP20 qP21 qP22 qP23 qP24 adN qN0 qN1 qN2 qN3 qN4 qN5 adT qT0 qT1 qT2 qT3 qT4 qT5 qT6 qT7 adF0 qF00 qF01 qF02 qF03 adF1 qF10 qF11 qF12 qF13 adF2 qF20 qF21 qF22 qF23 adM qM1 qM2 qM3 qM4 qM5 qM6 qM7 qM8 qM12 qM13 qM15 qM16 qM17 qM18 qM19 qM20 qM21 qout O P0 P1 P2 N T_6 T_7 F1 F2 uz r_8))) C (zv_runV (As := [.int (xs (Int32.toNatClampNeg (i + (1 : Int32)))), .int (xs (Int32.toNatClampNeg (i + (2 : Int32)))), .int (0 : Int32), .int (xs (Int32.toNatClampNeg (i + (4 : Int32))))]) (b := adM) (rest := []) (ci := 5) (q0 := 54) C (zc_X6_entry l G cI adM qM1 qM2 qM3 qM4 qM5 qM6 qM7 qM8 qM12 qM13 qM15 qM16 qM17 qM18 qM19 qM20 qM21 M (xs (Int32.toNatClampNeg (i + (1 : Int32)))) (xs (Int32.toNatClampNeg (i + (2 : Int32)))) (0 : Int32) (xs (Int32.toNatClampNeg (i + (4 : Int32)))) _ hF) (cwV 4 C.2.2.2.2.1 lwc_X6_entry rfl rfl rfl zy_X6_entry ⟨(Nat.le_of_ble_eq_true rfl), (Nat.le_of_ble_eq_true rfl)⟩) rfl rfl rfl rfl rfl (Nat.le_of_ble_eq_true rfl) ⟨hc, hs⟩ dL_law_848) [54, 55, 56, 57, 58, 59, 60, 61, 62, 63, 64, 65, 66, 67, 68, 69, 70, 71] [0, 1, 2, 3, 4, 5, 6, 7, 8, 9, 10, 11, 12, 13, 14, 15, 16, 17, 18, 19, 20, 21, 22, 23, 24, 25, 26, 27, 28, 29, 30, 31, 32, 33, 34, 35, 36, 37, 38, 39, 40, 41, 42, 43, 44, 45, 46, 47, 48, 49, 50, 51, 52, 53, 72] rfl rfl rfl rfl rfl (fun _ => rfl) (fun _ => rfl) (fun _ => rfl) (fun v_16 uz hF => ?_)
      obtain ⟨T_15, hE⟩ : ∃ z, z = uz := ⟨_, rfl⟩; subst hE
      refine zv_istore (pc := 851) (lv' := [(6, .int v_16), (5, .int v_9), (4, .int i), (0, .ref b), (1, .ref adO), (2, .ref adM), (3, .ref qout)]) C (by decide) rfl dL_law_851 ?_
      refine zv_aload_n (pc := 853) C rfl 5 rfl dL_law_853 ?_
      refine zv_ci0 (pc := 854) (ws' := (fun uz : Unit => (zd_L_law cI cL adO qO3 qO4 qO5 qO6 adP0 qP00 qP01 qP02 qP03 qP04 adP1 qP10 qP11 qP12 qP13 qP14 adP2 qP20 qP21 qP22 qP23 qP24 adN qN0 qN1 qN2 qN3 qN4 qN5 adT qT0 qT1 qT2 qT3 qT4 qT5 qT6 qT7 adF0 qF00 qF01 qF02 qF03 adF1 qF10 qF11 qF12 qF13 adF2 qF20 qF21 qF22 qF23 adM qM1 qM2 qM3 qM4 qM5 qM6 qM7 qM8 qM12 qM13 qM15 qM16 qM17 qM18 qM19 qM20 qM21 qout O P0 P1 P2 N T_6 T_7 F1 F2 T_15 r_8))) C (zv_runV (As := []) (b := adM) (rest := []) (ci := 5) (q0 := 54) C (zc_X6_thrown l G cI adM qM1 qM2 qM3 qM4 qM5 qM6 qM7 qM8 qM12 qM13 qM15 qM16 qM17 qM18 qM19 qM20 qM21 T_15 _ hF) (cwV 0 C.2.2.2.2.1 lwc_X6_thrown rfl rfl rfl zy_X6_thrown ⟨(Nat.le_of_ble_eq_true rfl), (Nat.le_of_ble_eq_true rfl)⟩) rfl rfl rfl rfl rfl (Nat.le_of_ble_eq_true rfl) ⟨hc, hs⟩ dL_law_854) [54, 55, 56, 57, 58, 59, 60, 61, 62, 63, 64, 65, 66, 67, 68, 69, 70, 71] [0, 1, 2, 3, 4, 5, 6, 7, 8, 9, 10, 11, 12, 13, 14, 15, 16, 17, 18, 19, 20, 21, 22, 23, 24, 25, 26, 27, 28, 29, 30, 31, 32, 33, 34, 35, 36, 37, 38, 39, 40, 41, 42, 43, 44, 45, 46, 47, 48, 49, 50, 51, 52, 53, 72] rfl rfl rfl rfl rfl (fun _ => rfl) (fun _ => rfl) (fun _ => rfl) (fun v_17 uz hF => ?_)
      refine zv_iload (pc := 857) C 1 rfl dL_law_857 ?_
      refine zv_icmp_eq (pc := 859) (tgt := 864) C dL_law_859 (by decide) (fun c_18 => ?_) (fun c_18 => ?_)
      · replace hF := And.left hF c_18
        refine zv_iload (pc := 864) C 1 rfl dL_law_864 ?_
        refine zv_if_ne (pc := 866) (tgt := 881) C dL_law_866 (by decide) (fun c_19 => ?_) (fun c_19 => ?_)
        · replace hF := And.left hF c_19
          refine zv_goto (pc := 881) (tgt := 1485) C dL_law_881 (by decide) ?_
          exact zv_lvs [2, 3, 4, 5, 6] rfl (hK O P0 P1 P2 N T_6 T_7 F1 F2 T_15 r_8 hF)
        · replace hF := And.right hF c_19
          refine zv_aload_n (pc := 869) C rfl 6 rfl dL_law_869 ?_
          refine zv_iconst (pc := 870) (v := 0) C (by decide) dL_law_870 ?_
          refine zl_lald (pc := 871) (n := 1) (f := r_8) C hKL 72 (vp_in_iff.mpr (by decide)) rfl dL_law_871 ?_
          refine zv_iload (pc := 872) C 0 rfl dL_law_872 ?_
          refine zv_i2l (pc := 874) C  dL_law_874 ?_
          refine zv_lcmp (pc := 875) C  dL_law_875 ?_
          refine zv_if_eq (pc := 876) (tgt := 881) C dL_law_876 (by decide) (fun c_20 => ?_) (fun c_20 => ?_)
          · replace hF := And.left hF c_20
            refine zv_goto (pc := 881) (tgt := 1485) C dL_law_881 (by decide) ?_
            exact zv_lvs [2, 3, 4, 5, 6] rfl (hK O P0 P1 P2 N T_6 T_7 F1 F2 T_15 r_8 hF)
          · replace hF := And.right hF c_20
            refine zv_iconst (pc := 879) (v := 0) C (by decide) dL_law_879 ?_
            exact (show False from hF).elim
      · replace hF := And.right hF c_18
        refine zv_iconst (pc := 862) (v := 0) C (by decide) dL_law_862 ?_
        exact (show False from hF).elim
    · replace hF := And.right hF c_13
      refine zv_iconst (pc := 837) (v := 1) C (by decide) dL_law_837 ?_
      refine zv_goto (pc := 838) (tgt := 842) C dL_law_838 (by decide) ?_
      refine zv_aload_n (pc := 842) C rfl 2 rfl dL_law_842 ?_
      refine zv_iload (pc := 843) C 1 rfl dL_law_843 ?_
      refine zv_iconst (pc := 845) (v := 4) C (by decide) dL_law_845 ?_
      refine zv_iadd (pc := 846) C  dL_law_846 ?_
      obtain ⟨h_21, hF⟩ := hF
      refine zl_sld (pc := 847) C hX hbl hbA h_21 dL_law_847 ?_
      refine zv_ci0 (pc := 848) (ws' := (fun uz : zMem => (zd_L_law cI cL adO qO3 qO4 qO5 qO6 adP0 qP00 qP01 qP02 qP03 qP04 adP1 qP10 qP11 qP12 qP13 qP14 adP2 qP20 qP21 qP22 qP23 qP24 adN qN0 qN1 qN2 qN3 qN4 qN5 adT qT0 qT1 qT2 qT3 qT4 qT5 qT6 qT7 adF0 qF00 qF01 qF02 qF03 adF1 qF10 qF11 qF12 qF13 adF2 qF20 qF21 qF22 qF23 adM qM1 qM2 qM3 qM4 qM5 qM6 qM7 qM8 qM12 qM13 qM15 qM16 qM17 qM18 qM19 qM20 qM21 qout O P0 P1 P2 N T_6 T_7 F1 F2 uz r_8))) C (zv_runV (As := [.int (xs (Int32.toNatClampNeg (i + (1 : Int32)))), .int (xs (Int32.toNatClampNeg (i + (2 : Int32)))), .int (1 : Int32), .int (xs (Int32.toNatClampNeg (i + (4 : Int32))))]) (b := adM) (rest := []) (ci := 5) (q0 := 54) C (zc_X6_entry l G cI adM qM1 qM2 qM3 qM4 qM5 qM6 qM7 qM8 qM12 qM13 qM15 qM16 qM17 qM18 qM19 qM20 qM21 M (xs (Int32.toNatClampNeg (i + (1 : Int32)))) (xs (Int32.toNatClampNeg (i + (2 : Int32)))) (1 : Int32) (xs (Int32.toNatClampNeg (i + (4 : Int32)))) _ hF) (cwV 4 C.2.2.2.2.1 lwc_X6_entry rfl rfl rfl zy_X6_entry ⟨(Nat.le_of_ble_eq_true rfl), (Nat.le_of_ble_eq_true rfl)⟩) rfl rfl rfl rfl rfl (Nat.le_of_ble_eq_true rfl) ⟨hc, hs⟩ dL_law_848) [54, 55, 56, 57, 58, 59, 60, 61, 62, 63, 64, 65, 66, 67, 68, 69, 70, 71] [0, 1, 2, 3, 4, 5, 6, 7, 8, 9, 10, 11, 12, 13, 14, 15, 16, 17, 18, 19, 20, 21, 22, 23, 24, 25, 26, 27, 28, 29, 30, 31, 32, 33, 34, 35, 36, 37, 38, 39, 40, 41, 42, 43, 44, 45, 46, 47, 48, 49, 50, 51, 52, 53, 72] rfl rfl rfl rfl rfl (fun _ => rfl) (fun _ => rfl) (fun _ => rfl) (fun v_23 uz hF => ?_)
      obtain ⟨T_22, hE⟩ : ∃ z, z = uz := ⟨_, rfl⟩; subst hE
      refine zv_istore (pc := 851) (lv' := [(6, .int v_23), (5, .int v_9), (4, .int i), (0, .ref b), (1, .ref adO), (2, .ref adM), (3, .ref qout)]) C (by decide) rfl dL_law_851 ?_
      refine zv_aload_n (pc := 853) C rfl 5 rfl dL_law_853 ?_
      refine zv_ci0 (pc := 854) (ws' := (fun uz : Unit => (zd_L_law cI cL adO qO3 qO4 qO5 qO6 adP0 qP00 qP01 qP02 qP03 qP04 adP1 qP10 qP11 qP12 qP13 qP14 adP2 qP20 qP21 qP22 qP23 qP24 adN qN0 qN1 qN2 qN3 qN4 qN5 adT qT0 qT1 qT2 qT3 qT4 qT5 qT6 qT7 adF0 qF00 qF01 qF02 qF03 adF1 qF10 qF11 qF12 qF13 adF2 qF20 qF21 qF22 qF23 adM qM1 qM2 qM3 qM4 qM5 qM6 qM7 qM8 qM12 qM13 qM15 qM16 qM17 qM18 qM19 qM20 qM21 qout O P0 P1 P2 N T_6 T_7 F1 F2 T_22 r_8))) C (zv_runV (As := []) (b := adM) (rest := []) (ci := 5) (q0 := 54) C (zc_X6_thrown l G cI adM qM1 qM2 qM3 qM4 qM5 qM6 qM7 qM8 qM12 qM13 qM15 qM16 qM17 qM18 qM19 qM20 qM21 T_22 _ hF) (cwV 0 C.2.2.2.2.1 lwc_X6_thrown rfl rfl rfl zy_X6_thrown ⟨(Nat.le_of_ble_eq_true rfl), (Nat.le_of_ble_eq_true rfl)⟩) rfl rfl rfl rfl rfl (Nat.le_of_ble_eq_true rfl) ⟨hc, hs⟩ dL_law_854) [54, 55, 56, 57, 58, 59, 60, 61, 62, 63, 64, 65, 66, 67, 68, 69, 70, 71] [0, 1, 2, 3, 4, 5, 6, 7, 8, 9, 10, 11, 12, 13, 14, 15, 16, 17, 18, 19, 20, 21, 22, 23, 24, 25, 26, 27, 28, 29, 30, 31, 32, 33, 34, 35, 36, 37, 38, 39, 40, 41, 42, 43, 44, 45, 46, 47, 48, 49, 50, 51, 52, 53, 72] rfl rfl rfl rfl rfl (fun _ => rfl) (fun _ => rfl) (fun _ => rfl) (fun v_24 uz hF => ?_)
      refine zv_iload (pc := 857) C 1 rfl dL_law_857 ?_
      refine zv_icmp_eq (pc := 859) (tgt := 864) C dL_law_859 (by decide) (fun c_25 => ?_) (fun c_25 => ?_)
      · replace hF := And.left hF c_25
        refine zv_iload (pc := 864) C 1 rfl dL_law_864 ?_
        refine zv_if_ne (pc := 866) (tgt := 881) C dL_law_866 (by decide) (fun c_26 => ?_) (fun c_26 => ?_)
        · replace hF := And.left hF c_26
          refine zv_goto (pc := 881) (tgt := 1485) C dL_law_881 (by decide) ?_
          exact zv_lvs [2, 3, 4, 5, 6] rfl (hK O P0 P1 P2 N T_6 T_7 F1 F2 T_22 r_8 hF)
        · replace hF := And.right hF c_26
          refine zv_aload_n (pc := 869) C rfl 6 rfl dL_law_869 ?_
          refine zv_iconst (pc := 870) (v := 0) C (by decide) dL_law_870 ?_
          refine zl_lald (pc := 871) (n := 1) (f := r_8) C hKL 72 (vp_in_iff.mpr (by decide)) rfl dL_law_871 ?_
          refine zv_iload (pc := 872) C 0 rfl dL_law_872 ?_
          refine zv_i2l (pc := 874) C  dL_law_874 ?_
          refine zv_lcmp (pc := 875) C  dL_law_875 ?_
          refine zv_if_eq (pc := 876) (tgt := 881) C dL_law_876 (by decide) (fun c_27 => ?_) (fun c_27 => ?_)
          · replace hF := And.left hF c_27
            refine zv_goto (pc := 881) (tgt := 1485) C dL_law_881 (by decide) ?_
            exact zv_lvs [2, 3, 4, 5, 6] rfl (hK O P0 P1 P2 N T_6 T_7 F1 F2 T_22 r_8 hF)
          · replace hF := And.right hF c_27
            refine zv_iconst (pc := 879) (v := 0) C (by decide) dL_law_879 ?_
            exact (show False from hF).elim
      · replace hF := And.right hF c_25
        refine zv_iconst (pc := 862) (v := 0) C (by decide) dL_law_862 ?_
        exact (show False from hF).elim
  · replace hF := And.right hF c_4
    refine zv_iconst (pc := 798) (v := 1) C (by decide) dL_law_798 ?_
    refine zv_goto (pc := 799) (tgt := 803) C dL_law_799 (by decide) ?_
    refine zv_aload_n (pc := 803) C rfl 1 rfl dL_law_803 ?_
    refine zv_iload (pc := 804) C 0 rfl dL_law_804 ?_
    refine zv_iconst (pc := 806) (v := 4) C (by decide) dL_law_806 ?_
    refine zv_iadd (pc := 807) C  dL_law_807 ?_
    obtain ⟨h_28, hF⟩ := hF
    refine zl_sld (pc := 808) C hX hbl hbA h_28 dL_law_808 ?_
    refine zv_aload_n (pc := 809) C rfl 4 rfl dL_law_809 ?_
    refine zm_ci (pc := 810) (ws' := (fun uz : zMem × zMem × zRowL => (zd_L_law cI cL adO qO3 qO4 qO5 qO6 adP0 qP00 qP01 qP02 qP03 qP04 adP1 qP10 qP11 qP12 qP13 qP14 adP2 qP20 qP21 qP22 qP23 qP24 adN qN0 qN1 qN2 qN3 qN4 qN5 adT qT0 qT1 qT2 qT3 qT4 qT5 qT6 qT7 adF0 qF00 qF01 qF02 qF03 adF1 qF10 qF11 qF12 qF13 adF2 qF20 qF21 qF22 qF23 adM qM1 qM2 qM3 qM4 qM5 qM6 qM7 qM8 qM12 qM13 qM15 qM16 qM17 qM18 qM19 qM20 qM21 qout O P0 P1 P2 N uz.1 uz.2.1 F1 F2 M uz.2.2))) C (zm_runW (As := [.ref adO, .int (xs (Int32.toNatClampNeg (i + (1 : Int32)))), .int (xs (Int32.toNatClampNeg (i + (2 : Int32)))), .int (1 : Int32), .int (xs (Int32.toNatClampNeg (i + (4 : Int32)))), .ref qout]) (rest := []) C hB hKL hN (zc_L_entry l hlt G cI cL adO qO3 qO4 qO5 qO6 adP0 qP00 qP01 qP02 qP03 qP04 adP1 qP10 qP11 qP12 qP13 qP14 adT qT0 qT1 qT2 qT3 qT4 qT5 qT6 qT7 adF0 qF00 qF01 qF02 qF03 qout adP2 adN adF1 adF2 O P0 P1 T F0 out (xs (Int32.toNatClampNeg (i + (1 : Int32)))) (xs (Int32.toNatClampNeg (i + (2 : Int32)))) (1 : Int32) (xs (Int32.toNatClampNeg (i + (4 : Int32)))) _ hF) (vx_cwSW 6 C.2.2.2.2.1 lwc_L_entry rfl rfl rfl zy_L_entry ⟨(Nat.le_of_ble_eq_true rfl), (Nat.le_of_ble_eq_true rfl)⟩) rfl rfl (Nat.le_of_ble_eq_true rfl) ⟨hc, hs⟩ dL_law_810) [0, 1, 2, 3, 4, 5, 6, 7, 8, 9, 10, 11, 12, 13, 14, 15, 16, 30, 31, 32, 33, 34, 35, 36, 37, 38, 39, 40, 41, 42, 43, 72] [17, 18, 19, 20, 21, 22, 23, 24, 25, 26, 27, 28, 29, 44, 45, 46, 47, 48, 49, 50, 51, 52, 53, 54, 55, 56, 57, 58, 59, 60, 61, 62, 63, 64, 65, 66, 67, 68, 69, 70, 71] rfl rfl rfl rfl rfl (fun _ => rfl) (fun _ => rfl) (fun _ => rfl) (fun v_32 uz hF => ?_)
    obtain ⟨T_29, T_30, r_31⟩ := uz
    refine zv_istore (pc := 813) (lv' := [(5, .int v_32), (4, .int i), (0, .ref b), (1, .ref adO), (2, .ref adM), (3, .ref qout)]) C (by decide) rfl dL_law_813 ?_
    refine zv_aload_n (pc := 815) C rfl 4 rfl dL_law_815 ?_
    refine zv_aload_n (pc := 816) C rfl 2 rfl dL_law_816 ?_
    refine zv_iload (pc := 817) C 1 rfl dL_law_817 ?_
    refine zv_iconst (pc := 819) (v := 1) C (by decide) dL_law_819 ?_
    refine zv_iadd (pc := 820) C  dL_law_820 ?_
    obtain ⟨h_33, hF⟩ := hF
    refine zl_sld (pc := 821) C hX hbl hbA h_33 dL_law_821 ?_
    refine zv_aload_n (pc := 822) C rfl 2 rfl dL_law_822 ?_
    refine zv_iload (pc := 823) C 1 rfl dL_law_823 ?_
    refine zv_iconst (pc := 825) (v := 2) C (by decide) dL_law_825 ?_
    refine zv_iadd (pc := 826) C  dL_law_826 ?_
    obtain ⟨h_34, hF⟩ := hF
    refine zl_sld (pc := 827) C hX hbl hbA h_34 dL_law_827 ?_
    refine zv_aload_n (pc := 828) C rfl 2 rfl dL_law_828 ?_
    refine zv_iload (pc := 829) C 1 rfl dL_law_829 ?_
    refine zv_iconst (pc := 831) (v := 3) C (by decide) dL_law_831 ?_
    refine zv_iadd (pc := 832) C  dL_law_832 ?_
    obtain ⟨h_35, hF⟩ := hF
    refine zl_sld (pc := 833) C hX hbl hbA h_35 dL_law_833 ?_
    refine zv_if_eq (pc := 834) (tgt := 841) C dL_law_834 (by decide) (fun c_36 => ?_) (fun c_36 => ?_)
    · replace hF := And.left hF c_36
      refine zv_iconst (pc := 841) (v := 0) C (by decide) dL_law_841 ?_
      refine zv_aload_n (pc := 842) C rfl 2 rfl dL_law_842 ?_
      refine zv_iload (pc := 843) C 1 rfl dL_law_843 ?_
      refine zv_iconst (pc := 845) (v := 4) C (by decide) dL_law_845 ?_
      refine zv_iadd (pc := 846) C  dL_law_846 ?_
      obtain ⟨h_37, hF⟩ := hF
      refine zl_sld (pc := 847) C hX hbl hbA h_37 dL_law_847 ?_
      refine zv_ci0 (pc := 848) (ws' := (fun uz : zMem => (zd_L_law cI cL adO qO3 qO4 qO5 qO6 adP0 qP00 qP01 qP02 qP03 qP04 adP1 qP10 qP11 qP12 qP13 qP14 adP2 qP20 qP21 qP22 qP23 qP24 adN qN0 qN1 qN2 qN3 qN4 qN5 adT qT0 qT1 qT2 qT3 qT4 qT5 qT6 qT7 adF0 qF00 qF01 qF02 qF03 adF1 qF10 qF11 qF12 qF13 adF2 qF20 qF21 qF22 qF23 adM qM1 qM2 qM3 qM4 qM5 qM6 qM7 qM8 qM12 qM13 qM15 qM16 qM17 qM18 qM19 qM20 qM21 qout O P0 P1 P2 N T_29 T_30 F1 F2 uz r_31))) C (zv_runV (As := [.int (xs (Int32.toNatClampNeg (i + (1 : Int32)))), .int (xs (Int32.toNatClampNeg (i + (2 : Int32)))), .int (0 : Int32), .int (xs (Int32.toNatClampNeg (i + (4 : Int32))))]) (b := adM) (rest := []) (ci := 5) (q0 := 54) C (zc_X6_entry l G cI adM qM1 qM2 qM3 qM4 qM5 qM6 qM7 qM8 qM12 qM13 qM15 qM16 qM17 qM18 qM19 qM20 qM21 M (xs (Int32.toNatClampNeg (i + (1 : Int32)))) (xs (Int32.toNatClampNeg (i + (2 : Int32)))) (0 : Int32) (xs (Int32.toNatClampNeg (i + (4 : Int32)))) _ hF) (cwV 4 C.2.2.2.2.1 lwc_X6_entry rfl rfl rfl zy_X6_entry ⟨(Nat.le_of_ble_eq_true rfl), (Nat.le_of_ble_eq_true rfl)⟩) rfl rfl rfl rfl rfl (Nat.le_of_ble_eq_true rfl) ⟨hc, hs⟩ dL_law_848) [54, 55, 56, 57, 58, 59, 60, 61, 62, 63, 64, 65, 66, 67, 68, 69, 70, 71] [0, 1, 2, 3, 4, 5, 6, 7, 8, 9, 10, 11, 12, 13, 14, 15, 16, 17, 18, 19, 20, 21, 22, 23, 24, 25, 26, 27, 28, 29, 30, 31, 32, 33, 34, 35, 36, 37, 38, 39, 40, 41, 42, 43, 44, 45, 46, 47, 48, 49, 50, 51, 52, 53, 72] rfl rfl rfl rfl rfl (fun _ => rfl) (fun _ => rfl) (fun _ => rfl) (fun v_39 uz hF => ?_)
      obtain ⟨T_38, hE⟩ : ∃ z, z = uz := ⟨_, rfl⟩; subst hE
      refine zv_istore (pc := 851) (lv' := [(6, .int v_39), (5, .int v_32), (4, .int i), (0, .ref b), (1, .ref adO), (2, .ref adM), (3, .ref qout)]) C (by decide) rfl dL_law_851 ?_
      refine zv_aload_n (pc := 853) C rfl 5 rfl dL_law_853 ?_
      refine zv_ci0 (pc := 854) (ws' := (fun uz : Unit => (zd_L_law cI cL adO qO3 qO4 qO5 qO6 adP0 qP00 qP01 qP02 qP03 qP04 adP1 qP10 qP11 qP12 qP13 qP14 adP2 qP20 qP21 qP22 qP23 qP24 adN qN0 qN1 qN2 qN3 qN4 qN5 adT qT0 qT1 qT2 qT3 qT4 qT5 qT6 qT7 adF0 qF00 qF01 qF02 qF03 adF1 qF10 qF11 qF12 qF13 adF2 qF20 qF21 qF22 qF23 adM qM1 qM2 qM3 qM4 qM5 qM6 qM7 qM8 qM12 qM13 qM15 qM16 qM17 qM18 qM19 qM20 qM21 qout O P0 P1 P2 N T_29 T_30 F1 F2 T_38 r_31))) C (zv_runV (As := []) (b := adM) (rest := []) (ci := 5) (q0 := 54) C (zc_X6_thrown l G cI adM qM1 qM2 qM3 qM4 qM5 qM6 qM7 qM8 qM12 qM13 qM15 qM16 qM17 qM18 qM19 qM20 qM21 T_38 _ hF) (cwV 0 C.2.2.2.2.1 lwc_X6_thrown rfl rfl rfl zy_X6_thrown ⟨(Nat.le_of_ble_eq_true rfl), (Nat.le_of_ble_eq_true rfl)⟩) rfl rfl rfl rfl rfl (Nat.le_of_ble_eq_true rfl) ⟨hc, hs⟩ dL_law_854) [54, 55, 56, 57, 58, 59, 60, 61, 62, 63, 64, 65, 66, 67, 68, 69, 70, 71] [0, 1, 2, 3, 4, 5, 6, 7, 8, 9, 10, 11, 12, 13, 14, 15, 16, 17, 18, 19, 20, 21, 22, 23, 24, 25, 26, 27, 28, 29, 30, 31, 32, 33, 34, 35, 36, 37, 38, 39, 40, 41, 42, 43, 44, 45, 46, 47, 48, 49, 50, 51, 52, 53, 72] rfl rfl rfl rfl rfl (fun _ => rfl) (fun _ => rfl) (fun _ => rfl) (fun v_40 uz hF => ?_)
      refine zv_iload (pc := 857) C 1 rfl dL_law_857 ?_
      refine zv_icmp_eq (pc := 859) (tgt := 864) C dL_law_859 (by decide) (fun c_41 => ?_) (fun c_41 => ?_)
      · replace hF := And.left hF c_41
        refine zv_iload (pc := 864) C 1 rfl dL_law_864 ?_
        refine zv_if_ne (pc := 866) (tgt := 881) C dL_law_866 (by decide) (fun c_42 => ?_) (fun c_42 => ?_)
        · replace hF := And.left hF c_42
          refine zv_goto (pc := 881) (tgt := 1485) C dL_law_881 (by decide) ?_
          exact zv_lvs [2, 3, 4, 5, 6] rfl (hK O P0 P1 P2 N T_29 T_30 F1 F2 T_38 r_31 hF)
        · replace hF := And.right hF c_42
          refine zv_aload_n (pc := 869) C rfl 6 rfl dL_law_869 ?_
          refine zv_iconst (pc := 870) (v := 0) C (by decide) dL_law_870 ?_
          refine zl_lald (pc := 871) (n := 1) (f := r_31) C hKL 72 (vp_in_iff.mpr (by decide)) rfl dL_law_871 ?_
          refine zv_iload (pc := 872) C 0 rfl dL_law_872 ?_
          refine zv_i2l (pc := 874) C  dL_law_874 ?_
          refine zv_lcmp (pc := 875) C  dL_law_875 ?_
          refine zv_if_eq (pc := 876) (tgt := 881) C dL_law_876 (by decide) (fun c_43 => ?_) (fun c_43 => ?_)
          · replace hF := And.left hF c_43
            refine zv_goto (pc := 881) (tgt := 1485) C dL_law_881 (by decide) ?_
            exact zv_lvs [2, 3, 4, 5, 6] rfl (hK O P0 P1 P2 N T_29 T_30 F1 F2 T_38 r_31 hF)
          · replace hF := And.right hF c_43
            refine zv_iconst (pc := 879) (v := 0) C (by decide) dL_law_879 ?_
            exact (show False from hF).elim
      · replace hF := And.right hF c_41
        refine zv_iconst (pc := 862) (v := 0) C (by decide) dL_law_862 ?_
        exact (show False from hF).elim
    · replace hF := And.right hF c_36
      refine zv_iconst (pc := 837) (v := 1) C (by decide) dL_law_837 ?_
      refine zv_goto (pc := 838) (tgt := 842) C dL_law_838 (by decide) ?_
      refine zv_aload_n (pc := 842) C rfl 2 rfl dL_law_842 ?_
      refine zv_iload (pc := 843) C 1 rfl dL_law_843 ?_
      refine zv_iconst (pc := 845) (v := 4) C (by decide) dL_law_845 ?_
      refine zv_iadd (pc := 846) C  dL_law_846 ?_
      obtain ⟨h_44, hF⟩ := hF
      refine zl_sld (pc := 847) C hX hbl hbA h_44 dL_law_847 ?_
      refine zv_ci0 (pc := 848) (ws' := (fun uz : zMem => (zd_L_law cI cL adO qO3 qO4 qO5 qO6 adP0 qP00 qP01 qP02 qP03 qP04 adP1 qP10 qP11 qP12 qP13 qP14 adP2 qP20 qP21 qP22 qP23 qP24 adN qN0 qN1 qN2 qN3 qN4 qN5 adT qT0 qT1 qT2 qT3 qT4 qT5 qT6 qT7 adF0 qF00 qF01 qF02 qF03 adF1 qF10 qF11 qF12 qF13 adF2 qF20 qF21 qF22 qF23 adM qM1 qM2 qM3 qM4 qM5 qM6 qM7 qM8 qM12 qM13 qM15 qM16 qM17 qM18 qM19 qM20 qM21 qout O P0 P1 P2 N T_29 T_30 F1 F2 uz r_31))) C (zv_runV (As := [.int (xs (Int32.toNatClampNeg (i + (1 : Int32)))), .int (xs (Int32.toNatClampNeg (i + (2 : Int32)))), .int (1 : Int32), .int (xs (Int32.toNatClampNeg (i + (4 : Int32))))]) (b := adM) (rest := []) (ci := 5) (q0 := 54) C (zc_X6_entry l G cI adM qM1 qM2 qM3 qM4 qM5 qM6 qM7 qM8 qM12 qM13 qM15 qM16 qM17 qM18 qM19 qM20 qM21 M (xs (Int32.toNatClampNeg (i + (1 : Int32)))) (xs (Int32.toNatClampNeg (i + (2 : Int32)))) (1 : Int32) (xs (Int32.toNatClampNeg (i + (4 : Int32)))) _ hF) (cwV 4 C.2.2.2.2.1 lwc_X6_entry rfl rfl rfl zy_X6_entry ⟨(Nat.le_of_ble_eq_true rfl), (Nat.le_of_ble_eq_true rfl)⟩) rfl rfl rfl rfl rfl (Nat.le_of_ble_eq_true rfl) ⟨hc, hs⟩ dL_law_848) [54, 55, 56, 57, 58, 59, 60, 61, 62, 63, 64, 65, 66, 67, 68, 69, 70, 71] [0, 1, 2, 3, 4, 5, 6, 7, 8, 9, 10, 11, 12, 13, 14, 15, 16, 17, 18, 19, 20, 21, 22, 23, 24, 25, 26, 27, 28, 29, 30, 31, 32, 33, 34, 35, 36, 37, 38, 39, 40, 41, 42, 43, 44, 45, 46, 47, 48, 49, 50, 51, 52, 53, 72] rfl rfl rfl rfl rfl (fun _ => rfl) (fun _ => rfl) (fun _ => rfl) (fun v_46 uz hF => ?_)
      obtain ⟨T_45, hE⟩ : ∃ z, z = uz := ⟨_, rfl⟩; subst hE
      refine zv_istore (pc := 851) (lv' := [(6, .int v_46), (5, .int v_32), (4, .int i), (0, .ref b), (1, .ref adO), (2, .ref adM), (3, .ref qout)]) C (by decide) rfl dL_law_851 ?_
      refine zv_aload_n (pc := 853) C rfl 5 rfl dL_law_853 ?_
      refine zv_ci0 (pc := 854) (ws' := (fun uz : Unit => (zd_L_law cI cL adO qO3 qO4 qO5 qO6 adP0 qP00 qP01 qP02 qP03 qP04 adP1 qP10 qP11 qP12 qP13 qP14 adP2 qP20 qP21 qP22 qP23 qP24 adN qN0 qN1 qN2 qN3 qN4 qN5 adT qT0 qT1 qT2 qT3 qT4 qT5 qT6 qT7 adF0 qF00 qF01 qF02 qF03 adF1 qF10 qF11 qF12 qF13 adF2 qF20 qF21 qF22 qF23 adM qM1 qM2 qM3 qM4 qM5 qM6 qM7 qM8 qM12 qM13 qM15 qM16 qM17 qM18 qM19 qM20 qM21 qout O P0 P1 P2 N T_29 T_30 F1 F2 T_45 r_31))) C (zv_runV (As := []) (b := adM) (rest := []) (ci := 5) (q0 := 54) C (zc_X6_thrown l G cI adM qM1 qM2 qM3 qM4 qM5 qM6 qM7 qM8 qM12 qM13 qM15 qM16 qM17 qM18 qM19 qM20 qM21 T_45 _ hF) (cwV 0 C.2.2.2.2.1 lwc_X6_thrown rfl rfl rfl zy_X6_thrown ⟨(Nat.le_of_ble_eq_true rfl), (Nat.le_of_ble_eq_true rfl)⟩) rfl rfl rfl rfl rfl (Nat.le_of_ble_eq_true rfl) ⟨hc, hs⟩ dL_law_854) [54, 55, 56, 57, 58, 59, 60, 61, 62, 63, 64, 65, 66, 67, 68, 69, 70, 71] [0, 1, 2, 3, 4, 5, 6, 7, 8, 9, 10, 11, 12, 13, 14, 15, 16, 17, 18, 19, 20, 21, 22, 23, 24, 25, 26, 27, 28, 29, 30, 31, 32, 33, 34, 35, 36, 37, 38, 39, 40, 41, 42, 43, 44, 45, 46, 47, 48, 49, 50, 51, 52, 53, 72] rfl rfl rfl rfl rfl (fun _ => rfl) (fun _ => rfl) (fun _ => rfl) (fun v_47 uz hF => ?_)
      refine zv_iload (pc := 857) C 1 rfl dL_law_857 ?_
      refine zv_icmp_eq (pc := 859) (tgt := 864) C dL_law_859 (by decide) (fun c_48 => ?_) (fun c_48 => ?_)
      · replace hF := And.left hF c_48
        refine zv_iload (pc := 864) C 1 rfl dL_law_864 ?_
        refine zv_if_ne (pc := 866) (tgt := 881) C dL_law_866 (by decide) (fun c_49 => ?_) (fun c_49 => ?_)
        · replace hF := And.left hF c_49
          refine zv_goto (pc := 881) (tgt := 1485) C dL_law_881 (by decide) ?_
          exact zv_lvs [2, 3, 4, 5, 6] rfl (hK O P0 P1 P2 N T_29 T_30 F1 F2 T_45 r_31 hF)
        · replace hF := And.right hF c_49
          refine zv_aload_n (pc := 869) C rfl 6 rfl dL_law_869 ?_
          refine zv_iconst (pc := 870) (v := 0) C (by decide) dL_law_870 ?_
          refine zl_lald (pc := 871) (n := 1) (f := r_31) C hKL 72 (vp_in_iff.mpr (by decide)) rfl dL_law_871 ?_
          refine zv_iload (pc := 872) C 0 rfl dL_law_872 ?_
          refine zv_i2l (pc := 874) C  dL_law_874 ?_
          refine zv_lcmp (pc := 875) C  dL_law_875 ?_
          refine zv_if_eq (pc := 876) (tgt := 881) C dL_law_876 (by decide) (fun c_50 => ?_) (fun c_50 => ?_)
          · replace hF := And.left hF c_50
            refine zv_goto (pc := 881) (tgt := 1485) C dL_law_881 (by decide) ?_
            exact zv_lvs [2, 3, 4, 5, 6] rfl (hK O P0 P1 P2 N T_29 T_30 F1 F2 T_45 r_31 hF)
          · replace hF := And.right hF c_50
            refine zv_iconst (pc := 879) (v := 0) C (by decide) dL_law_879 ?_
            exact (show False from hF).elim
      · replace hF := And.right hF c_48
        refine zv_iconst (pc := 862) (v := 0) C (by decide) dL_law_862 ?_
        exact (show False from hF).elim
