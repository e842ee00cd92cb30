set_option maxRecDepth 20000 in
theorem ggX5_init_X3_init : GoodIn wsX5_init wsX3_init := goodIn_r _ [33, 34, 2, 3, 10, 35, 36, 37, 38, 39, 40, 81, 82, 83, 84, 85, 86] rfl rfl
set_option maxRecDepth 20000 in
theorem gX5_init_X3_init_n9 : GoodIn wsX5_init (wsX3_init) := ggX5_init_X3_init
set_option maxRecDepth 20000 in
theorem ggX5_init_X2_init : GoodIn wsX5_init wsX2_init := goodIn_r _ [43, 44, 2, 3, 10, 45, 46, 47, 48, 49, 50, 51, 52, 53, 54, 17, 55, 56, 57, 58, 59, 102, 103, 104, 105, 106, 107, 108] rfl rfl
set_option maxRecDepth 20000 in
theorem gX5_init_X2_init : GoodIn wsX5_init (wsX2_init) := ggX5_init_X2_init
set_option maxRecDepth 20000 in
theorem ggX5_init_X4_init : GoodIn wsX5_init wsX4_init := goodIn_r _ [61, 62, 2, 3, 10, 63, 64, 65, 66, 67, 68, 69, 70, 71, 72, 73, 109, 110, 111, 112, 113, 114, 115, 116, 117, 118, 119] rfl rfl
set_option maxRecDepth 20000 in
theorem gX5_init_X4_init_n44 : GoodIn wsX5_init (wsX4_init) := ggX5_init_X4_init
set_option maxRecDepth 20000 in
theorem ggX5_init_X0_init : GoodIn wsX5_init wsX0_init := goodIn_r _ [75, 76, 2, 3, 10, 77, 78, 79, 80, 120, 121, 122, 123] rfl rfl
set_option maxRecDepth 20000 in
theorem gX5_init_X0_init_n51 : GoodIn wsX5_init (wsX0_init) := ggX5_init_X0_init
theorem dX5_init_0 : decode cX5_init 0 = .ok (.aload_n 0, 1) := by decide +kernel
theorem dX5_init_1 : decode cX5_init 1 = .ok (.invokespecial 1, 3) := by decide +kernel
theorem dX5_init_4 : decode cX5_init 4 = .ok (.aload_n 0, 1) := by decide +kernel
theorem dX5_init_5 : decode cX5_init 5 = .ok (.new 7, 3) := by decide +kernel
theorem dX5_init_8 : decode cX5_init 8 = .ok (.dup, 1) := by decide +kernel
theorem dX5_init_9 : decode cX5_init 9 = .ok (.invokespecial 9, 3) := by decide +kernel
theorem dX5_init_12 : decode cX5_init 12 = .ok (.putfield 10, 3) := by decide +kernel
theorem dX5_init_15 : decode cX5_init 15 = .ok (.aload_n 0, 1) := by decide +kernel
theorem dX5_init_16 : decode cX5_init 16 = .ok (.new 7, 3) := by decide +kernel
theorem dX5_init_19 : decode cX5_init 19 = .ok (.dup, 1) := by decide +kernel
theorem dX5_init_20 : decode cX5_init 20 = .ok (.invokespecial 9, 3) := by decide +kernel
theorem dX5_init_23 : decode cX5_init 23 = .ok (.putfield 16, 3) := by decide +kernel
theorem dX5_init_26 : decode cX5_init 26 = .ok (.aload_n 0, 1) := by decide +kernel
theorem dX5_init_27 : decode cX5_init 27 = .ok (.new 7, 3) := by decide +kernel
theorem dX5_init_30 : decode cX5_init 30 = .ok (.dup, 1) := by decide +kernel
theorem dX5_init_31 : decode cX5_init 31 = .ok (.invokespecial 9, 3) := by decide +kernel
theorem dX5_init_34 : decode cX5_init 34 = .ok (.putfield 19, 3) := by decide +kernel
theorem dX5_init_37 : decode cX5_init 37 = .ok (.aload_n 0, 1) := by decide +kernel
theorem dX5_init_38 : decode cX5_init 38 = .ok (.bipush 6, 2) := by decide +kernel
theorem dX5_init_40 : decode cX5_init 40 = .ok (.newarray .int, 2) := by decide +kernel
theorem dX5_init_42 : decode cX5_init 42 = .ok (.putfield 22, 3) := by decide +kernel
theorem dX5_init_45 : decode cX5_init 45 = .ok (.aload_n 0, 1) := by decide +kernel
theorem dX5_init_46 : decode cX5_init 46 = .ok (.bipush 6, 2) := by decide +kernel
theorem dX5_init_48 : decode cX5_init 48 = .ok (.newarray .int, 2) := by decide +kernel
theorem dX5_init_50 : decode cX5_init 50 = .ok (.putfield 26, 3) := by decide +kernel
theorem dX5_init_53 : decode cX5_init 53 = .ok (.aload_n 0, 1) := by decide +kernel
theorem dX5_init_54 : decode cX5_init 54 = .ok (.iconst 3, 1) := by decide +kernel
theorem dX5_init_55 : decode cX5_init 55 = .ok (.newarray .int, 2) := by decide +kernel
theorem dX5_init_57 : decode cX5_init 57 = .ok (.putfield 29, 3) := by decide +kernel
theorem dX5_init_60 : decode cX5_init 60 = .ok (.aload_n 0, 1) := by decide +kernel
theorem dX5_init_61 : decode cX5_init 61 = .ok (.iconst 3, 1) := by decide +kernel
theorem dX5_init_62 : decode cX5_init 62 = .ok (.newarray .int, 2) := by decide +kernel
theorem dX5_init_64 : decode cX5_init 64 = .ok (.putfield 32, 3) := by decide +kernel
theorem dX5_init_67 : decode cX5_init 67 = .ok (.aload_n 0, 1) := by decide +kernel
theorem dX5_init_68 : decode cX5_init 68 = .ok (.new 35, 3) := by decide +kernel
theorem dX5_init_71 : decode cX5_init 71 = .ok (.dup, 1) := by decide +kernel
theorem dX5_init_72 : decode cX5_init 72 = .ok (.invokespecial 37, 3) := by decide +kernel
theorem dX5_init_75 : decode cX5_init 75 = .ok (.putfield 38, 3) := by decide +kernel
theorem dX5_init_78 : decode cX5_init 78 = .ok (.aload_n 0, 1) := by decide +kernel
theorem dX5_init_79 : decode cX5_init 79 = .ok (.new 42, 3) := by decide +kernel
theorem dX5_init_82 : decode cX5_init 82 = .ok (.dup, 1) := by decide +kernel
theorem dX5_init_83 : decode cX5_init 83 = .ok (.invokespecial 44, 3) := by decide +kernel
theorem dX5_init_86 : decode cX5_init 86 = .ok (.putfield 45, 3) := by decide +kernel
theorem dX5_init_89 : decode cX5_init 89 = .ok (.aload_n 0, 1) := by decide +kernel
theorem dX5_init_90 : decode cX5_init 90 = .ok (.new 49, 3) := by decide +kernel
theorem dX5_init_93 : decode cX5_init 93 = .ok (.dup, 1) := by decide +kernel
theorem dX5_init_94 : decode cX5_init 94 = .ok (.invokespecial 51, 3) := by decide +kernel
theorem dX5_init_97 : decode cX5_init 97 = .ok (.putfield 52, 3) := by decide +kernel
theorem dX5_init_100 : decode cX5_init 100 = .ok (.aload_n 0, 1) := by decide +kernel
theorem dX5_init_101 : decode cX5_init 101 = .ok (.new 49, 3) := by decide +kernel
theorem dX5_init_104 : decode cX5_init 104 = .ok (.dup, 1) := by decide +kernel
theorem dX5_init_105 : decode cX5_init 105 = .ok (.invokespecial 51, 3) := by decide +kernel
theorem dX5_init_108 : decode cX5_init 108 = .ok (.putfield 56, 3) := by decide +kernel
theorem dX5_init_111 : decode cX5_init 111 = .ok (.aload_n 0, 1) := by decide +kernel
theorem dX5_init_112 : decode cX5_init 112 = .ok (.new 49, 3) := by decide +kernel
theorem dX5_init_115 : decode cX5_init 115 = .ok (.dup, 1) := by decide +kernel
theorem dX5_init_116 : decode cX5_init 116 = .ok (.invokespecial 51, 3) := by decide +kernel
theorem dX5_init_119 : decode cX5_init 119 = .ok (.putfield 59, 3) := by decide +kernel
theorem dX5_init_122 : decode cX5_init 122 = .ok (.aload_n 0, 1) := by decide +kernel
theorem dX5_init_123 : decode cX5_init 123 = .ok (.iconst 0, 1) := by decide +kernel
theorem dX5_init_124 : decode cX5_init 124 = .ok (.putfield 62, 3) := by decide +kernel
theorem dX5_init_127 : decode cX5_init 127 = .ok (.aload_n 0, 1) := by decide +kernel
theorem dX5_init_128 : decode cX5_init 128 = .ok (.iconst 1, 1) := by decide +kernel
theorem dX5_init_129 : decode cX5_init 129 = .ok (.putfield 66, 3) := by decide +kernel
theorem dX5_init_132 : decode cX5_init 132 = .ok (.aload_n 0, 1) := by decide +kernel
theorem dX5_init_133 : decode cX5_init 133 = .ok (.iconst 0, 1) := by decide +kernel
theorem dX5_init_134 : decode cX5_init 134 = .ok (.putfield 69, 3) := by decide +kernel
theorem dX5_init_137 : decode cX5_init 137 = .ok (.return_, 1) := by decide +kernel
set_option maxRecDepth 20000 in
theorem ggX5_edge_X5_pileAt : GoodIn wsX5_edge wsX5_pileAt := goodIn_ca (goodIn_r _ [7, 8, 9, 10, 11, 25, 26, 27, 28, 29, 30, 31, 32, 33, 34, 35, 36, 37, 38, 39] (by decide +kernel) (by decide +kernel)) (goodIn_sub (fun _ h => List.mem_cons_of_mem _ (List.mem_append_right _ h)) (by decide +kernel))
set_option maxRecDepth 20000 in
theorem gX5_edge_X5_pileAt : GoodIn wsX5_edge (wsV RX5 72 RX5 yX5_pileAt wsX5_pileAt) := goodIn_app (goodIn_r _ [3, 4, 5, 6] rfl rfl) ggX5_edge_X5_pileAt
set_option maxRecDepth 20000 in
theorem ggX5_edge_X5_needIndex : GoodIn wsX5_edge wsX5_needIndex := goodIn_ca (goodIn_r _ [14, 1, 2] (by decide +kernel) (by decide +kernel)) (goodIn_sub (fun _ h => List.mem_cons_of_mem _ (List.mem_append_left _ (List.mem_append_right _ h))) (by decide +kernel))
set_option maxRecDepth 20000 in
theorem gX5_edge_X5_needIndex : GoodIn wsX5_edge (va_wsS RX5 83 yX5_needIndex wsX5_needIndex) := goodIn_app (goodIn_r _ [12, 13, 6] rfl rfl) ggX5_edge_X5_needIndex
set_option maxRecDepth 20000 in
theorem ggX5_edge_X3_setEdge : GoodIn wsX5_edge wsX3_setEdge := goodIn_r _ [19, 20, 21, 22, 23, 18, 24, 40, 41, 42, 43, 44, 45] rfl rfl
set_option maxRecDepth 20000 in
theorem gX5_edge_X3_setEdge : GoodIn wsX5_edge (wsV RX5 87 RX3 yX3_setEdge wsX3_setEdge) := goodIn_app (goodIn_r _ [15, 16, 17, 18] rfl rfl) ggX5_edge_X3_setEdge
theorem dX5_edge_0 : decode cX5_edge 0 = .ok (.aload_n 0, 1) := by decide +kernel
theorem dX5_edge_1 : decode cX5_edge 1 = .ok (.iload_n 1, 1) := by decide +kernel
theorem dX5_edge_2 : decode cX5_edge 2 = .ok (.invokevirtual 72, 3) := by decide +kernel
theorem dX5_edge_5 : decode cX5_edge 5 = .ok (.astore 5, 2) := by decide +kernel
theorem dX5_edge_7 : decode cX5_edge 7 = .ok (.iload_n 2, 1) := by decide +kernel
theorem dX5_edge_8 : decode cX5_edge 8 = .ok (.ifCond .eq 18, 3) := by decide +kernel
theorem dX5_edge_11 : decode cX5_edge 11 = .ok (.iload_n 2, 1) := by decide +kernel
theorem dX5_edge_12 : decode cX5_edge 12 = .ok (.iconst 1, 1) := by decide +kernel
theorem dX5_edge_13 : decode cX5_edge 13 = .ok (.if_icmp .eq 13, 3) := by decide +kernel
theorem dX5_edge_16 : decode cX5_edge 16 = .ok (.new 76, 3) := by decide +kernel
theorem dX5_edge_19 : decode cX5_edge 19 = .ok (.dup, 1) := by decide +kernel
theorem dX5_edge_20 : decode cX5_edge 20 = .ok (.ldc 78, 2) := by decide +kernel
theorem dX5_edge_22 : decode cX5_edge 22 = .ok (.invokespecial 80, 3) := by decide +kernel
theorem dX5_edge_25 : decode cX5_edge 25 = .ok (.athrow, 1) := by decide +kernel
theorem dX5_edge_26 : decode cX5_edge 26 = .ok (.iload_n 3, 1) := by decide +kernel
theorem dX5_edge_27 : decode cX5_edge 27 = .ok (.iload 4, 2) := by decide +kernel
theorem dX5_edge_29 : decode cX5_edge 29 = .ok (.invokestatic 83, 3) := by decide +kernel
theorem dX5_edge_32 : decode cX5_edge 32 = .ok (.aload 5, 2) := by decide +kernel
theorem dX5_edge_34 : decode cX5_edge 34 = .ok (.iload_n 2, 1) := by decide +kernel
theorem dX5_edge_35 : decode cX5_edge 35 = .ok (.iload_n 3, 1) := by decide +kernel
theorem dX5_edge_36 : decode cX5_edge 36 = .ok (.iload 4, 2) := by decide +kernel
theorem dX5_edge_38 : decode cX5_edge 38 = .ok (.invokevirtual 87, 3) := by decide +kernel
theorem dX5_edge_41 : decode cX5_edge 41 = .ok (.return_, 1) := by decide +kernel
set_option maxRecDepth 20000 in
theorem ggX5_layer_X5_pileAt : GoodIn wsX5_layer wsX5_pileAt := goodIn_ca (goodIn_r _ [8, 9, 10, 11, 12, 38, 39, 40, 41, 42, 43, 44, 45, 46, 47, 48, 49, 50, 51, 52] (by decide +kernel) (by decide +kernel)) (goodIn_sub (fun _ h => List.mem_cons_of_mem _ (List.mem_append_right _ h)) (by decide +kernel))
set_option maxRecDepth 20000 in
theorem gX5_layer_X5_pileAt : GoodIn wsX5_layer (wsV RX5 72 RX5 yX5_pileAt wsX5_pileAt) := goodIn_app (goodIn_r _ [4, 5, 6, 7] rfl rfl) ggX5_layer_X5_pileAt
set_option maxRecDepth 20000 in
theorem ggX5_layer_X5_needIndex : GoodIn wsX5_layer wsX5_needIndex := goodIn_ca (goodIn_r _ [15, 1, 2] (by decide +kernel) (by decide +kernel)) (goodIn_sub (fun _ h => List.mem_cons_of_mem _ (List.mem_append_left _ (List.mem_append_right _ h))) (by decide +kernel))
set_option maxRecDepth 20000 in
theorem gX5_layer_X5_needIndex : GoodIn wsX5_layer (va_wsS RX5 83 yX5_needIndex wsX5_needIndex) := goodIn_app (goodIn_r _ [13, 14, 7] rfl rfl) ggX5_layer_X5_needIndex
set_option maxRecDepth 20000 in
theorem ggX5_layer_X3_insert : GoodIn wsX5_layer wsX3_insert := goodIn_r _ [20, 21, 22, 23, 24, 25, 26, 27, 19, 28, 29, 30, 31, 32, 33, 34, 35, 36, 37] rfl rfl
set_option maxRecDepth 20000 in
theorem gX5_layer_X3_insert : GoodIn wsX5_layer (wsV RX5 98 RX3 yX3_insert wsX3_insert) := goodIn_app (goodIn_r _ [16, 17, 18, 19] rfl rfl) ggX5_layer_X3_insert
theorem dX5_layer_0 : decode cX5_layer 0 = .ok (.aload_n 0, 1) := by decide +kernel
theorem dX5_layer_1 : decode cX5_layer 1 = .ok (.iload_n 1, 1) := by decide +kernel
theorem dX5_layer_2 : decode cX5_layer 2 = .ok (.invokevirtual 72, 3) := by decide +kernel
theorem dX5_layer_5 : decode cX5_layer 5 = .ok (.astore 6, 2) := by decide +kernel
theorem dX5_layer_7 : decode cX5_layer 7 = .ok (.iload_n 3, 1) := by decide +kernel
theorem dX5_layer_8 : decode cX5_layer 8 = .ok (.iload 4, 2) := by decide +kernel
theorem dX5_layer_10 : decode cX5_layer 10 = .ok (.invokestatic 83, 3) := by decide +kernel
theorem dX5_layer_13 : decode cX5_layer 13 = .ok (.iload 5, 2) := by decide +kernel
theorem dX5_layer_15 : decode cX5_layer 15 = .ok (.iconst 1, 1) := by decide +kernel
theorem dX5_layer_16 : decode cX5_layer 16 = .ok (.if_icmp .lt 9, 3) := by decide +kernel
theorem dX5_layer_19 : decode cX5_layer 19 = .ok (.iload 5, 2) := by decide +kernel
theorem dX5_layer_21 : decode cX5_layer 21 = .ok (.iconst 4, 1) := by decide +kernel
theorem dX5_layer_22 : decode cX5_layer 22 = .ok (.if_icmp .le 13, 3) := by decide +kernel
theorem dX5_layer_25 : decode cX5_layer 25 = .ok (.new 76, 3) := by decide +kernel
theorem dX5_layer_28 : decode cX5_layer 28 = .ok (.dup, 1) := by decide +kernel
theorem dX5_layer_29 : decode cX5_layer 29 = .ok (.ldc 91, 2) := by decide +kernel
theorem dX5_layer_31 : decode cX5_layer 31 = .ok (.invokespecial 80, 3) := by decide +kernel
theorem dX5_layer_34 : decode cX5_layer 34 = .ok (.athrow, 1) := by decide +kernel
theorem dX5_layer_35 : decode cX5_layer 35 = .ok (.iload_n 2, 1) := by decide +kernel
theorem dX5_layer_36 : decode cX5_layer 36 = .ok (.ifCond .lt 12, 3) := by decide +kernel
theorem dX5_layer_39 : decode cX5_layer 39 = .ok (.iload_n 2, 1) := by decide +kernel
theorem dX5_layer_40 : decode cX5_layer 40 = .ok (.aload 6, 2) := by decide +kernel
theorem dX5_layer_42 : decode cX5_layer 42 = .ok (.getfield 93, 3) := by decide +kernel
theorem dX5_layer_45 : decode cX5_layer 45 = .ok (.if_icmp .le 13, 3) := by decide +kernel
theorem dX5_layer_48 : decode cX5_layer 48 = .ok (.new 76, 3) := by decide +kernel
theorem dX5_layer_51 : decode cX5_layer 51 = .ok (.dup, 1) := by decide +kernel
theorem dX5_layer_52 : decode cX5_layer 52 = .ok (.ldc 96, 2) := by decide +kernel
theorem dX5_layer_54 : decode cX5_layer 54 = .ok (.invokespecial 80, 3) := by decide +kernel
theorem dX5_layer_57 : decode cX5_layer 57 = .ok (.athrow, 1) := by decide +kernel
theorem dX5_layer_58 : decode cX5_layer 58 = .ok (.aload 6, 2) := by decide +kernel
theorem dX5_layer_60 : decode cX5_layer 60 = .ok (.iload_n 2, 1) := by decide +kernel
theorem dX5_layer_61 : decode cX5_layer 61 = .ok (.iload_n 3, 1) := by decide +kernel
theorem dX5_layer_62 : decode cX5_layer 62 = .ok (.iload 4, 2) := by decide +kernel
theorem dX5_layer_64 : decode cX5_layer 64 = .ok (.iload 5, 2) := by decide +kernel
theorem dX5_layer_66 : decode cX5_layer 66 = .ok (.invokevirtual 98, 3) := by decide +kernel
theorem dX5_layer_69 : decode cX5_layer 69 = .ok (.ifCond .eq 11, 3) := by decide +kernel
theorem dX5_layer_72 : decode cX5_layer 72 = .ok (.aload 6, 2) := by decide +kernel
theorem dX5_layer_74 : decode cX5_layer 74 = .ok (.getfield 93, 3) := by decide +kernel
theorem dX5_layer_77 : decode cX5_layer 77 = .ok (.goto 4, 3) := by decide +kernel
theorem dX5_layer_80 : decode cX5_layer 80 = .ok (.iconst (-1), 1) := by decide +kernel
theorem dX5_layer_81 : decode cX5_layer 81 = .ok (.ireturn, 1) := by decide +kernel
set_option maxRecDepth 20000 in
theorem ggX5_drop_X5_pileAt : GoodIn wsX5_drop wsX5_pileAt := goodIn_ca (goodIn_r _ [8, 9, 10, 11, 12, 32, 33, 34, 35, 36, 37, 38, 39, 40, 41, 42, 43, 44, 45, 46] (by decide +kernel) (by decide +kernel)) (goodIn_sub (fun _ h => List.mem_cons_of_mem _ (List.mem_append_right _ h)) (by decide +kernel))
set_option maxRecDepth 20000 in
theorem gX5_drop_X5_pileAt : GoodIn wsX5_drop (wsV RX5 72 RX5 yX5_pileAt wsX5_pileAt) := goodIn_app (goodIn_r _ [4, 5, 6, 7] rfl rfl) ggX5_drop_X5_pileAt
set_option maxRecDepth 20000 in
theorem ggX5_drop_X3_remove : GoodIn wsX5_drop wsX3_remove := goodIn_r _ [17, 18, 19, 20, 21, 16, 22, 23, 24, 25, 26, 27, 28, 29, 30, 31] rfl rfl
set_option maxRecDepth 20000 in
theorem gX5_drop_X3_remove : GoodIn wsX5_drop (wsV RX5 107 RX3 yX3_remove wsX3_remove) := goodIn_app (goodIn_r _ [13, 14, 15, 16] rfl rfl) ggX5_drop_X3_remove
theorem dX5_drop_0 : decode cX5_drop 0 = .ok (.aload_n 0, 1) := by decide +kernel
theorem dX5_drop_1 : decode cX5_drop 1 = .ok (.iload_n 1, 1) := by decide +kernel
theorem dX5_drop_2 : decode cX5_drop 2 = .ok (.invokevirtual 72, 3) := by decide +kernel
theorem dX5_drop_5 : decode cX5_drop 5 = .ok (.astore_n 3, 1) := by decide +kernel
theorem dX5_drop_6 : decode cX5_drop 6 = .ok (.iload_n 2, 1) := by decide +kernel
theorem dX5_drop_7 : decode cX5_drop 7 = .ok (.ifCond .lt 11, 3) := by decide +kernel
theorem dX5_drop_10 : decode cX5_drop 10 = .ok (.iload_n 2, 1) := by decide +kernel
theorem dX5_drop_11 : decode cX5_drop 11 = .ok (.aload_n 3, 1) := by decide +kernel
theorem dX5_drop_12 : decode cX5_drop 12 = .ok (.getfield 93, 3) := by decide +kernel
theorem dX5_drop_15 : decode cX5_drop 15 = .ok (.if_icmp .lt 13, 3) := by decide +kernel
theorem dX5_drop_18 : decode cX5_drop 18 = .ok (.new 102, 3) := by decide +kernel
theorem dX5_drop_21 : decode cX5_drop 21 = .ok (.dup, 1) := by decide +kernel
theorem dX5_drop_22 : decode cX5_drop 22 = .ok (.ldc 104, 2) := by decide +kernel
theorem dX5_drop_24 : decode cX5_drop 24 = .ok (.invokespecial 106, 3) := by decide +kernel
theorem dX5_drop_27 : decode cX5_drop 27 = .ok (.athrow, 1) := by decide +kernel
theorem dX5_drop_28 : decode cX5_drop 28 = .ok (.aload_n 3, 1) := by decide +kernel
theorem dX5_drop_29 : decode cX5_drop 29 = .ok (.iload_n 2, 1) := by decide +kernel
theorem dX5_drop_30 : decode cX5_drop 30 = .ok (.invokevirtual 107, 3) := by decide +kernel
theorem dX5_drop_33 : decode cX5_drop 33 = .ok (.aload_n 3, 1) := by decide +kernel
theorem dX5_drop_34 : decode cX5_drop 34 = .ok (.getfield 93, 3) := by decide +kernel
theorem dX5_drop_37 : decode cX5_drop 37 = .ok (.ireturn, 1) := by decide +kernel
set_option maxRecDepth 20000 in
theorem ggX5_about_X5_pileAt : GoodIn wsX5_about wsX5_pileAt := goodIn_ca (goodIn_r _ [8, 9, 10, 11, 12, 34, 35, 36, 37, 38, 39, 40, 41, 42, 43, 44, 45, 46, 47, 48] (by decide +kernel) (by decide +kernel)) (goodIn_sub (fun _ h => List.mem_cons_of_mem _ (List.mem_append_right _ h)) (by decide +kernel))
set_option maxRecDepth 20000 in
theorem gX5_about_X5_pileAt : GoodIn wsX5_about (wsV RX5 72 RX5 yX5_pileAt wsX5_pileAt) := goodIn_app (goodIn_r _ [4, 5, 6, 7] rfl rfl) ggX5_about_X5_pileAt
set_option maxRecDepth 20000 in
theorem ggX5_about_X3_edgePart : GoodIn wsX5_about wsX3_edgePart := goodIn_r _ [17, 18, 19, 28, 29, 30, 31, 32, 33] rfl rfl
set_option maxRecDepth 20000 in
theorem gX5_about_X3_edgePart : GoodIn wsX5_about (wsV RX5 111 RX3 yX3_edgePart wsX3_edgePart) := goodIn_app (goodIn_r _ [13, 14, 15, 16] rfl rfl) ggX5_about_X3_edgePart
set_option maxRecDepth 20000 in
theorem ggX5_about_X3_layerPart : GoodIn wsX5_about wsX3_layerPart := goodIn_r _ [23, 24, 25, 26, 27, 28, 29, 30, 31, 32, 33] rfl rfl
set_option maxRecDepth 20000 in
theorem gX5_about_X3_layerPart : GoodIn wsX5_about (wsV RX5 117 RX3 yX3_layerPart wsX3_layerPart) := goodIn_app (goodIn_r _ [20, 21, 22, 16] rfl rfl) ggX5_about_X3_layerPart
theorem dX5_about_0 : decode cX5_about 0 = .ok (.aload_n 0, 1) := by decide +kernel
theorem dX5_about_1 : decode cX5_about 1 = .ok (.iload_n 1, 1) := by decide +kernel
theorem dX5_about_2 : decode cX5_about 2 = .ok (.invokevirtual 72, 3) := by decide +kernel
theorem dX5_about_5 : decode cX5_about 5 = .ok (.astore 4, 2) := by decide +kernel
theorem dX5_about_7 : decode cX5_about 7 = .ok (.iload_n 2, 1) := by decide +kernel
theorem dX5_about_8 : decode cX5_about 8 = .ok (.iconst (-1), 1) := by decide +kernel
theorem dX5_about_9 : decode cX5_about 9 = .ok (.if_icmp .ne 13, 3) := by decide +kernel
theorem dX5_about_12 : decode cX5_about 12 = .ok (.iload_n 3, 1) := by decide +kernel
theorem dX5_about_13 : decode cX5_about 13 = .ok (.ifCond .ne 9, 3) := by decide +kernel
theorem dX5_about_16 : decode cX5_about 16 = .ok (.aload 4, 2) := by decide +kernel
theorem dX5_about_18 : decode cX5_about 18 = .ok (.getfield 93, 3) := by decide +kernel
theorem dX5_about_21 : decode cX5_about 21 = .ok (.ireturn, 1) := by decide +kernel
theorem dX5_about_22 : decode cX5_about 22 = .ok (.iload_n 2, 1) := by decide +kernel
theorem dX5_about_23 : decode cX5_about 23 = .ok (.bipush (-2), 2) := by decide +kernel
theorem dX5_about_25 : decode cX5_about 25 = .ok (.if_icmp .ne 20, 3) := by decide +kernel
theorem dX5_about_28 : decode cX5_about 28 = .ok (.iload_n 3, 1) := by decide +kernel
theorem dX5_about_29 : decode cX5_about 29 = .ok (.ifCond .eq 8, 3) := by decide +kernel
theorem dX5_about_32 : decode cX5_about 32 = .ok (.iload_n 3, 1) := by decide +kernel
theorem dX5_about_33 : decode cX5_about 33 = .ok (.iconst 1, 1) := by decide +kernel
theorem dX5_about_34 : decode cX5_about 34 = .ok (.if_icmp .ne 11, 3) := by decide +kernel
theorem dX5_about_37 : decode cX5_about 37 = .ok (.aload 4, 2) := by decide +kernel
theorem dX5_about_39 : decode cX5_about 39 = .ok (.iconst 0, 1) := by decide +kernel
theorem dX5_about_40 : decode cX5_about 40 = .ok (.iload_n 3, 1) := by decide +kernel
theorem dX5_about_41 : decode cX5_about 41 = .ok (.invokevirtual 111, 3) := by decide +kernel
theorem dX5_about_44 : decode cX5_about 44 = .ok (.ireturn, 1) := by decide +kernel
theorem dX5_about_45 : decode cX5_about 45 = .ok (.iload_n 2, 1) := by decide +kernel
theorem dX5_about_46 : decode cX5_about 46 = .ok (.bipush (-3), 2) := by decide +kernel
theorem dX5_about_48 : decode cX5_about 48 = .ok (.if_icmp .ne 20, 3) := by decide +kernel
theorem dX5_about_51 : decode cX5_about 51 = .ok (.iload_n 3, 1) := by decide +kernel
theorem dX5_about_52 : decode cX5_about 52 = .ok (.ifCond .eq 8, 3) := by decide +kernel
theorem dX5_about_55 : decode cX5_about 55 = .ok (.iload_n 3, 1) := by decide +kernel
theorem dX5_about_56 : decode cX5_about 56 = .ok (.iconst 1, 1) := by decide +kernel
theorem dX5_about_57 : decode cX5_about 57 = .ok (.if_icmp .ne 11, 3) := by decide +kernel
theorem dX5_about_60 : decode cX5_about 60 = .ok (.aload 4, 2) := by decide +kernel
theorem dX5_about_62 : decode cX5_about 62 = .ok (.iconst 1, 1) := by decide +kernel
theorem dX5_about_63 : decode cX5_about 63 = .ok (.iload_n 3, 1) := by decide +kernel
theorem dX5_about_64 : decode cX5_about 64 = .ok (.invokevirtual 111, 3) := by decide +kernel
theorem dX5_about_67 : decode cX5_about 67 = .ok (.ireturn, 1) := by decide +kernel
theorem dX5_about_68 : decode cX5_about 68 = .ok (.iload_n 2, 1) := by decide +kernel
theorem dX5_about_69 : decode cX5_about 69 = .ok (.ifCond .lt 21, 3) := by decide +kernel
theorem dX5_about_72 : decode cX5_about 72 = .ok (.iload_n 2, 1) := by decide +kernel
theorem dX5_about_73 : decode cX5_about 73 = .ok (.aload 4, 2) := by decide +kernel
theorem dX5_about_75 : decode cX5_about 75 = .ok (.getfield 93, 3) := by decide +kernel
theorem dX5_about_78 : decode cX5_about 78 = .ok (.if_icmp .ge 12, 3) := by decide +kernel
theorem dX5_about_81 : decode cX5_about 81 = .ok (.iload_n 3, 1) := by decide +kernel
theorem dX5_about_82 : decode cX5_about 82 = .ok (.ifCond .lt 8, 3) := by decide +kernel
theorem dX5_about_85 : decode cX5_about 85 = .ok (.iload_n 3, 1) := by decide +kernel
theorem dX5_about_86 : decode cX5_about 86 = .ok (.iconst 2, 1) := by decide +kernel
theorem dX5_about_87 : decode cX5_about 87 = .ok (.if_icmp .le 13, 3) := by decide +kernel
theorem dX5_about_90 : decode cX5_about 90 = .ok (.new 102, 3) := by decide +kernel
theorem dX5_about_93 : decode cX5_about 93 = .ok (.dup, 1) := by decide +kernel
theorem dX5_about_94 : decode cX5_about 94 = .ok (.ldc 115, 2) := by decide +kernel
theorem dX5_about_96 : decode cX5_about 96 = .ok (.invokespecial 106, 3) := by decide +kernel
theorem dX5_about_99 : decode cX5_about 99 = .ok (.athrow, 1) := by decide +kernel
theorem dX5_about_100 : decode cX5_about 100 = .ok (.aload 4, 2) := by decide +kernel
theorem dX5_about_102 : decode cX5_about 102 = .ok (.iload_n 2, 1) := by decide +kernel
theorem dX5_about_103 : decode cX5_about 103 = .ok (.iload_n 3, 1) := by decide +kernel
theorem dX5_about_104 : decode cX5_about 104 = .ok (.invokevirtual 117, 3) := by decide +kernel
theorem dX5_about_107 : decode cX5_about 107 = .ok (.ireturn, 1) := by decide +kernel
set_option maxRecDepth 20000 in
theorem ggX5_turn_X5_pileAt : GoodIn wsX5_turn wsX5_pileAt := goodIn_ca (goodIn_r _ [5, 6, 7, 8, 9, 24, 25, 26, 27, 28, 29, 30, 31, 32, 33, 34, 35, 36, 37, 38] (by decide +kernel) (by decide +kernel)) (goodIn_sub (fun _ h => List.mem_cons_of_mem _ (List.mem_append_right _ h)) (by decide +kernel))
set_option maxRecDepth 20000 in
theorem gX5_turn_X5_pileAt : GoodIn wsX5_turn (wsV RX5 72 RX5 yX5_pileAt wsX5_pileAt) := goodIn_app (goodIn_r _ [1, 2, 3, 4] rfl rfl) ggX5_turn_X5_pileAt
set_option maxRecDepth 20000 in
theorem ggX5_turn_X3_reverse : GoodIn wsX5_turn wsX3_reverse := goodIn_r _ [14, 15, 16, 17, 18, 19, 20, 21, 22, 13, 23, 39, 40, 41, 42, 43, 44] rfl rfl
set_option maxRecDepth 20000 in
theorem gX5_turn_X3_reverse : GoodIn wsX5_turn (wsV RX5 120 RX3 yX3_reverse wsX3_reverse) := goodIn_app (goodIn_r _ [10, 11, 12, 13] rfl rfl) ggX5_turn_X3_reverse
theorem dX5_turn_0 : decode cX5_turn 0 = .ok (.aload_n 0, 1) := by decide +kernel
theorem dX5_turn_1 : decode cX5_turn 1 = .ok (.iload_n 1, 1) := by decide +kernel
theorem dX5_turn_2 : decode cX5_turn 2 = .ok (.invokevirtual 72, 3) := by decide +kernel
theorem dX5_turn_5 : decode cX5_turn 5 = .ok (.invokevirtual 120, 3) := by decide +kernel
theorem dX5_turn_8 : decode cX5_turn 8 = .ok (.return_, 1) := by decide +kernel
set_option maxRecDepth 20000 in
theorem ggX5_copy_X5_pileAt : GoodIn wsX5_copy wsX5_pileAt := goodIn_ca (goodIn_r _ [7, 8, 9, 2, 1, 25, 26, 27, 28, 29, 30, 31, 32, 33, 34, 35, 36, 37, 38, 39] (by decide +kernel) (by decide +kernel)) (goodIn_sub (fun _ h => List.mem_cons_of_mem _ (List.mem_append_right _ h)) (by decide +kernel))
set_option maxRecDepth 20000 in
theorem gX5_copy_X5_pileAt : GoodIn wsX5_copy (wsV RX5 72 RX5 yX5_pileAt wsX5_pileAt) := goodIn_app (goodIn_r _ [3, 4, 5, 6] rfl rfl) ggX5_copy_X5_pileAt
set_option maxRecDepth 20000 in
theorem ggX5_copy_X3_becomeLike : GoodIn wsX5_copy wsX3_becomeLike := goodIn_r _ [14, 15, 16, 17, 18, 19, 20, 21, 22, 23, 24, 40, 41, 42, 43, 44, 45] rfl rfl
set_option maxRecDepth 20000 in
theorem gX5_copy_X3_becomeLike : GoodIn wsX5_copy (wsV RX5 123 RX3 yX3_becomeLike wsX3_becomeLike) := goodIn_app (goodIn_r _ [10, 11, 12, 13] rfl rfl) ggX5_copy_X3_becomeLike
theorem dX5_copy_0 : decode cX5_copy 0 = .ok (.aload_n 0, 1) := by decide +kernel
theorem dX5_copy_1 : decode cX5_copy 1 = .ok (.iload_n 1, 1) := by decide +kernel
theorem dX5_copy_2 : decode cX5_copy 2 = .ok (.invokevirtual 72, 3) := by decide +kernel
theorem dX5_copy_5 : decode cX5_copy 5 = .ok (.astore_n 2, 1) := by decide +kernel
theorem dX5_copy_6 : decode cX5_copy 6 = .ok (.iload_n 1, 1) := by decide +kernel
theorem dX5_copy_7 : decode cX5_copy 7 = .ok (.ifCond .ne 10, 3) := by decide +kernel
theorem dX5_copy_10 : decode cX5_copy 10 = .ok (.aload_n 0, 1) := by decide +kernel
theorem dX5_copy_11 : decode cX5_copy 11 = .ok (.getfield 16, 3) := by decide +kernel
theorem dX5_copy_14 : decode cX5_copy 14 = .ok (.goto 7, 3) := by decide +kernel
theorem dX5_copy_17 : decode cX5_copy 17 = .ok (.aload_n 0, 1) := by decide +kernel
theorem dX5_copy_18 : decode cX5_copy 18 = .ok (.getfield 10, 3) := by decide +kernel
theorem dX5_copy_21 : decode cX5_copy 21 = .ok (.astore_n 3, 1) := by decide +kernel
theorem dX5_copy_22 : decode cX5_copy 22 = .ok (.aload_n 3, 1) := by decide +kernel
theorem dX5_copy_23 : decode cX5_copy 23 = .ok (.aload_n 2, 1) := by decide +kernel
theorem dX5_copy_24 : decode cX5_copy 24 = .ok (.invokevirtual 123, 3) := by decide +kernel
theorem dX5_copy_27 : decode cX5_copy 27 = .ok (.return_, 1) := by decide +kernel
set_option maxRecDepth 20000 in
theorem ggX5_light_X5_needLightBelow : GoodIn wsX5_light wsX5_needLightBelow := goodIn_ca (goodIn_r _ [8, 1, 2] (by decide +kernel) (by decide +kernel)) (goodIn_sub (fun _ h => List.mem_cons_of_mem _ (List.mem_append_right _ h)) (by decide +kernel))
set_option maxRecDepth 20000 in
theorem gX5_light_X5_needLightBelow : GoodIn wsX5_light (va_wsS RX5 127 yX5_needLightBelow wsX5_needLightBelow) := goodIn_app (goodIn_r _ [5, 6, 7] rfl rfl) ggX5_light_X5_needLightBelow
theorem dX5_light_0 : decode cX5_light 0 = .ok (.iload_n 2, 1) := by decide +kernel
theorem dX5_light_1 : decode cX5_light 1 = .ok (.invokestatic 127, 3) := by decide +kernel
theorem dX5_light_4 : decode cX5_light 4 = .ok (.iload_n 1, 1) := by decide +kernel
theorem dX5_light_5 : decode cX5_light 5 = .ok (.iload_n 2, 1) := by decide +kernel
theorem dX5_light_6 : decode cX5_light 6 = .ok (.ineg, 1) := by decide +kernel
theorem dX5_light_7 : decode cX5_light 7 = .ok (.if_icmp .lt 8, 3) := by decide +kernel
theorem dX5_light_10 : decode cX5_light 10 = .ok (.iload_n 1, 1) := by decide +kernel
theorem dX5_light_11 : decode cX5_light 11 = .ok (.iload_n 2, 1) := by decide +kernel
theorem dX5_light_12 : decode cX5_light 12 = .ok (.if_icmp .le 13, 3) := by decide +kernel
theorem dX5_light_15 : decode cX5_light 15 = .ok (.new 76, 3) := by decide +kernel
theorem dX5_light_18 : decode cX5_light 18 = .ok (.dup, 1) := by decide +kernel
theorem dX5_light_19 : decode cX5_light 19 = .ok (.ldc 130, 2) := by decide +kernel
theorem dX5_light_21 : decode cX5_light 21 = .ok (.invokespecial 80, 3) := by decide +kernel
theorem dX5_light_24 : decode cX5_light 24 = .ok (.athrow, 1) := by decide +kernel
theorem dX5_light_25 : decode cX5_light 25 = .ok (.aload_n 0, 1) := by decide +kernel
theorem dX5_light_26 : decode cX5_light 26 = .ok (.iload_n 1, 1) := by decide +kernel
theorem dX5_light_27 : decode cX5_light 27 = .ok (.putfield 62, 3) := by decide +kernel
theorem dX5_light_30 : decode cX5_light 30 = .ok (.aload_n 0, 1) := by decide +kernel
theorem dX5_light_31 : decode cX5_light 31 = .ok (.iload_n 2, 1) := by decide +kernel
theorem dX5_light_32 : decode cX5_light 32 = .ok (.putfield 66, 3) := by decide +kernel
theorem dX5_light_35 : decode cX5_light 35 = .ok (.return_, 1) := by decide +kernel
set_option maxRecDepth 20000 in
theorem ggX5_back_X5_pileAt : GoodIn wsX5_back wsX5_pileAt := goodIn_ca (goodIn_r _ [9, 10, 11, 12, 13, 141, 142, 143, 144, 145, 146, 147, 148, 149, 150, 151, 152, 153, 154, 155] (by decide +kernel) (by decide +kernel)) (goodIn_sub (fun _ h => List.mem_cons_of_mem _ (List.mem_append_left _ (List.mem_append_right _ h))) (by decide +kernel))
set_option maxRecDepth 20000 in
theorem gX5_back_X5_pileAt : GoodIn wsX5_back (wsV RX5 72 RX5 yX5_pileAt wsX5_pileAt) := goodIn_app (goodIn_r _ [5, 6, 7, 8] rfl rfl) ggX5_back_X5_pileAt
set_option maxRecDepth 20000 in
theorem ggX5_back_X5_needPart : GoodIn wsX5_back wsX5_needPart := goodIn_ca (goodIn_r _ [16, 17, 18] (by decide +kernel) (by decide +kernel)) (goodIn_sub (fun _ h => List.mem_cons_of_mem _ (List.mem_append_right _ h)) (by decide +kernel))
set_option maxRecDepth 20000 in
theorem gX5_back_X5_needPart : GoodIn wsX5_back (va_wsS RX5 132 yX5_needPart wsX5_needPart) := goodIn_app (goodIn_r _ [14, 15, 8] rfl rfl) ggX5_back_X5_needPart
set_option maxRecDepth 20000 in
theorem ggX5_back_X4_tellBack : GoodIn wsX5_back wsX4_tellBack := goodIn_r _ [23, 24, 25, 26, 27, 28, 22, 29, 30, 31, 32, 33, 34, 35, 36, 37, 38, 39, 40, 41, 42, 43, 44, 45, 46, 47, 48, 49, 50, 51, 52, 53, 54, 55, 56, 57, 58, 59, 60, 61, 62, 63, 64, 65, 66, 67, 68, 69, 70, 71, 72, 73, 74, 75, 76, 77, 78, 79, 80, 81, 82, 83, 84, 85, 86, 87, 88, 89, 90, 91, 156, 157, 158, 159, 160, 161, 162, 163, 164, 165, 166, 167, 168, 169, 170, 171, 172, 173, 174, 175, 176] rfl rfl
set_option maxRecDepth 20000 in
theorem gX5_back_X4_tellBack : GoodIn wsX5_back (wsV RX5 135 RX4 yX4_tellBack wsX4_tellBack) := goodIn_app (goodIn_r _ [19, 20, 21, 22] rfl rfl) ggX5_back_X4_tellBack
set_option maxRecDepth 20000 in
theorem ggX5_back_X0_toLowestTerms : GoodIn wsX5_back wsX0_toLowestTerms := goodIn_r _ [96, 97, 98, 99, 100, 101, 102, 103, 104, 105, 82, 44, 83, 106, 43, 45, 107, 108, 109, 110, 111, 112, 113, 114, 115, 116, 117, 118, 80, 119, 57, 58, 120, 121, 122, 123, 124, 125, 126, 127, 128, 129, 130, 131, 132, 133, 134, 135, 136, 89, 90, 91, 62, 156, 157, 158, 159] rfl rfl
set_option maxRecDepth 20000 in
theorem gX5_back_X0_toLowestTerms : GoodIn wsX5_back (wsV RX5 139 RX0 yX0_toLowestTerms wsX0_toLowestTerms) := goodIn_app (goodIn_r _ [92, 93, 94, 95] rfl rfl) ggX5_back_X0_toLowestTerms
set_option maxRecDepth 20000 in
theorem ggX5_back_X0_part : GoodIn wsX5_back wsX0_part := goodIn_r _ [140, 98, 97, 156, 157, 158, 159] rfl rfl
set_option maxRecDepth 20000 in
theorem gX5_back_X0_part : GoodIn wsX5_back (wsV RX5 142 RX0 yX0_part wsX0_part) := goodIn_app (goodIn_r _ [137, 138, 139, 95] rfl rfl) ggX5_back_X0_part
theorem dX5_back_0 : decode cX5_back 0 = .ok (.aload_n 0, 1) := by decide +kernel
theorem dX5_back_1 : decode cX5_back 1 = .ok (.iload_n 1, 1) := by decide +kernel
theorem dX5_back_2 : decode cX5_back 2 = .ok (.invokevirtual 72, 3) := by decide +kernel
theorem dX5_back_5 : decode cX5_back 5 = .ok (.astore 4, 2) := by decide +kernel
theorem dX5_back_7 : decode cX5_back 7 = .ok (.iload_n 3, 1) := by decide +kernel
theorem dX5_back_8 : decode cX5_back 8 = .ok (.invokestatic 132, 3) := by decide +kernel
theorem dX5_back_11 : decode cX5_back 11 = .ok (.aload_n 0, 1) := by decide +kernel
theorem dX5_back_12 : decode cX5_back 12 = .ok (.getfield 45, 3) := by decide +kernel
theorem dX5_back_15 : decode cX5_back 15 = .ok (.aload_n 0, 1) := by decide +kernel
theorem dX5_back_16 : decode cX5_back 16 = .ok (.getfield 52, 3) := by decide +kernel
theorem dX5_back_19 : decode cX5_back 19 = .ok (.aload 4, 2) := by decide +kernel
theorem dX5_back_21 : decode cX5_back 21 = .ok (.aload_n 0, 1) := by decide +kernel
theorem dX5_back_22 : decode cX5_back 22 = .ok (.getfield 62, 3) := by decide +kernel
theorem dX5_back_25 : decode cX5_back 25 = .ok (.aload_n 0, 1) := by decide +kernel
theorem dX5_back_26 : decode cX5_back 26 = .ok (.getfield 66, 3) := by decide +kernel
theorem dX5_back_29 : decode cX5_back 29 = .ok (.invokevirtual 135, 3) := by decide +kernel
theorem dX5_back_32 : decode cX5_back 32 = .ok (.aload_n 0, 1) := by decide +kernel
theorem dX5_back_33 : decode cX5_back 33 = .ok (.getfield 52, 3) := by decide +kernel
theorem dX5_back_36 : decode cX5_back 36 = .ok (.invokevirtual 139, 3) := by decide +kernel
theorem dX5_back_39 : decode cX5_back 39 = .ok (.aload_n 0, 1) := by decide +kernel
theorem dX5_back_40 : decode cX5_back 40 = .ok (.getfield 52, 3) := by decide +kernel
theorem dX5_back_43 : decode cX5_back 43 = .ok (.iload_n 2, 1) := by decide +kernel
theorem dX5_back_44 : decode cX5_back 44 = .ok (.iload_n 3, 1) := by decide +kernel
theorem dX5_back_45 : decode cX5_back 45 = .ok (.invokevirtual 142, 3) := by decide +kernel
theorem dX5_back_48 : decode cX5_back 48 = .ok (.ireturn, 1) := by decide +kernel
set_option maxRecDepth 20000 in
theorem ggX5_on_X5_pileAt : GoodIn wsX5_on wsX5_pileAt := goodIn_ca (goodIn_r _ [9, 10, 11, 12, 13, 148, 149, 150, 151, 152, 153, 154, 155, 156, 157, 158, 159, 160, 161, 162] (by decide +kernel) (by decide +kernel)) (goodIn_sub (fun _ h => List.mem_cons_of_mem _ (List.mem_append_left _ (List.mem_append_right _ h))) (by decide +kernel))
set_option maxRecDepth 20000 in
theorem gX5_on_X5_pileAt : GoodIn wsX5_on (wsV RX5 72 RX5 yX5_pileAt wsX5_pileAt) := goodIn_app (goodIn_r _ [5, 6, 7, 8] rfl rfl) ggX5_on_X5_pileAt
set_option maxRecDepth 20000 in
theorem ggX5_on_X5_needPart : GoodIn wsX5_on wsX5_needPart := goodIn_ca (goodIn_r _ [16, 17, 18] (by decide +kernel) (by decide +kernel)) (goodIn_sub (fun _ h => List.mem_cons_of_mem _ (List.mem_append_right _ h)) (by decide +kernel))
set_option maxRecDepth 20000 in
theorem gX5_on_X5_needPart : GoodIn wsX5_on (va_wsS RX5 132 yX5_needPart wsX5_needPart) := goodIn_app (goodIn_r _ [14, 15, 8] rfl rfl) ggX5_on_X5_needPart
set_option maxRecDepth 20000 in
theorem ggX5_on_X4_tellBack : GoodIn wsX5_on wsX4_tellBack := goodIn_r _ [23, 24, 25, 26, 27, 28, 22, 29, 30, 31, 32, 33, 34, 35, 36, 37, 38, 39, 40, 41, 42, 43, 44, 45, 46, 47, 48, 49, 50, 51, 52, 53, 54, 55, 56, 57, 58, 59, 60, 61, 62, 63, 64, 65, 66, 67, 68, 69, 70, 71, 72, 73, 74, 75, 76, 77, 78, 79, 80, 81, 82, 83, 84, 85, 86, 87, 88, 89, 90, 91, 163, 164, 165, 166, 167, 168, 169, 170, 171, 172, 173, 174, 175, 176, 177, 178, 179, 180, 181, 182, 183] rfl rfl
set_option maxRecDepth 20000 in
theorem gX5_on_X4_tellBack : GoodIn wsX5_on (wsV RX5 135 RX4 yX4_tellBack wsX4_tellBack) := goodIn_app (goodIn_r _ [19, 20, 21, 22] rfl rfl) ggX5_on_X4_tellBack
set_option maxRecDepth 20000 in
theorem ggX5_on_X0_toRestOfOne : GoodIn wsX5_on wsX0_toRestOfOne := goodIn_r _ [96, 97, 98, 99, 100, 60, 44, 61, 62, 101, 64, 65, 163, 164, 165, 166] rfl rfl
set_option maxRecDepth 20000 in
theorem gX5_on_X0_toRestOfOne : GoodIn wsX5_on (wsV RX5 146 RX0 yX0_toRestOfOne wsX0_toRestOfOne) := goodIn_app (goodIn_r _ [92, 93, 94, 95] rfl rfl) ggX5_on_X0_toRestOfOne
set_option maxRecDepth 20000 in
theorem ggX5_on_X0_toLowestTerms : GoodIn wsX5_on wsX0_toLowestTerms := goodIn_r _ [105, 97, 99, 106, 107, 108, 109, 110, 111, 112, 82, 44, 83, 113, 43, 45, 114, 115, 116, 117, 118, 119, 120, 121, 122, 123, 124, 125, 80, 126, 57, 58, 127, 128, 129, 130, 131, 132, 133, 134, 135, 136, 137, 138, 139, 140, 141, 142, 143, 89, 90, 91, 62, 163, 164, 165, 166] rfl rfl
set_option maxRecDepth 20000 in
theorem gX5_on_X0_toLowestTerms : GoodIn wsX5_on (wsV RX5 139 RX0 yX0_toLowestTerms wsX0_toLowestTerms) := goodIn_app (goodIn_r _ [102, 103, 104, 95] rfl rfl) ggX5_on_X0_toLowestTerms
set_option maxRecDepth 20000 in
theorem ggX5_on_X0_part : GoodIn wsX5_on wsX0_part := goodIn_r _ [147, 99, 97, 163, 164, 165, 166] rfl rfl
set_option maxRecDepth 20000 in
theorem gX5_on_X0_part : GoodIn wsX5_on (wsV RX5 142 RX0 yX0_part wsX0_part) := goodIn_app (goodIn_r _ [144, 145, 146, 95] rfl rfl) ggX5_on_X0_part
theorem dX5_on_0 : decode cX5_on 0 = .ok (.aload_n 0, 1) := by decide +kernel
theorem dX5_on_1 : decode cX5_on 1 = .ok (.iload_n 1, 1) := by decide +kernel
theorem dX5_on_2 : decode cX5_on 2 = .ok (.invokevirtual 72, 3) := by decide +kernel
theorem dX5_on_5 : decode cX5_on 5 = .ok (.astore 4, 2) := by decide +kernel
theorem dX5_on_7 : decode cX5_on 7 = .ok (.iload_n 3, 1) := by decide +kernel
theorem dX5_on_8 : decode cX5_on 8 = .ok (.invokestatic 132, 3) := by decide +kernel
theorem dX5_on_11 : decode cX5_on 11 = .ok (.aload_n 0, 1) := by decide +kernel
theorem dX5_on_12 : decode cX5_on 12 = .ok (.getfield 45, 3) := by decide +kernel
theorem dX5_on_15 : decode cX5_on 15 = .ok (.aload_n 0, 1) := by decide +kernel
theorem dX5_on_16 : decode cX5_on 16 = .ok (.getfield 52, 3) := by decide +kernel
theorem dX5_on_19 : decode cX5_on 19 = .ok (.aload 4, 2) := by decide +kernel
theorem dX5_on_21 : decode cX5_on 21 = .ok (.aload_n 0, 1) := by decide +kernel
theorem dX5_on_22 : decode cX5_on 22 = .ok (.getfield 62, 3) := by decide +kernel
theorem dX5_on_25 : decode cX5_on 25 = .ok (.aload_n 0, 1) := by decide +kernel
theorem dX5_on_26 : decode cX5_on 26 = .ok (.getfield 66, 3) := by decide +kernel
theorem dX5_on_29 : decode cX5_on 29 = .ok (.invokevirtual 135, 3) := by decide +kernel
theorem dX5_on_32 : decode cX5_on 32 = .ok (.aload_n 0, 1) := by decide +kernel
theorem dX5_on_33 : decode cX5_on 33 = .ok (.getfield 52, 3) := by decide +kernel
theorem dX5_on_36 : decode cX5_on 36 = .ok (.invokevirtual 146, 3) := by decide +kernel
theorem dX5_on_39 : decode cX5_on 39 = .ok (.aload_n 0, 1) := by decide +kernel
theorem dX5_on_40 : decode cX5_on 40 = .ok (.getfield 52, 3) := by decide +kernel
theorem dX5_on_43 : decode cX5_on 43 = .ok (.invokevirtual 139, 3) := by decide +kernel
theorem dX5_on_46 : decode cX5_on 46 = .ok (.aload_n 0, 1) := by decide +kernel
theorem dX5_on_47 : decode cX5_on 47 = .ok (.getfield 52, 3) := by decide +kernel
theorem dX5_on_50 : decode cX5_on 50 = .ok (.iload_n 2, 1) := by decide +kernel
theorem dX5_on_51 : decode cX5_on 51 = .ok (.iload_n 3, 1) := by decide +kernel
theorem dX5_on_52 : decode cX5_on 52 = .ok (.invokevirtual 142, 3) := by decide +kernel
theorem dX5_on_55 : decode cX5_on 55 = .ok (.ireturn, 1) := by decide +kernel
set_option maxRecDepth 20000 in
theorem ggX5_entry_X5_pileAt : GoodIn wsX5_entry wsX5_pileAt := goodIn_ca (goodIn_r _ [9, 10, 11, 12, 13, 133, 134, 135, 136, 137, 138, 139, 140, 141, 142, 143, 144, 145, 146, 147] (by decide +kernel) (by decide +kernel)) (goodIn_sub (fun _ h => List.mem_cons_of_mem _ (List.mem_append_left _ (List.mem_append_right _ h))) (by decide +kernel))
set_option maxRecDepth 20000 in
theorem gX5_entry_X5_pileAt : GoodIn wsX5_entry (wsV RX5 72 RX5 yX5_pileAt wsX5_pileAt) := goodIn_app (goodIn_r _ [5, 6, 7, 8] rfl rfl) ggX5_entry_X5_pileAt
set_option maxRecDepth 20000 in
theorem ggX5_entry_X5_needEntry : GoodIn wsX5_entry wsX5_needEntry := goodIn_ca (goodIn_r _ [16, 17, 18] (by decide +kernel) (by decide +kernel)) (goodIn_sub (fun _ h => List.mem_cons_of_mem _ (List.mem_append_right _ h)) (by decide +kernel))
set_option maxRecDepth 20000 in
theorem gX5_entry_X5_needEntry : GoodIn wsX5_entry (va_wsS RX5 149 yX5_needEntry wsX5_needEntry) := goodIn_app (goodIn_r _ [14, 15, 8] rfl rfl) ggX5_entry_X5_needEntry
set_option maxRecDepth 20000 in
theorem ggX5_entry_X5_needPart : GoodIn wsX5_entry wsX5_needPart := goodIn_ca (goodIn_r _ [21, 17, 18] (by decide +kernel) (by decide +kernel)) (goodIn_sub (fun _ h => List.mem_cons_of_mem _ (List.mem_append_right _ h)) (by decide +kernel))
set_option maxRecDepth 20000 in
theorem gX5_entry_X5_needPart : GoodIn wsX5_entry (va_wsS RX5 132 yX5_needPart wsX5_needPart) := goodIn_app (goodIn_r _ [19, 20, 8] rfl rfl) ggX5_entry_X5_needPart
set_option maxRecDepth 20000 in
theorem ggX5_entry_X4_reckon : GoodIn wsX5_entry wsX4_reckon := goodIn_r _ [26, 27, 28, 29, 30, 31, 32, 33, 34, 35, 36, 37, 38, 39, 40, 41, 42, 43, 44, 45, 25, 46, 47, 48, 49, 50, 51, 52, 53, 54, 55, 56, 57, 58, 59, 60, 61, 62, 148, 149, 150, 151, 152, 153, 154, 155, 156, 157, 158, 159, 160, 161, 162, 163, 164] rfl rfl
set_option maxRecDepth 20000 in
theorem gX5_entry_X4_reckon : GoodIn wsX5_entry (wsV RX5 152 RX4 yX4_reckon wsX4_reckon) := goodIn_app (goodIn_r _ [22, 23, 24, 25] rfl rfl) ggX5_entry_X4_reckon
set_option maxRecDepth 20000 in
theorem ggX5_entry_X4_tellSize : GoodIn wsX5_entry wsX4_tellSize := goodIn_r _ [66, 67, 28, 68, 34, 69, 70, 71, 25, 72, 30, 31, 32, 33, 73, 74, 41, 75, 76, 77, 78, 79, 80, 54, 55, 56, 57, 58, 59, 53, 165, 166, 167, 168, 148, 149, 150, 151, 152, 153, 154, 155, 156, 157, 158] rfl rfl
set_option maxRecDepth 20000 in
theorem gX5_entry_X4_tellSize : GoodIn wsX5_entry (wsV RX5 156 RX4 yX4_tellSize wsX4_tellSize) := goodIn_app (goodIn_r _ [63, 64, 65, 25] rfl rfl) ggX5_entry_X4_tellSize
set_option maxRecDepth 20000 in
theorem ggX5_entry_X0_toLowestTerms : GoodIn wsX5_entry wsX0_toLowestTerms := goodIn_r _ [85, 86, 87, 88, 89, 90, 91, 92, 93, 94, 78, 41, 79, 95, 40, 42, 96, 97, 98, 99, 100, 101, 102, 103, 104, 105, 106, 107, 76, 108, 54, 55, 109, 110, 111, 112, 113, 114, 115, 116, 117, 118, 119, 120, 121, 122, 123, 124, 125, 126, 127, 128, 59, 165, 166, 167, 168] rfl rfl
set_option maxRecDepth 20000 in
theorem gX5_entry_X0_toLowestTerms : GoodIn wsX5_entry (wsV RX5 139 RX0 yX0_toLowestTerms wsX0_toLowestTerms) := goodIn_app (goodIn_r _ [81, 82, 83, 84] rfl rfl) ggX5_entry_X0_toLowestTerms
set_option maxRecDepth 20000 in
theorem ggX5_entry_X0_part : GoodIn wsX5_entry wsX0_part := goodIn_r _ [132, 87, 86, 165, 166, 167, 168] rfl rfl
set_option maxRecDepth 20000 in
theorem gX5_entry_X0_part : GoodIn wsX5_entry (wsV RX5 142 RX0 yX0_part wsX0_part) := goodIn_app (goodIn_r _ [129, 130, 131, 84] rfl rfl) ggX5_entry_X0_part
theorem dX5_entry_0 : decode cX5_entry 0 = .ok (.aload_n 0, 1) := by decide +kernel
theorem dX5_entry_1 : decode cX5_entry 1 = .ok (.iload_n 1, 1) := by decide +kernel
theorem dX5_entry_2 : decode cX5_entry 2 = .ok (.invokevirtual 72, 3) := by decide +kernel
theorem dX5_entry_5 : decode cX5_entry 5 = .ok (.astore 5, 2) := by decide +kernel
theorem dX5_entry_7 : decode cX5_entry 7 = .ok (.iload_n 2, 1) := by decide +kernel
theorem dX5_entry_8 : decode cX5_entry 8 = .ok (.invokestatic 149, 3) := by decide +kernel
theorem dX5_entry_11 : decode cX5_entry 11 = .ok (.iload 4, 2) := by decide +kernel
theorem dX5_entry_13 : decode cX5_entry 13 = .ok (.invokestatic 132, 3) := by decide +kernel
theorem dX5_entry_16 : decode cX5_entry 16 = .ok (.aload_n 0, 1) := by decide +kernel
theorem dX5_entry_17 : decode cX5_entry 17 = .ok (.getfield 45, 3) := by decide +kernel
theorem dX5_entry_20 : decode cX5_entry 20 = .ok (.aload 5, 2) := by decide +kernel
theorem dX5_entry_22 : decode cX5_entry 22 = .ok (.aload_n 0, 1) := by decide +kernel
theorem dX5_entry_23 : decode cX5_entry 23 = .ok (.getfield 62, 3) := by decide +kernel
theorem dX5_entry_26 : decode cX5_entry 26 = .ok (.aload_n 0, 1) := by decide +kernel
theorem dX5_entry_27 : decode cX5_entry 27 = .ok (.getfield 66, 3) := by decide +kernel
theorem dX5_entry_30 : decode cX5_entry 30 = .ok (.invokevirtual 152, 3) := by decide +kernel
theorem dX5_entry_33 : decode cX5_entry 33 = .ok (.aload_n 0, 1) := by decide +kernel
theorem dX5_entry_34 : decode cX5_entry 34 = .ok (.getfield 45, 3) := by decide +kernel
theorem dX5_entry_37 : decode cX5_entry 37 = .ok (.aload_n 0, 1) := by decide +kernel
theorem dX5_entry_38 : decode cX5_entry 38 = .ok (.getfield 52, 3) := by decide +kernel
theorem dX5_entry_41 : decode cX5_entry 41 = .ok (.iload_n 2, 1) := by decide +kernel
theorem dX5_entry_42 : decode cX5_entry 42 = .ok (.invokevirtual 156, 3) := by decide +kernel
theorem dX5_entry_45 : decode cX5_entry 45 = .ok (.aload_n 0, 1) := by decide +kernel
theorem dX5_entry_46 : decode cX5_entry 46 = .ok (.getfield 52, 3) := by decide +kernel
theorem dX5_entry_49 : decode cX5_entry 49 = .ok (.invokevirtual 139, 3) := by decide +kernel
theorem dX5_entry_52 : decode cX5_entry 52 = .ok (.aload_n 0, 1) := by decide +kernel
theorem dX5_entry_53 : decode cX5_entry 53 = .ok (.getfield 52, 3) := by decide +kernel
theorem dX5_entry_56 : decode cX5_entry 56 = .ok (.iload_n 3, 1) := by decide +kernel
theorem dX5_entry_57 : decode cX5_entry 57 = .ok (.iload 4, 2) := by decide +kernel
theorem dX5_entry_59 : decode cX5_entry 59 = .ok (.invokevirtual 142, 3) := by decide +kernel
theorem dX5_entry_62 : decode cX5_entry 62 = .ok (.ireturn, 1) := by decide +kernel
set_option maxRecDepth 20000 in
theorem ggX5_sign_X5_pileAt : GoodIn wsX5_sign wsX5_pileAt := goodIn_ca (goodIn_r _ [8, 9, 10, 11, 12, 66, 67, 68, 69, 70, 71, 72, 73, 74, 75, 76, 77, 78, 79, 80] (by decide +kernel) (by decide +kernel)) (goodIn_sub (fun _ h => List.mem_cons_of_mem _ (List.mem_append_left _ (List.mem_append_right _ h))) (by decide +kernel))
set_option maxRecDepth 20000 in
theorem gX5_sign_X5_pileAt : GoodIn wsX5_sign (wsV RX5 72 RX5 yX5_pileAt wsX5_pileAt) := goodIn_app (goodIn_r _ [4, 5, 6, 7] rfl rfl) ggX5_sign_X5_pileAt
set_option maxRecDepth 20000 in
theorem ggX5_sign_X5_needEntry : GoodIn wsX5_sign wsX5_needEntry := goodIn_ca (goodIn_r _ [15, 16, 17] (by decide +kernel) (by decide +kernel)) (goodIn_sub (fun _ h => List.mem_cons_of_mem _ (List.mem_append_right _ h)) (by decide +kernel))
set_option maxRecDepth 20000 in
theorem gX5_sign_X5_needEntry : GoodIn wsX5_sign (va_wsS RX5 149 yX5_needEntry wsX5_needEntry) := goodIn_app (goodIn_r _ [13, 14, 7] rfl rfl) ggX5_sign_X5_needEntry
set_option maxRecDepth 20000 in
theorem ggX5_sign_X4_reckon : GoodIn wsX5_sign wsX4_reckon := goodIn_r _ [22, 23, 24, 25, 26, 27, 28, 29, 30, 31, 32, 33, 34, 35, 36, 37, 38, 39, 40, 41, 21, 42, 43, 44, 45, 46, 47, 48, 49, 50, 51, 52, 53, 54, 55, 56, 57, 58, 81, 82, 83, 84, 85, 86, 87, 88, 89, 90, 91, 92, 93, 94, 95, 96, 97] rfl rfl
set_option maxRecDepth 20000 in
theorem gX5_sign_X4_reckon : GoodIn wsX5_sign (wsV RX5 152 RX4 yX4_reckon wsX4_reckon) := goodIn_app (goodIn_r _ [18, 19, 20, 21] rfl rfl) ggX5_sign_X4_reckon
set_option maxRecDepth 20000 in
theorem ggX5_sign_X4_rowOf : GoodIn wsX5_sign wsX4_rowOf := goodIn_r _ [62, 26, 27, 28, 29, 81, 82, 83, 84, 85, 86, 87, 88, 89, 90, 91] rfl rfl
set_option maxRecDepth 20000 in
theorem gX5_sign_X4_rowOf : GoodIn wsX5_sign (wsV RX5 160 RX4 yX4_rowOf wsX4_rowOf) := goodIn_app (goodIn_r _ [59, 60, 61, 21] rfl rfl) ggX5_sign_X4_rowOf
set_option maxRecDepth 20000 in
theorem ggX5_sign_X1_signOf : GoodIn wsX5_sign wsX1_signOf := goodIn_r _ [65] rfl rfl
set_option maxRecDepth 20000 in
theorem gX5_sign_X1_signOf : GoodIn wsX5_sign (va_wsS RX5 164 yX1_signOf wsX1_signOf) := goodIn_app (goodIn_r _ [63, 64, 37] rfl rfl) ggX5_sign_X1_signOf
theorem dX5_sign_0 : decode cX5_sign 0 = .ok (.aload_n 0, 1) := by decide +kernel
theorem dX5_sign_1 : decode cX5_sign 1 = .ok (.iload_n 1, 1) := by decide +kernel
theorem dX5_sign_2 : decode cX5_sign 2 = .ok (.invokevirtual 72, 3) := by decide +kernel
theorem dX5_sign_5 : decode cX5_sign 5 = .ok (.astore_n 3, 1) := by decide +kernel
theorem dX5_sign_6 : decode cX5_sign 6 = .ok (.iload_n 2, 1) := by decide +kernel
theorem dX5_sign_7 : decode cX5_sign 7 = .ok (.invokestatic 149, 3) := by decide +kernel
theorem dX5_sign_10 : decode cX5_sign 10 = .ok (.aload_n 0, 1) := by decide +kernel
theorem dX5_sign_11 : decode cX5_sign 11 = .ok (.getfield 45, 3) := by decide +kernel
theorem dX5_sign_14 : decode cX5_sign 14 = .ok (.aload_n 3, 1) := by decide +kernel
theorem dX5_sign_15 : decode cX5_sign 15 = .ok (.aload_n 0, 1) := by decide +kernel
theorem dX5_sign_16 : decode cX5_sign 16 = .ok (.getfield 62, 3) := by decide +kernel
theorem dX5_sign_19 : decode cX5_sign 19 = .ok (.aload_n 0, 1) := by decide +kernel
theorem dX5_sign_20 : decode cX5_sign 20 = .ok (.getfield 66, 3) := by decide +kernel
theorem dX5_sign_23 : decode cX5_sign 23 = .ok (.invokevirtual 152, 3) := by decide +kernel
theorem dX5_sign_26 : decode cX5_sign 26 = .ok (.aload_n 0, 1) := by decide +kernel
theorem dX5_sign_27 : decode cX5_sign 27 = .ok (.getfield 45, 3) := by decide +kernel
theorem dX5_sign_30 : decode cX5_sign 30 = .ok (.iload_n 2, 1) := by decide +kernel
theorem dX5_sign_31 : decode cX5_sign 31 = .ok (.invokevirtual 160, 3) := by decide +kernel
theorem dX5_sign_34 : decode cX5_sign 34 = .ok (.invokestatic 164, 3) := by decide +kernel
theorem dX5_sign_37 : decode cX5_sign 37 = .ok (.ireturn, 1) := by decide +kernel
set_option maxRecDepth 20000 in
theorem ggX5_stops_X5_pileAt : GoodIn wsX5_stops wsX5_pileAt := goodIn_ca (goodIn_r _ [8, 9, 10, 11, 12, 68, 69, 70, 71, 72, 73, 74, 75, 76, 77, 78, 79, 80, 81, 82] (by decide +kernel) (by decide +kernel)) (goodIn_sub (fun _ h => List.mem_cons_of_mem _ (List.mem_append_right _ h)) (by decide +kernel))
set_option maxRecDepth 20000 in
theorem gX5_stops_X5_pileAt : GoodIn wsX5_stops (wsV RX5 72 RX5 yX5_pileAt wsX5_pileAt) := goodIn_app (goodIn_r _ [4, 5, 6, 7] rfl rfl) ggX5_stops_X5_pileAt
set_option maxRecDepth 20000 in
theorem ggX5_stops_X4_reckon : GoodIn wsX5_stops wsX4_reckon := goodIn_r _ [17, 18, 19, 20, 21, 22, 23, 24, 25, 26, 27, 28, 29, 30, 31, 32, 33, 34, 35, 36, 16, 37, 38, 39, 40, 41, 42, 43, 44, 45, 46, 47, 48, 49, 50, 51, 52, 53, 83, 84, 85, 86, 87, 88, 89, 90, 91, 92, 93, 94, 95, 96, 97, 98, 99] rfl rfl
set_option maxRecDepth 20000 in
theorem gX5_stops_X4_reckon : GoodIn wsX5_stops (wsV RX5 152 RX4 yX4_reckon wsX4_reckon) := goodIn_app (goodIn_r _ [13, 14, 15, 16] rfl rfl) ggX5_stops_X4_reckon
set_option maxRecDepth 20000 in
theorem ggX5_stops_X4_isStopping : GoodIn wsX5_stops wsX4_isStopping := goodIn_r _ [57, 43, 21, 24, 42, 25, 58, 44, 45, 32, 46, 51, 52, 53, 50, 59, 60, 61, 62, 63, 64, 65, 66, 67, 83, 84, 85, 86, 87, 88, 89, 90, 91, 92, 93] rfl rfl
set_option maxRecDepth 20000 in
theorem gX5_stops_X4_isStopping : GoodIn wsX5_stops (wsV RX5 170 RX4 yX4_isStopping wsX4_isStopping) := goodIn_app (goodIn_r _ [54, 55, 56, 16] rfl rfl) ggX5_stops_X4_isStopping
theorem dX5_stops_0 : decode cX5_stops 0 = .ok (.aload_n 0, 1) := by decide +kernel
theorem dX5_stops_1 : decode cX5_stops 1 = .ok (.iload_n 1, 1) := by decide +kernel
theorem dX5_stops_2 : decode cX5_stops 2 = .ok (.invokevirtual 72, 3) := by decide +kernel
theorem dX5_stops_5 : decode cX5_stops 5 = .ok (.astore_n 2, 1) := by decide +kernel
theorem dX5_stops_6 : decode cX5_stops 6 = .ok (.aload_n 0, 1) := by decide +kernel
theorem dX5_stops_7 : decode cX5_stops 7 = .ok (.getfield 45, 3) := by decide +kernel
theorem dX5_stops_10 : decode cX5_stops 10 = .ok (.aload_n 2, 1) := by decide +kernel
theorem dX5_stops_11 : decode cX5_stops 11 = .ok (.aload_n 0, 1) := by decide +kernel
theorem dX5_stops_12 : decode cX5_stops 12 = .ok (.getfield 62, 3) := by decide +kernel
theorem dX5_stops_15 : decode cX5_stops 15 = .ok (.aload_n 0, 1) := by decide +kernel
theorem dX5_stops_16 : decode cX5_stops 16 = .ok (.getfield 66, 3) := by decide +kernel
theorem dX5_stops_19 : decode cX5_stops 19 = .ok (.invokevirtual 152, 3) := by decide +kernel
theorem dX5_stops_22 : decode cX5_stops 22 = .ok (.aload_n 0, 1) := by decide +kernel
theorem dX5_stops_23 : decode cX5_stops 23 = .ok (.getfield 45, 3) := by decide +kernel
theorem dX5_stops_26 : decode cX5_stops 26 = .ok (.invokevirtual 170, 3) := by decide +kernel
theorem dX5_stops_29 : decode cX5_stops 29 = .ok (.ireturn, 1) := by decide +kernel
set_option maxRecDepth 20000 in
theorem ggX5_less_X4_tellBack : GoodIn wsX5_less wsX4_tellBack := goodIn_r _ [12, 13, 14, 15, 16, 17, 11, 18, 19, 20, 21, 22, 23, 24, 25, 26, 27, 28, 29, 30, 31, 32, 33, 34, 35, 36, 37, 38, 39, 40, 41, 42, 43, 44, 45, 46, 47, 48, 49, 50, 51, 52, 53, 54, 55, 56, 57, 58, 59, 60, 61, 62, 63, 64, 65, 66, 67, 68, 69, 70, 71, 72, 73, 74, 75, 76, 77, 78, 79, 80, 113, 114, 115, 116, 117, 118, 119, 120, 121, 122, 123, 124, 125, 126, 127, 128, 129, 130, 131, 132, 133] rfl rfl
set_option maxRecDepth 20000 in
theorem gX5_less_X4_tellBack : GoodIn wsX5_less (wsV RX5 135 RX4 yX4_tellBack wsX4_tellBack) := goodIn_app (goodIn_r _ [8, 9, 10, 11] rfl rfl) ggX5_less_X4_tellBack
set_option maxRecDepth 20000 in
theorem ggX5_less_X0_compareWith : GoodIn wsX5_less wsX0_compareWith := goodIn_r _ [85, 86, 87, 88, 89, 90, 75, 33, 76, 77, 32, 34, 78, 79, 80, 51, 91, 92, 93, 94, 95, 96, 97, 113, 114, 115, 116] rfl rfl
set_option maxRecDepth 20000 in
theorem gX5_less_X0_compareWith : GoodIn wsX5_less (wsV RX5 174 RX0 yX0_compareWith wsX0_compareWith) := goodIn_app (goodIn_r _ [81, 82, 83, 84] rfl rfl) ggX5_less_X0_compareWith
theorem dX5_less_0 : decode cX5_less 0 = .ok (.aload_n 0, 1) := by decide +kernel
theorem dX5_less_1 : decode cX5_less 1 = .ok (.getfield 45, 3) := by decide +kernel
theorem dX5_less_4 : decode cX5_less 4 = .ok (.aload_n 0, 1) := by decide +kernel
theorem dX5_less_5 : decode cX5_less 5 = .ok (.getfield 56, 3) := by decide +kernel
theorem dX5_less_8 : decode cX5_less 8 = .ok (.aload_n 0, 1) := by decide +kernel
theorem dX5_less_9 : decode cX5_less 9 = .ok (.getfield 10, 3) := by decide +kernel
theorem dX5_less_12 : decode cX5_less 12 = .ok (.aload_n 0, 1) := by decide +kernel
theorem dX5_less_13 : decode cX5_less 13 = .ok (.getfield 62, 3) := by decide +kernel
theorem dX5_less_16 : decode cX5_less 16 = .ok (.aload_n 0, 1) := by decide +kernel
theorem dX5_less_17 : decode cX5_less 17 = .ok (.getfield 66, 3) := by decide +kernel
theorem dX5_less_20 : decode cX5_less 20 = .ok (.invokevirtual 135, 3) := by decide +kernel
theorem dX5_less_23 : decode cX5_less 23 = .ok (.aload_n 0, 1) := by decide +kernel
theorem dX5_less_24 : decode cX5_less 24 = .ok (.getfield 45, 3) := by decide +kernel
theorem dX5_less_27 : decode cX5_less 27 = .ok (.aload_n 0, 1) := by decide +kernel
theorem dX5_less_28 : decode cX5_less 28 = .ok (.getfield 59, 3) := by decide +kernel
theorem dX5_less_31 : decode cX5_less 31 = .ok (.aload_n 0, 1) := by decide +kernel
theorem dX5_less_32 : decode cX5_less 32 = .ok (.getfield 16, 3) := by decide +kernel
theorem dX5_less_35 : decode cX5_less 35 = .ok (.aload_n 0, 1) := by decide +kernel
theorem dX5_less_36 : decode cX5_less 36 = .ok (.getfield 62, 3) := by decide +kernel
theorem dX5_less_39 : decode cX5_less 39 = .ok (.aload_n 0, 1) := by decide +kernel
theorem dX5_less_40 : decode cX5_less 40 = .ok (.getfield 66, 3) := by decide +kernel
theorem dX5_less_43 : decode cX5_less 43 = .ok (.invokevirtual 135, 3) := by decide +kernel
theorem dX5_less_46 : decode cX5_less 46 = .ok (.aload_n 0, 1) := by decide +kernel
theorem dX5_less_47 : decode cX5_less 47 = .ok (.getfield 56, 3) := by decide +kernel
theorem dX5_less_50 : decode cX5_less 50 = .ok (.aload_n 0, 1) := by decide +kernel
theorem dX5_less_51 : decode cX5_less 51 = .ok (.getfield 59, 3) := by decide +kernel
theorem dX5_less_54 : decode cX5_less 54 = .ok (.invokevirtual 174, 3) := by decide +kernel
theorem dX5_less_57 : decode cX5_less 57 = .ok (.istore_n 1, 1) := by decide +kernel
theorem dX5_less_58 : decode cX5_less 58 = .ok (.iload_n 1, 1) := by decide +kernel
theorem dX5_less_59 : decode cX5_less 59 = .ok (.ifCond .ne 5, 3) := by decide +kernel
theorem dX5_less_62 : decode cX5_less 62 = .ok (.iconst (-1), 1) := by decide +kernel
theorem dX5_less_63 : decode cX5_less 63 = .ok (.ireturn, 1) := by decide +kernel
theorem dX5_less_64 : decode cX5_less 64 = .ok (.iload_n 1, 1) := by decide +kernel
theorem dX5_less_65 : decode cX5_less 65 = .ok (.ifCond .ge 7, 3) := by decide +kernel
theorem dX5_less_68 : decode cX5_less 68 = .ok (.iconst 0, 1) := by decide +kernel
theorem dX5_less_69 : decode cX5_less 69 = .ok (.goto 4, 3) := by decide +kernel
theorem dX5_less_72 : decode cX5_less 72 = .ok (.iconst 1, 1) := by decide +kernel
theorem dX5_less_73 : decode cX5_less 73 = .ok (.ireturn, 1) := by decide +kernel
set_option maxRecDepth 20000 in
theorem ggX5_extreme_X5_pileAt : GoodIn wsX5_extreme wsX5_pileAt := goodIn_ca (goodIn_r _ [8, 9, 10, 11, 12, 113, 114, 115, 116, 117, 118, 119, 120, 121, 122, 123, 124, 125, 126, 127] (by decide +kernel) (by decide +kernel)) (goodIn_sub (fun _ h => List.mem_cons_of_mem _ (List.mem_append_left _ (List.mem_append_right _ h))) (by decide +kernel))
set_option maxRecDepth 20000 in
theorem gX5_extreme_X5_pileAt : GoodIn wsX5_extreme (wsV RX5 72 RX5 yX5_pileAt wsX5_pileAt) := goodIn_app (goodIn_r _ [4, 5, 6, 7] rfl rfl) ggX5_extreme_X5_pileAt
set_option maxRecDepth 20000 in
theorem ggX5_extreme_X5_needLightBelow : GoodIn wsX5_extreme wsX5_needLightBelow := goodIn_ca (goodIn_r _ [15, 16, 17] (by decide +kernel) (by decide +kernel)) (goodIn_sub (fun _ h => List.mem_cons_of_mem _ (List.mem_append_right _ h)) (by decide +kernel))
set_option maxRecDepth 20000 in
theorem gX5_extreme_X5_needLightBelow : GoodIn wsX5_extreme (va_wsS RX5 127 yX5_needLightBelow wsX5_needLightBelow) := goodIn_app (goodIn_r _ [13, 14, 7] rfl rfl) ggX5_extreme_X5_needLightBelow
set_option maxRecDepth 20000 in
theorem ggX5_extreme_X4_tellBack : GoodIn wsX5_extreme wsX4_tellBack := goodIn_r _ [22, 23, 24, 25, 26, 27, 21, 28, 29, 30, 31, 32, 33, 34, 35, 36, 37, 38, 39, 40, 41, 42, 43, 44, 45, 46, 47, 48, 49, 50, 51, 52, 53, 54, 55, 56, 57, 58, 59, 60, 61, 62, 63, 64, 65, 66, 67, 68, 69, 70, 71, 72, 73, 74, 75, 76, 77, 78, 79, 80, 81, 82, 83, 84, 85, 86, 87, 88, 89, 90, 128, 129, 130, 131, 132, 133, 134, 135, 136, 137, 138, 139, 140, 141, 142, 143, 144, 145, 146, 147, 148] rfl rfl
set_option maxRecDepth 20000 in
theorem gX5_extreme_X4_tellBack : GoodIn wsX5_extreme (wsV RX5 135 RX4 yX4_tellBack wsX4_tellBack) := goodIn_app (goodIn_r _ [18, 19, 20, 21] rfl rfl) ggX5_extreme_X4_tellBack
set_option maxRecDepth 20000 in
theorem ggX5_extreme_X0_compareWith : GoodIn wsX5_extreme wsX0_compareWith := goodIn_r _ [95, 96, 97, 98, 99, 100, 85, 43, 86, 87, 42, 44, 88, 89, 90, 61, 101, 102, 103, 104, 105, 106, 107, 128, 129, 130, 131] rfl rfl
set_option maxRecDepth 20000 in
theorem gX5_extreme_X0_compareWith : GoodIn wsX5_extreme (wsV RX5 174 RX0 yX0_compareWith wsX0_compareWith) := goodIn_app (goodIn_r _ [91, 92, 93, 94] rfl rfl) ggX5_extreme_X0_compareWith
set_option maxRecDepth 20000 in
theorem ggX5_extreme_X0_becomeLike : GoodIn wsX5_extreme wsX0_becomeLike := goodIn_r _ [111, 97, 98, 112, 56, 43, 57, 128, 129, 130, 131] rfl rfl
set_option maxRecDepth 20000 in
theorem gX5_extreme_X0_becomeLike : GoodIn wsX5_extreme (wsV RX5 178 RX0 yX0_becomeLike wsX0_becomeLike) := goodIn_app (goodIn_r _ [108, 109, 110, 94] rfl rfl) ggX5_extreme_X0_becomeLike
theorem dX5_extreme_0 : decode cX5_extreme 0 = .ok (.aload_n 0, 1) := by decide +kernel
theorem dX5_extreme_1 : decode cX5_extreme 1 = .ok (.iload_n 1, 1) := by decide +kernel
theorem dX5_extreme_2 : decode cX5_extreme 2 = .ok (.invokevirtual 72, 3) := by decide +kernel
theorem dX5_extreme_5 : decode cX5_extreme 5 = .ok (.astore 4, 2) := by decide +kernel
theorem dX5_extreme_7 : decode cX5_extreme 7 = .ok (.iload_n 2, 1) := by decide +kernel
theorem dX5_extreme_8 : decode cX5_extreme 8 = .ok (.invokestatic 127, 3) := by decide +kernel
theorem dX5_extreme_11 : decode cX5_extreme 11 = .ok (.iload_n 2, 1) := by decide +kernel
theorem dX5_extreme_12 : decode cX5_extreme 12 = .ok (.ineg, 1) := by decide +kernel
theorem dX5_extreme_13 : decode cX5_extreme 13 = .ok (.istore 5, 2) := by decide +kernel
theorem dX5_extreme_15 : decode cX5_extreme 15 = .ok (.aload_n 0, 1) := by decide +kernel
theorem dX5_extreme_16 : decode cX5_extreme 16 = .ok (.getfield 45, 3) := by decide +kernel
theorem dX5_extreme_19 : decode cX5_extreme 19 = .ok (.aload_n 0, 1) := by decide +kernel
theorem dX5_extreme_20 : decode cX5_extreme 20 = .ok (.getfield 56, 3) := by decide +kernel
theorem dX5_extreme_23 : decode cX5_extreme 23 = .ok (.aload 4, 2) := by decide +kernel
theorem dX5_extreme_25 : decode cX5_extreme 25 = .ok (.iload 5, 2) := by decide +kernel
theorem dX5_extreme_27 : decode cX5_extreme 27 = .ok (.iload_n 2, 1) := by decide +kernel
theorem dX5_extreme_28 : decode cX5_extreme 28 = .ok (.invokevirtual 135, 3) := by decide +kernel
theorem dX5_extreme_31 : decode cX5_extreme 31 = .ok (.iconst 1, 1) := by decide +kernel
theorem dX5_extreme_32 : decode cX5_extreme 32 = .ok (.iload_n 2, 1) := by decide +kernel
theorem dX5_extreme_33 : decode cX5_extreme 33 = .ok (.isub, 1) := by decide +kernel
theorem dX5_extreme_34 : decode cX5_extreme 34 = .ok (.istore 6, 2) := by decide +kernel
theorem dX5_extreme_36 : decode cX5_extreme 36 = .ok (.iload 6, 2) := by decide +kernel
theorem dX5_extreme_38 : decode cX5_extreme 38 = .ok (.ifCond .gt 70, 3) := by decide +kernel
theorem dX5_extreme_41 : decode cX5_extreme 41 = .ok (.aload_n 0, 1) := by decide +kernel
theorem dX5_extreme_42 : decode cX5_extreme 42 = .ok (.getfield 45, 3) := by decide +kernel
theorem dX5_extreme_45 : decode cX5_extreme 45 = .ok (.aload_n 0, 1) := by decide +kernel
theorem dX5_extreme_46 : decode cX5_extreme 46 = .ok (.getfield 59, 3) := by decide +kernel
theorem dX5_extreme_49 : decode cX5_extreme 49 = .ok (.aload 4, 2) := by decide +kernel
theorem dX5_extreme_51 : decode cX5_extreme 51 = .ok (.iload 6, 2) := by decide +kernel
theorem dX5_extreme_53 : decode cX5_extreme 53 = .ok (.iload_n 2, 1) := by decide +kernel
theorem dX5_extreme_54 : decode cX5_extreme 54 = .ok (.invokevirtual 135, 3) := by decide +kernel
theorem dX5_extreme_57 : decode cX5_extreme 57 = .ok (.aload_n 0, 1) := by decide +kernel
theorem dX5_extreme_58 : decode cX5_extreme 58 = .ok (.getfield 59, 3) := by decide +kernel
theorem dX5_extreme_61 : decode cX5_extreme 61 = .ok (.aload_n 0, 1) := by decide +kernel
theorem dX5_extreme_62 : decode cX5_extreme 62 = .ok (.getfield 56, 3) := by decide +kernel
theorem dX5_extreme_65 : decode cX5_extreme 65 = .ok (.invokevirtual 174, 3) := by decide +kernel
theorem dX5_extreme_68 : decode cX5_extreme 68 = .ok (.istore 7, 2) := by decide +kernel
theorem dX5_extreme_70 : decode cX5_extreme 70 = .ok (.iload_n 3, 1) := by decide +kernel
theorem dX5_extreme_71 : decode cX5_extreme 71 = .ok (.ifCond .eq 11, 3) := by decide +kernel
theorem dX5_extreme_74 : decode cX5_extreme 74 = .ok (.iload 7, 2) := by decide +kernel
theorem dX5_extreme_76 : decode cX5_extreme 76 = .ok (.ifCond .ge 26, 3) := by decide +kernel
theorem dX5_extreme_79 : decode cX5_extreme 79 = .ok (.goto 8, 3) := by decide +kernel
theorem dX5_extreme_82 : decode cX5_extreme 82 = .ok (.iload 7, 2) := by decide +kernel
theorem dX5_extreme_84 : decode cX5_extreme 84 = .ok (.ifCond .le 18, 3) := by decide +kernel
theorem dX5_extreme_87 : decode cX5_extreme 87 = .ok (.aload_n 0, 1) := by decide +kernel
theorem dX5_extreme_88 : decode cX5_extreme 88 = .ok (.getfield 56, 3) := by decide +kernel
theorem dX5_extreme_91 : decode cX5_extreme 91 = .ok (.aload_n 0, 1) := by decide +kernel
theorem dX5_extreme_92 : decode cX5_extreme 92 = .ok (.getfield 59, 3) := by decide +kernel
theorem dX5_extreme_95 : decode cX5_extreme 95 = .ok (.invokevirtual 178, 3) := by decide +kernel
theorem dX5_extreme_98 : decode cX5_extreme 98 = .ok (.iload 6, 2) := by decide +kernel
theorem dX5_extreme_100 : decode cX5_extreme 100 = .ok (.istore 5, 2) := by decide +kernel
theorem dX5_extreme_102 : decode cX5_extreme 102 = .ok (.iinc 6 1, 3) := by decide +kernel
theorem dX5_extreme_105 : decode cX5_extreme 105 = .ok (.goto (-69), 3) := by decide +kernel
theorem dX5_extreme_108 : decode cX5_extreme 108 = .ok (.iload 5, 2) := by decide +kernel
theorem dX5_extreme_110 : decode cX5_extreme 110 = .ok (.ireturn, 1) := by decide +kernel
set_option maxRecDepth 20000 in
theorem ggX5_same_X3_hasEdgesOf : GoodIn wsX5_same wsX3_hasEdgesOf := goodIn_r _ [10, 11, 12, 118, 119, 120, 121, 122, 123] rfl rfl
set_option maxRecDepth 20000 in
theorem gX5_same_X3_hasEdgesOf : GoodIn wsX5_same (wsV RX5 181 RX3 yX3_hasEdgesOf wsX3_hasEdgesOf) := goodIn_app (goodIn_r _ [6, 7, 8, 9] rfl rfl) ggX5_same_X3_hasEdgesOf
set_option maxRecDepth 20000 in
theorem ggX5_same_X4_tellBack : GoodIn wsX5_same wsX4_tellBack := goodIn_r _ [17, 18, 19, 20, 21, 22, 16, 23, 24, 25, 26, 27, 28, 29, 30, 31, 32, 33, 34, 35, 36, 37, 38, 39, 40, 41, 42, 43, 44, 45, 46, 47, 48, 49, 50, 51, 52, 53, 54, 55, 56, 57, 58, 59, 60, 61, 62, 63, 64, 65, 66, 67, 68, 69, 70, 71, 72, 73, 74, 75, 76, 77, 78, 79, 80, 81, 82, 83, 84, 85, 124, 125, 126, 127, 128, 129, 130, 131, 132, 133, 134, 135, 136, 137, 138, 118, 119, 120, 121, 122, 123] rfl rfl
set_option maxRecDepth 20000 in
theorem gX5_same_X4_tellBack : GoodIn wsX5_same (wsV RX5 135 RX4 yX4_tellBack wsX4_tellBack) := goodIn_app (goodIn_r _ [13, 14, 15, 16] rfl rfl) ggX5_same_X4_tellBack
set_option maxRecDepth 20000 in
theorem ggX5_same_X0_compareWith : GoodIn wsX5_same wsX0_compareWith := goodIn_r _ [90, 91, 92, 93, 94, 95, 80, 38, 81, 82, 37, 39, 83, 84, 85, 56, 96, 97, 98, 99, 100, 101, 102, 124, 125, 126, 127] rfl rfl
set_option maxRecDepth 20000 in
theorem gX5_same_X0_compareWith : GoodIn wsX5_same (wsV RX5 174 RX0 yX0_compareWith wsX0_compareWith) := goodIn_app (goodIn_r _ [86, 87, 88, 89] rfl rfl) ggX5_same_X0_compareWith
theorem dX5_same_0 : decode cX5_same 0 = .ok (.aload_n 0, 1) := by decide +kernel
theorem dX5_same_1 : decode cX5_same 1 = .ok (.getfield 10, 3) := by decide +kernel
theorem dX5_same_4 : decode cX5_same 4 = .ok (.aload_n 0, 1) := by decide +kernel
theorem dX5_same_5 : decode cX5_same 5 = .ok (.getfield 16, 3) := by decide +kernel
theorem dX5_same_8 : decode cX5_same 8 = .ok (.invokevirtual 181, 3) := by decide +kernel
theorem dX5_same_11 : decode cX5_same 11 = .ok (.ifCond .ne 5, 3) := by decide +kernel
theorem dX5_same_14 : decode cX5_same 14 = .ok (.iconst 0, 1) := by decide +kernel
theorem dX5_same_15 : decode cX5_same 15 = .ok (.ireturn, 1) := by decide +kernel
theorem dX5_same_16 : decode cX5_same 16 = .ok (.iconst 0, 1) := by decide +kernel
theorem dX5_same_17 : decode cX5_same 17 = .ok (.istore_n 1, 1) := by decide +kernel
theorem dX5_same_18 : decode cX5_same 18 = .ok (.iload_n 1, 1) := by decide +kernel
theorem dX5_same_19 : decode cX5_same 19 = .ok (.bipush 49, 2) := by decide +kernel
theorem dX5_same_21 : decode cX5_same 21 = .ok (.if_icmp .gt 61, 3) := by decide +kernel
theorem dX5_same_24 : decode cX5_same 24 = .ok (.aload_n 0, 1) := by decide +kernel
theorem dX5_same_25 : decode cX5_same 25 = .ok (.getfield 45, 3) := by decide +kernel
theorem dX5_same_28 : decode cX5_same 28 = .ok (.aload_n 0, 1) := by decide +kernel
theorem dX5_same_29 : decode cX5_same 29 = .ok (.getfield 56, 3) := by decide +kernel
theorem dX5_same_32 : decode cX5_same 32 = .ok (.aload_n 0, 1) := by decide +kernel
theorem dX5_same_33 : decode cX5_same 33 = .ok (.getfield 10, 3) := by decide +kernel
theorem dX5_same_36 : decode cX5_same 36 = .ok (.iload_n 1, 1) := by decide +kernel
theorem dX5_same_37 : decode cX5_same 37 = .ok (.bipush 49, 2) := by decide +kernel
theorem dX5_same_39 : decode cX5_same 39 = .ok (.invokevirtual 135, 3) := by decide +kernel
theorem dX5_same_42 : decode cX5_same 42 = .ok (.aload_n 0, 1) := by decide +kernel
theorem dX5_same_43 : decode cX5_same 43 = .ok (.getfield 45, 3) := by decide +kernel
theorem dX5_same_46 : decode cX5_same 46 = .ok (.aload_n 0, 1) := by decide +kernel
theorem dX5_same_47 : decode cX5_same 47 = .ok (.getfield 59, 3) := by decide +kernel
theorem dX5_same_50 : decode cX5_same 50 = .ok (.aload_n 0, 1) := by decide +kernel
theorem dX5_same_51 : decode cX5_same 51 = .ok (.getfield 16, 3) := by decide +kernel
theorem dX5_same_54 : decode cX5_same 54 = .ok (.iload_n 1, 1) := by decide +kernel
theorem dX5_same_55 : decode cX5_same 55 = .ok (.bipush 49, 2) := by decide +kernel
theorem dX5_same_57 : decode cX5_same 57 = .ok (.invokevirtual 135, 3) := by decide +kernel
theorem dX5_same_60 : decode cX5_same 60 = .ok (.aload_n 0, 1) := by decide +kernel
theorem dX5_same_61 : decode cX5_same 61 = .ok (.getfield 56, 3) := by decide +kernel
theorem dX5_same_64 : decode cX5_same 64 = .ok (.aload_n 0, 1) := by decide +kernel
theorem dX5_same_65 : decode cX5_same 65 = .ok (.getfield 59, 3) := by decide +kernel
theorem dX5_same_68 : decode cX5_same 68 = .ok (.invokevirtual 174, 3) := by decide +kernel
theorem dX5_same_71 : decode cX5_same 71 = .ok (.ifCond .eq 5, 3) := by decide +kernel
theorem dX5_same_74 : decode cX5_same 74 = .ok (.iconst 0, 1) := by decide +kernel
theorem dX5_same_75 : decode cX5_same 75 = .ok (.ireturn, 1) := by decide +kernel
theorem dX5_same_76 : decode cX5_same 76 = .ok (.iinc 1 1, 3) := by decide +kernel
theorem dX5_same_79 : decode cX5_same 79 = .ok (.goto (-61), 3) := by decide +kernel
theorem dX5_same_82 : decode cX5_same 82 = .ok (.iconst 1, 1) := by decide +kernel
theorem dX5_same_83 : decode cX5_same 83 = .ok (.ireturn, 1) := by decide +kernel
set_option maxRecDepth 20000 in
theorem ggX5_list_X5_needIndex : GoodIn wsX5_list wsX5_needIndex := goodIn_ca (goodIn_r _ [7, 8, 9] (by decide +kernel) (by decide +kernel)) (goodIn_sub (fun _ h => List.mem_cons_of_mem _ (List.mem_append_right _ h)) (by decide +kernel))
set_option maxRecDepth 20000 in
theorem gX5_list_X5_needIndex : GoodIn wsX5_list (va_wsS RX5 83 yX5_needIndex wsX5_needIndex) := goodIn_app (goodIn_r _ [4, 5, 6] rfl rfl) ggX5_list_X5_needIndex
set_option maxRecDepth 20000 in
theorem ggX5_list_X3_lowest : GoodIn wsX5_list wsX3_lowest := goodIn_r _ [13] rfl rfl
set_option maxRecDepth 20000 in
theorem gX5_list_X3_lowest : GoodIn wsX5_list (va_wsS RX5 185 yX3_lowest wsX3_lowest) := goodIn_app (goodIn_r _ [10, 11, 12] rfl rfl) ggX5_list_X3_lowest
set_option maxRecDepth 20000 in
theorem ggX5_list_X5_isListed : GoodIn wsX5_list wsX5_isListed := goodIn_r _ [17, 1, 2, 3, 18, 19, 20, 21, 22, 23, 24, 25, 26, 27, 28, 29, 30, 31, 32] rfl rfl
set_option maxRecDepth 20000 in
theorem gX5_list_X5_isListed : GoodIn wsX5_list (wsV RX5 188 RX5 yX5_isListed wsX5_isListed) := goodIn_app (goodIn_r _ [14, 15, 16, 6] rfl rfl) ggX5_list_X5_isListed
theorem dX5_list_0 : decode cX5_list 0 = .ok (.iload_n 1, 1) := by decide +kernel
theorem dX5_list_1 : decode cX5_list 1 = .ok (.iload_n 2, 1) := by decide +kernel
theorem dX5_list_2 : decode cX5_list 2 = .ok (.invokestatic 83, 3) := by decide +kernel
theorem dX5_list_5 : decode cX5_list 5 = .ok (.iload_n 1, 1) := by decide +kernel
theorem dX5_list_6 : decode cX5_list 6 = .ok (.iload_n 2, 1) := by decide +kernel
theorem dX5_list_7 : decode cX5_list 7 = .ok (.invokestatic 185, 3) := by decide +kernel
theorem dX5_list_10 : decode cX5_list 10 = .ok (.istore_n 3, 1) := by decide +kernel
theorem dX5_list_11 : decode cX5_list 11 = .ok (.iload_n 2, 1) := by decide +kernel
theorem dX5_list_12 : decode cX5_list 12 = .ok (.iload_n 1, 1) := by decide +kernel
theorem dX5_list_13 : decode cX5_list 13 = .ok (.invokestatic 185, 3) := by decide +kernel
theorem dX5_list_16 : decode cX5_list 16 = .ok (.istore 4, 2) := by decide +kernel
theorem dX5_list_18 : decode cX5_list 18 = .ok (.aload_n 0, 1) := by decide +kernel
theorem dX5_list_19 : decode cX5_list 19 = .ok (.getfield 69, 3) := by decide +kernel
theorem dX5_list_22 : decode cX5_list 22 = .ok (.bipush 6, 2) := by decide +kernel
theorem dX5_list_24 : decode cX5_list 24 = .ok (.if_icmp .ge 13, 3) := by decide +kernel
theorem dX5_list_27 : decode cX5_list 27 = .ok (.aload_n 0, 1) := by decide +kernel
theorem dX5_list_28 : decode cX5_list 28 = .ok (.iload_n 3, 1) := by decide +kernel
theorem dX5_list_29 : decode cX5_list 29 = .ok (.iload 4, 2) := by decide +kernel
theorem dX5_list_31 : decode cX5_list 31 = .ok (.invokevirtual 188, 3) := by decide +kernel
theorem dX5_list_34 : decode cX5_list 34 = .ok (.ifCond .eq 5, 3) := by decide +kernel
theorem dX5_list_37 : decode cX5_list 37 = .ok (.iconst (-1), 1) := by decide +kernel
theorem dX5_list_38 : decode cX5_list 38 = .ok (.ireturn, 1) := by decide +kernel
theorem dX5_list_39 : decode cX5_list 39 = .ok (.aload_n 0, 1) := by decide +kernel
theorem dX5_list_40 : decode cX5_list 40 = .ok (.getfield 22, 3) := by decide +kernel
theorem dX5_list_43 : decode cX5_list 43 = .ok (.aload_n 0, 1) := by decide +kernel
theorem dX5_list_44 : decode cX5_list 44 = .ok (.getfield 69, 3) := by decide +kernel
theorem dX5_list_47 : decode cX5_list 47 = .ok (.iload_n 3, 1) := by decide +kernel
theorem dX5_list_48 : decode cX5_list 48 = .ok (.iastore, 1) := by decide +kernel
theorem dX5_list_49 : decode cX5_list 49 = .ok (.aload_n 0, 1) := by decide +kernel
theorem dX5_list_50 : decode cX5_list 50 = .ok (.getfield 26, 3) := by decide +kernel
theorem dX5_list_53 : decode cX5_list 53 = .ok (.aload_n 0, 1) := by decide +kernel
theorem dX5_list_54 : decode cX5_list 54 = .ok (.getfield 69, 3) := by decide +kernel
theorem dX5_list_57 : decode cX5_list 57 = .ok (.iload 4, 2) := by decide +kernel
theorem dX5_list_59 : decode cX5_list 59 = .ok (.iastore, 1) := by decide +kernel
theorem dX5_list_60 : decode cX5_list 60 = .ok (.aload_n 0, 1) := by decide +kernel
theorem dX5_list_61 : decode cX5_list 61 = .ok (.dup, 1) := by decide +kernel
theorem dX5_list_62 : decode cX5_list 62 = .ok (.getfield 69, 3) := by decide +kernel
theorem dX5_list_65 : decode cX5_list 65 = .ok (.iconst 1, 1) := by decide +kernel
theorem dX5_list_66 : decode cX5_list 66 = .ok (.iadd, 1) := by decide +kernel
theorem dX5_list_67 : decode cX5_list 67 = .ok (.putfield 69, 3) := by decide +kernel
theorem dX5_list_70 : decode cX5_list 70 = .ok (.aload_n 0, 1) := by decide +kernel
theorem dX5_list_71 : decode cX5_list 71 = .ok (.getfield 69, 3) := by decide +kernel
theorem dX5_list_74 : decode cX5_list 74 = .ok (.ireturn, 1) := by decide +kernel
theorem dX5_unlist_0 : decode cX5_unlist 0 = .ok (.aload_n 0, 1) := by decide +kernel
theorem dX5_unlist_1 : decode cX5_unlist 1 = .ok (.iconst 0, 1) := by decide +kernel
theorem dX5_unlist_2 : decode cX5_unlist 2 = .ok (.putfield 69, 3) := by decide +kernel
theorem dX5_unlist_5 : decode cX5_unlist 5 = .ok (.return_, 1) := by decide +kernel
set_option maxRecDepth 20000 in
theorem ggX5_choose_X5_pileAt : GoodIn wsX5_choose wsX5_pileAt := goodIn_ca (goodIn_r _ [9, 10, 11, 12, 13, 167, 168, 169, 170, 171, 172, 173, 174, 175, 176, 177, 178, 179, 180, 181] (by decide +kernel) (by decide +kernel)) (goodIn_sub (fun _ h => List.mem_cons_of_mem _ (List.mem_append_right _ h)) (by decide +kernel))
set_option maxRecDepth 20000 in
theorem gX5_choose_X5_pileAt : GoodIn wsX5_choose (wsV RX5 72 RX5 yX5_pileAt wsX5_pileAt) := goodIn_app (goodIn_r _ [5, 6, 7, 8] rfl rfl) ggX5_choose_X5_pileAt
set_option maxRecDepth 20000 in
theorem ggX5_choose_X5_waysToChoose : GoodIn wsX5_choose wsX5_waysToChoose := goodIn_r _ [17, 3, 167, 168, 169, 170, 171, 172, 173, 174, 175, 176, 177, 178, 179, 180, 181] rfl rfl
set_option maxRecDepth 20000 in
theorem gX5_choose_X5_waysToChoose : GoodIn wsX5_choose (wsV RX5 194 RX5 yX5_waysToChoose wsX5_waysToChoose) := goodIn_app (goodIn_r _ [14, 15, 16, 8] rfl rfl) ggX5_choose_X5_waysToChoose
set_option maxRecDepth 20000 in
theorem ggX5_choose_X5_findBestNumbers : GoodIn wsX5_choose wsX5_findBestNumbers := goodIn_r _ [21, 22, 23, 24, 25, 26, 27, 28, 4, 29, 30, 31, 32, 33, 34, 35, 36, 37, 38, 39, 40, 41, 42, 43, 44, 45, 46, 47, 8, 48, 3, 49, 50, 51, 52, 53, 54, 55, 56, 57, 58, 59, 60, 61, 62, 63, 64, 65, 66, 67, 68, 69, 70, 71, 72, 73, 74, 75, 76, 77, 78, 79, 80, 81, 82, 83, 84, 85, 86, 87, 88, 89, 90, 91, 92, 93, 94, 95, 96, 97, 98, 99, 100, 101, 102, 103, 104, 105, 106, 107, 108, 109, 110, 111, 112, 113, 114, 115, 116, 117, 118, 119, 120, 121, 122, 123, 124, 125, 126, 127, 128, 129, 130, 131, 132, 133, 134, 135, 136, 137, 138, 139, 140, 141, 142, 143, 144, 145, 146, 147, 148, 149, 150, 151, 152, 153, 154, 155, 156, 157, 158, 159, 160, 161, 162, 163, 164, 165, 166, 167, 168, 169, 170, 171, 172, 173, 174, 175, 176, 177, 178, 179, 180, 181, 182, 183, 184, 185, 186, 187, 188, 189, 190, 191, 192, 193, 194, 195, 196, 197, 198, 199, 200, 201, 202] rfl rfl
set_option maxRecDepth 20000 in
theorem gX5_choose_X5_findBestNumbers : GoodIn wsX5_choose (wsV RX5 198 RX5 yX5_findBestNumbers wsX5_findBestNumbers) := goodIn_app (goodIn_r _ [18, 19, 20, 8] rfl rfl) ggX5_choose_X5_findBestNumbers
set_option maxRecDepth 20000 in
theorem ggX5_choose_X5_layNumbers : GoodIn wsX5_choose wsX5_layNumbers := goodIn_r _ [48, 3, 49, 50, 51, 52, 53, 54, 36, 55, 44, 56, 57, 58, 59, 41, 42, 43, 60, 61, 62, 63, 64, 65, 66, 167, 168, 169, 170, 171, 172, 173, 174, 175, 176, 177, 178, 179, 180, 181, 182, 183, 184, 185, 186, 187] rfl rfl
set_option maxRecDepth 20000 in
theorem gX5_choose_X5_layNumbers : GoodIn wsX5_choose (wsV RX5 201 RX5 yX5_layNumbers wsX5_layNumbers) := goodIn_app (goodIn_r _ [45, 46, 47, 8] rfl rfl) ggX5_choose_X5_layNumbers
theorem dX5_choose_0 : decode cX5_choose 0 = .ok (.aload_n 0, 1) := by decide +kernel
theorem dX5_choose_1 : decode cX5_choose 1 = .ok (.iload_n 1, 1) := by decide +kernel
theorem dX5_choose_2 : decode cX5_choose 2 = .ok (.invokevirtual 72, 3) := by decide +kernel
theorem dX5_choose_5 : decode cX5_choose 5 = .ok (.astore_n 3, 1) := by decide +kernel
theorem dX5_choose_6 : decode cX5_choose 6 = .ok (.iload_n 2, 1) := by decide +kernel
theorem dX5_choose_7 : decode cX5_choose 7 = .ok (.ifCond .lt 8, 3) := by decide +kernel
theorem dX5_choose_10 : decode cX5_choose 10 = .ok (.iload_n 2, 1) := by decide +kernel
theorem dX5_choose_11 : decode cX5_choose 11 = .ok (.iconst 3, 1) := by decide +kernel
theorem dX5_choose_12 : decode cX5_choose 12 = .ok (.if_icmp .le 13, 3) := by decide +kernel
theorem dX5_choose_15 : decode cX5_choose 15 = .ok (.new 76, 3) := by decide +kernel
theorem dX5_choose_18 : decode cX5_choose 18 = .ok (.dup, 1) := by decide +kernel
theorem dX5_choose_19 : decode cX5_choose 19 = .ok (.ldc 192, 2) := by decide +kernel
theorem dX5_choose_21 : decode cX5_choose 21 = .ok (.invokespecial 80, 3) := by decide +kernel
theorem dX5_choose_24 : decode cX5_choose 24 = .ok (.athrow, 1) := by decide +kernel
theorem dX5_choose_25 : decode cX5_choose 25 = .ok (.iload_n 2, 1) := by decide +kernel
theorem dX5_choose_26 : decode cX5_choose 26 = .ok (.ifCond .le 12, 3) := by decide +kernel
theorem dX5_choose_29 : decode cX5_choose 29 = .ok (.aload_n 0, 1) := by decide +kernel
theorem dX5_choose_30 : decode cX5_choose 30 = .ok (.getfield 69, 3) := by decide +kernel
theorem dX5_choose_33 : decode cX5_choose 33 = .ok (.ifCond .ne 5, 3) := by decide +kernel
theorem dX5_choose_36 : decode cX5_choose 36 = .ok (.iconst (-1), 1) := by decide +kernel
theorem dX5_choose_37 : decode cX5_choose 37 = .ok (.ireturn, 1) := by decide +kernel
theorem dX5_choose_38 : decode cX5_choose 38 = .ok (.aload_n 0, 1) := by decide +kernel
theorem dX5_choose_39 : decode cX5_choose 39 = .ok (.iload_n 2, 1) := by decide +kernel
theorem dX5_choose_40 : decode cX5_choose 40 = .ok (.invokevirtual 194, 3) := by decide +kernel
theorem dX5_choose_43 : decode cX5_choose 43 = .ok (.istore 4, 2) := by decide +kernel
theorem dX5_choose_45 : decode cX5_choose 45 = .ok (.aload_n 0, 1) := by decide +kernel
theorem dX5_choose_46 : decode cX5_choose 46 = .ok (.aload_n 3, 1) := by decide +kernel
theorem dX5_choose_47 : decode cX5_choose 47 = .ok (.iload_n 2, 1) := by decide +kernel
theorem dX5_choose_48 : decode cX5_choose 48 = .ok (.iload 4, 2) := by decide +kernel
theorem dX5_choose_50 : decode cX5_choose 50 = .ok (.invokevirtual 198, 3) := by decide +kernel
theorem dX5_choose_53 : decode cX5_choose 53 = .ok (.aload_n 0, 1) := by decide +kernel
theorem dX5_choose_54 : decode cX5_choose 54 = .ok (.aload_n 3, 1) := by decide +kernel
theorem dX5_choose_55 : decode cX5_choose 55 = .ok (.aload_n 0, 1) := by decide +kernel
theorem dX5_choose_56 : decode cX5_choose 56 = .ok (.getfield 32, 3) := by decide +kernel
theorem dX5_choose_59 : decode cX5_choose 59 = .ok (.iload_n 2, 1) := by decide +kernel
theorem dX5_choose_60 : decode cX5_choose 60 = .ok (.invokevirtual 201, 3) := by decide +kernel
theorem dX5_choose_63 : decode cX5_choose 63 = .ok (.iload 4, 2) := by decide +kernel
theorem dX5_choose_65 : decode cX5_choose 65 = .ok (.ireturn, 1) := by decide +kernel
set_option maxRecDepth 20000 in
theorem ggX5_pane_X2_isShare : GoodIn wsX5_pane wsX2_isShare := goodIn_r _ [8] rfl rfl
set_option maxRecDepth 20000 in
theorem gX5_pane_X2_isShare : GoodIn wsX5_pane (va_wsS RX5 205 yX2_isShare wsX2_isShare) := goodIn_app (goodIn_r _ [5, 6, 7] rfl rfl) ggX5_pane_X2_isShare
set_option maxRecDepth 20000 in
theorem ggX5_pane_X2_append : GoodIn wsX5_pane wsX2_append := goodIn_r _ [12, 13, 14, 15, 16, 17, 18, 19, 20, 21, 22, 23, 24, 25, 26, 27, 28, 29, 30, 31, 32, 33, 34, 35, 36, 7, 37, 53, 54, 55, 56, 57, 58, 59] rfl rfl
set_option maxRecDepth 20000 in
theorem gX5_pane_X2_append : GoodIn wsX5_pane (wsV RX5 212 RX2 yX2_append wsX2_append) := goodIn_app (goodIn_r _ [9, 10, 11, 7] rfl rfl) ggX5_pane_X2_append
theorem dX5_pane_0 : decode cX5_pane 0 = .ok (.iload_n 1, 1) := by decide +kernel
theorem dX5_pane_1 : decode cX5_pane 1 = .ok (.iload_n 2, 1) := by decide +kernel
theorem dX5_pane_2 : decode cX5_pane 2 = .ok (.invokestatic 205, 3) := by decide +kernel
theorem dX5_pane_5 : decode cX5_pane 5 = .ok (.ifCond .eq 12, 3) := by decide +kernel
theorem dX5_pane_8 : decode cX5_pane 8 = .ok (.iload_n 3, 1) := by decide +kernel
theorem dX5_pane_9 : decode cX5_pane 9 = .ok (.iload 4, 2) := by decide +kernel
theorem dX5_pane_11 : decode cX5_pane 11 = .ok (.invokestatic 205, 3) := by decide +kernel
theorem dX5_pane_14 : decode cX5_pane 14 = .ok (.ifCond .ne 13, 3) := by decide +kernel
theorem dX5_pane_17 : decode cX5_pane 17 = .ok (.new 76, 3) := by decide +kernel
theorem dX5_pane_20 : decode cX5_pane 20 = .ok (.dup, 1) := by decide +kernel
theorem dX5_pane_21 : decode cX5_pane 21 = .ok (.ldc 208, 2) := by decide +kernel
theorem dX5_pane_23 : decode cX5_pane 23 = .ok (.invokespecial 80, 3) := by decide +kernel
theorem dX5_pane_26 : decode cX5_pane 26 = .ok (.athrow, 1) := by decide +kernel
theorem dX5_pane_27 : decode cX5_pane 27 = .ok (.iload_n 1, 1) := by decide +kernel
theorem dX5_pane_28 : decode cX5_pane 28 = .ok (.iload 4, 2) := by decide +kernel
theorem dX5_pane_30 : decode cX5_pane 30 = .ok (.imul, 1) := by decide +kernel
theorem dX5_pane_31 : decode cX5_pane 31 = .ok (.iload_n 3, 1) := by decide +kernel
theorem dX5_pane_32 : decode cX5_pane 32 = .ok (.iload_n 2, 1) := by decide +kernel
theorem dX5_pane_33 : decode cX5_pane 33 = .ok (.imul, 1) := by decide +kernel
theorem dX5_pane_34 : decode cX5_pane 34 = .ok (.iadd, 1) := by decide +kernel
theorem dX5_pane_35 : decode cX5_pane 35 = .ok (.iload_n 2, 1) := by decide +kernel
theorem dX5_pane_36 : decode cX5_pane 36 = .ok (.iload 4, 2) := by decide +kernel
theorem dX5_pane_38 : decode cX5_pane 38 = .ok (.imul, 1) := by decide +kernel
theorem dX5_pane_39 : decode cX5_pane 39 = .ok (.if_icmp .le 13, 3) := by decide +kernel
theorem dX5_pane_42 : decode cX5_pane 42 = .ok (.new 76, 3) := by decide +kernel
theorem dX5_pane_45 : decode cX5_pane 45 = .ok (.dup, 1) := by decide +kernel
theorem dX5_pane_46 : decode cX5_pane 46 = .ok (.ldc 210, 2) := by decide +kernel
theorem dX5_pane_48 : decode cX5_pane 48 = .ok (.invokespecial 80, 3) := by decide +kernel
theorem dX5_pane_51 : decode cX5_pane 51 = .ok (.athrow, 1) := by decide +kernel
theorem dX5_pane_52 : decode cX5_pane 52 = .ok (.aload_n 0, 1) := by decide +kernel
theorem dX5_pane_53 : decode cX5_pane 53 = .ok (.getfield 38, 3) := by decide +kernel
theorem dX5_pane_56 : decode cX5_pane 56 = .ok (.iload_n 1, 1) := by decide +kernel
theorem dX5_pane_57 : decode cX5_pane 57 = .ok (.iload_n 2, 1) := by decide +kernel
theorem dX5_pane_58 : decode cX5_pane 58 = .ok (.iload_n 3, 1) := by decide +kernel
theorem dX5_pane_59 : decode cX5_pane 59 = .ok (.iload 4, 2) := by decide +kernel
theorem dX5_pane_61 : decode cX5_pane 61 = .ok (.invokevirtual 212, 3) := by decide +kernel
theorem dX5_pane_64 : decode cX5_pane 64 = .ok (.ifCond .eq 13, 3) := by decide +kernel
theorem dX5_pane_67 : decode cX5_pane 67 = .ok (.aload_n 0, 1) := by decide +kernel
theorem dX5_pane_68 : decode cX5_pane 68 = .ok (.getfield 38, 3) := by decide +kernel
theorem dX5_pane_71 : decode cX5_pane 71 = .ok (.getfield 215, 3) := by decide +kernel
theorem dX5_pane_74 : decode cX5_pane 74 = .ok (.goto 4, 3) := by decide +kernel
theorem dX5_pane_77 : decode cX5_pane 77 = .ok (.iconst (-1), 1) := by decide +kernel
theorem dX5_pane_78 : decode cX5_pane 78 = .ok (.ireturn, 1) := by decide +kernel
set_option maxRecDepth 20000 in
theorem ggX5_clear_X2_removeAll : GoodIn wsX5_clear wsX2_removeAll := goodIn_r _ [7, 8, 9, 10, 11, 6, 12, 13, 14, 15, 16, 17, 18, 19, 20, 21, 37, 38, 39, 40, 41, 42, 43] rfl rfl
set_option maxRecDepth 20000 in
theorem gX5_clear_X2_removeAll : GoodIn wsX5_clear (wsV RX5 216 RX2 yX2_removeAll wsX2_removeAll) := goodIn_app (goodIn_r _ [3, 4, 5, 6] rfl rfl) ggX5_clear_X2_removeAll
theorem dX5_clear_0 : decode cX5_clear 0 = .ok (.aload_n 0, 1) := by decide +kernel
theorem dX5_clear_1 : decode cX5_clear 1 = .ok (.getfield 38, 3) := by decide +kernel
theorem dX5_clear_4 : decode cX5_clear 4 = .ok (.getfield 215, 3) := by decide +kernel
theorem dX5_clear_7 : decode cX5_clear 7 = .ok (.istore_n 1, 1) := by decide +kernel
theorem dX5_clear_8 : decode cX5_clear 8 = .ok (.aload_n 0, 1) := by decide +kernel
theorem dX5_clear_9 : decode cX5_clear 9 = .ok (.getfield 38, 3) := by decide +kernel
theorem dX5_clear_12 : decode cX5_clear 12 = .ok (.invokevirtual 216, 3) := by decide +kernel
theorem dX5_clear_15 : decode cX5_clear 15 = .ok (.iload_n 1, 1) := by decide +kernel
theorem dX5_clear_16 : decode cX5_clear 16 = .ok (.ireturn, 1) := by decide +kernel
set_option maxRecDepth 20000 in
theorem ggX5_share_X5_needPart : GoodIn wsX5_share wsX5_needPart := goodIn_ca (goodIn_r _ [8, 1, 2] (by decide +kernel) (by decide +kernel)) (goodIn_sub (fun _ h => List.mem_cons_of_mem _ (List.mem_append_right _ h)) (by decide +kernel))
set_option maxRecDepth 20000 in
theorem gX5_share_X5_needPart : GoodIn wsX5_share (va_wsS RX5 132 yX5_needPart wsX5_needPart) := goodIn_app (goodIn_r _ [5, 6, 7] rfl rfl) ggX5_share_X5_needPart
set_option maxRecDepth 20000 in
theorem ggX5_share_X2_tell : GoodIn wsX5_share wsX2_tell := goodIn_r _ [13, 14, 15, 16, 17, 18, 19, 20, 21, 22, 23, 24, 25, 26, 27, 28, 29, 30, 31, 12, 32, 33, 106, 107, 108, 109, 110, 111, 112, 113, 114, 115, 116] rfl rfl
set_option maxRecDepth 20000 in
theorem gX5_share_X2_tell : GoodIn wsX5_share (wsV RX5 221 RX2 yX2_tell wsX2_tell) := goodIn_app (goodIn_r _ [9, 10, 11, 12] rfl rfl) ggX5_share_X2_tell
set_option maxRecDepth 20000 in
theorem ggX5_share_X0_toLowestTerms : GoodIn wsX5_share wsX0_toLowestTerms := goodIn_r _ [38, 39, 40, 41, 42, 43, 44, 45, 46, 47, 48, 23, 49, 50, 51, 52, 53, 54, 55, 56, 57, 58, 59, 60, 61, 62, 63, 64, 65, 66, 22, 24, 67, 68, 69, 70, 71, 72, 73, 74, 75, 76, 77, 78, 79, 80, 81, 82, 83, 84, 85, 86, 28, 113, 114, 115, 116] rfl rfl
set_option maxRecDepth 20000 in
theorem gX5_share_X0_toLowestTerms : GoodIn wsX5_share (wsV RX5 139 RX0 yX0_toLowestTerms wsX0_toLowestTerms) := goodIn_app (goodIn_r _ [34, 35, 36, 37] rfl rfl) ggX5_share_X0_toLowestTerms
set_option maxRecDepth 20000 in
theorem ggX5_share_X0_part : GoodIn wsX5_share wsX0_part := goodIn_r _ [90, 40, 39, 113, 114, 115, 116] rfl rfl
set_option maxRecDepth 20000 in
theorem gX5_share_X0_part : GoodIn wsX5_share (wsV RX5 142 RX0 yX0_part wsX0_part) := goodIn_app (goodIn_r _ [87, 88, 89, 37] rfl rfl) ggX5_share_X0_part
theorem dX5_share_0 : decode cX5_share 0 = .ok (.iload_n 1, 1) := by decide +kernel
theorem dX5_share_1 : decode cX5_share 1 = .ok (.ifCond .lt 8, 3) := by decide +kernel
theorem dX5_share_4 : decode cX5_share 4 = .ok (.iload_n 1, 1) := by decide +kernel
theorem dX5_share_5 : decode cX5_share 5 = .ok (.iconst 3, 1) := by decide +kernel
theorem dX5_share_6 : decode cX5_share 6 = .ok (.if_icmp .le 13, 3) := by decide +kernel
theorem dX5_share_9 : decode cX5_share 9 = .ok (.new 76, 3) := by decide +kernel
theorem dX5_share_12 : decode cX5_share 12 = .ok (.dup, 1) := by decide +kernel
theorem dX5_share_13 : decode cX5_share 13 = .ok (.ldc 219, 2) := by decide +kernel
theorem dX5_share_15 : decode cX5_share 15 = .ok (.invokespecial 80, 3) := by decide +kernel
theorem dX5_share_18 : decode cX5_share 18 = .ok (.athrow, 1) := by decide +kernel
theorem dX5_share_19 : decode cX5_share 19 = .ok (.iload_n 3, 1) := by decide +kernel
theorem dX5_share_20 : decode cX5_share 20 = .ok (.invokestatic 132, 3) := by decide +kernel
theorem dX5_share_23 : decode cX5_share 23 = .ok (.aload_n 0, 1) := by decide +kernel
theorem dX5_share_24 : decode cX5_share 24 = .ok (.getfield 38, 3) := by decide +kernel
theorem dX5_share_27 : decode cX5_share 27 = .ok (.aload_n 0, 1) := by decide +kernel
theorem dX5_share_28 : decode cX5_share 28 = .ok (.getfield 52, 3) := by decide +kernel
theorem dX5_share_31 : decode cX5_share 31 = .ok (.iload_n 1, 1) := by decide +kernel
theorem dX5_share_32 : decode cX5_share 32 = .ok (.invokevirtual 221, 3) := by decide +kernel
theorem dX5_share_35 : decode cX5_share 35 = .ok (.aload_n 0, 1) := by decide +kernel
theorem dX5_share_36 : decode cX5_share 36 = .ok (.getfield 52, 3) := by decide +kernel
theorem dX5_share_39 : decode cX5_share 39 = .ok (.invokevirtual 139, 3) := by decide +kernel
theorem dX5_share_42 : decode cX5_share 42 = .ok (.aload_n 0, 1) := by decide +kernel
theorem dX5_share_43 : decode cX5_share 43 = .ok (.getfield 52, 3) := by decide +kernel
theorem dX5_share_46 : decode cX5_share 46 = .ok (.iload_n 2, 1) := by decide +kernel
theorem dX5_share_47 : decode cX5_share 47 = .ok (.iload_n 3, 1) := by decide +kernel
theorem dX5_share_48 : decode cX5_share 48 = .ok (.invokevirtual 142, 3) := by decide +kernel
theorem dX5_share_51 : decode cX5_share 51 = .ok (.ireturn, 1) := by decide +kernel
theorem dX5_pileAt_0 : decode cX5_pileAt 0 = .ok (.iload_n 1, 1) := by decide +kernel
theorem dX5_pileAt_1 : decode cX5_pileAt 1 = .ok (.ifCond .eq 18, 3) := by decide +kernel
theorem dX5_pileAt_4 : decode cX5_pileAt 4 = .ok (.iload_n 1, 1) := by decide +kernel
theorem dX5_pileAt_5 : decode cX5_pileAt 5 = .ok (.iconst 1, 1) := by decide +kernel
theorem dX5_pileAt_6 : decode cX5_pileAt 6 = .ok (.if_icmp .eq 13, 3) := by decide +kernel
theorem dX5_pileAt_9 : decode cX5_pileAt 9 = .ok (.new 224, 3) := by decide +kernel
theorem dX5_pileAt_12 : decode cX5_pileAt 12 = .ok (.dup, 1) := by decide +kernel
theorem dX5_pileAt_13 : decode cX5_pileAt 13 = .ok (.ldc 226, 2) := by decide +kernel
theorem dX5_pileAt_15 : decode cX5_pileAt 15 = .ok (.invokespecial 228, 3) := by decide +kernel
theorem dX5_pileAt_18 : decode cX5_pileAt 18 = .ok (.athrow, 1) := by decide +kernel
theorem dX5_pileAt_19 : decode cX5_pileAt 19 = .ok (.iload_n 1, 1) := by decide +kernel
theorem dX5_pileAt_20 : decode cX5_pileAt 20 = .ok (.ifCond .ne 10, 3) := by decide +kernel
theorem dX5_pileAt_23 : decode cX5_pileAt 23 = .ok (.aload_n 0, 1) := by decide +kernel
theorem dX5_pileAt_24 : decode cX5_pileAt 24 = .ok (.getfield 10, 3) := by decide +kernel
theorem dX5_pileAt_27 : decode cX5_pileAt 27 = .ok (.goto 7, 3) := by decide +kernel
theorem dX5_pileAt_30 : decode cX5_pileAt 30 = .ok (.aload_n 0, 1) := by decide +kernel
theorem dX5_pileAt_31 : decode cX5_pileAt 31 = .ok (.getfield 16, 3) := by decide +kernel
theorem dX5_pileAt_34 : decode cX5_pileAt 34 = .ok (.areturn, 1) := by decide +kernel
theorem dX5_needIndex_0 : decode cX5_needIndex 0 = .ok (.iload_n 0, 1) := by decide +kernel
theorem dX5_needIndex_1 : decode cX5_needIndex 1 = .ok (.iconst 1, 1) := by decide +kernel
theorem dX5_needIndex_2 : decode cX5_needIndex 2 = .ok (.if_icmp .lt 20, 3) := by decide +kernel
theorem dX5_needIndex_5 : decode cX5_needIndex 5 = .ok (.iload_n 0, 1) := by decide +kernel
theorem dX5_needIndex_6 : decode cX5_needIndex 6 = .ok (.bipush 9, 2) := by decide +kernel
theorem dX5_needIndex_8 : decode cX5_needIndex 8 = .ok (.if_icmp .gt 14, 3) := by decide +kernel
theorem dX5_needIndex_11 : decode cX5_needIndex 11 = .ok (.iload_n 1, 1) := by decide +kernel
theorem dX5_needIndex_12 : decode cX5_needIndex 12 = .ok (.iconst 1, 1) := by decide +kernel
theorem dX5_needIndex_13 : decode cX5_needIndex 13 = .ok (.if_icmp .lt 9, 3) := by decide +kernel
theorem dX5_needIndex_16 : decode cX5_needIndex 16 = .ok (.iload_n 1, 1) := by decide +kernel
theorem dX5_needIndex_17 : decode cX5_needIndex 17 = .ok (.bipush 9, 2) := by decide +kernel
theorem dX5_needIndex_19 : decode cX5_needIndex 19 = .ok (.if_icmp .le 13, 3) := by decide +kernel
theorem dX5_needIndex_22 : decode cX5_needIndex 22 = .ok (.new 76, 3) := by decide +kernel
theorem dX5_needIndex_25 : decode cX5_needIndex 25 = .ok (.dup, 1) := by decide +kernel
theorem dX5_needIndex_26 : decode cX5_needIndex 26 = .ok (.ldc 229, 2) := by decide +kernel
theorem dX5_needIndex_28 : decode cX5_needIndex 28 = .ok (.invokespecial 80, 3) := by decide +kernel
theorem dX5_needIndex_31 : decode cX5_needIndex 31 = .ok (.athrow, 1) := by decide +kernel
theorem dX5_needIndex_32 : decode cX5_needIndex 32 = .ok (.return_, 1) := by decide +kernel
theorem dX5_needLightBelow_0 : decode cX5_needLightBelow 0 = .ok (.iload_n 0, 1) := by decide +kernel
theorem dX5_needLightBelow_1 : decode cX5_needLightBelow 1 = .ok (.iconst 1, 1) := by decide +kernel
theorem dX5_needLightBelow_2 : decode cX5_needLightBelow 2 = .ok (.if_icmp .lt 9, 3) := by decide +kernel
theorem dX5_needLightBelow_5 : decode cX5_needLightBelow 5 = .ok (.iload_n 0, 1) := by decide +kernel
theorem dX5_needLightBelow_6 : decode cX5_needLightBelow 6 = .ok (.bipush 25, 2) := by decide +kernel
theorem dX5_needLightBelow_8 : decode cX5_needLightBelow 8 = .ok (.if_icmp .le 13, 3) := by decide +kernel
theorem dX5_needLightBelow_11 : decode cX5_needLightBelow 11 = .ok (.new 76, 3) := by decide +kernel
theorem dX5_needLightBelow_14 : decode cX5_needLightBelow 14 = .ok (.dup, 1) := by decide +kernel
theorem dX5_needLightBelow_15 : decode cX5_needLightBelow 15 = .ok (.ldc 231, 2) := by decide +kernel
theorem dX5_needLightBelow_17 : decode cX5_needLightBelow 17 = .ok (.invokespecial 80, 3) := by decide +kernel
theorem dX5_needLightBelow_20 : decode cX5_needLightBelow 20 = .ok (.athrow, 1) := by decide +kernel
theorem dX5_needLightBelow_21 : decode cX5_needLightBelow 21 = .ok (.return_, 1) := by decide +kernel
theorem dX5_needPart_0 : decode cX5_needPart 0 = .ok (.iload_n 0, 1) := by decide +kernel
theorem dX5_needPart_1 : decode cX5_needPart 1 = .ok (.ifCond .lt 9, 3) := by decide +kernel
theorem dX5_needPart_4 : decode cX5_needPart 4 = .ok (.iload_n 0, 1) := by decide +kernel
theorem dX5_needPart_5 : decode cX5_needPart 5 = .ok (.bipush 40, 2) := by decide +kernel
theorem dX5_needPart_7 : decode cX5_needPart 7 = .ok (.if_icmp .lt 13, 3) := by decide +kernel
theorem dX5_needPart_10 : decode cX5_needPart 10 = .ok (.new 76, 3) := by decide +kernel
theorem dX5_needPart_13 : decode cX5_needPart 13 = .ok (.dup, 1) := by decide +kernel
theorem dX5_needPart_14 : decode cX5_needPart 14 = .ok (.ldc 233, 2) := by decide +kernel
theorem dX5_needPart_16 : decode cX5_needPart 16 = .ok (.invokespecial 80, 3) := by decide +kernel
theorem dX5_needPart_19 : decode cX5_needPart 19 = .ok (.athrow, 1) := by decide +kernel
theorem dX5_needPart_20 : decode cX5_needPart 20 = .ok (.return_, 1) := by decide +kernel
theorem dX5_needEntry_0 : decode cX5_needEntry 0 = .ok (.iload_n 0, 1) := by decide +kernel
theorem dX5_needEntry_1 : decode cX5_needEntry 1 = .ok (.ifCond .lt 8, 3) := by decide +kernel
theorem dX5_needEntry_4 : decode cX5_needEntry 4 = .ok (.iload_n 0, 1) := by decide +kernel
theorem dX5_needEntry_5 : decode cX5_needEntry 5 = .ok (.iconst 4, 1) := by decide +kernel
theorem dX5_needEntry_6 : decode cX5_needEntry 6 = .ok (.if_icmp .lt 13, 3) := by decide +kernel
theorem dX5_needEntry_9 : decode cX5_needEntry 9 = .ok (.new 76, 3) := by decide +kernel
theorem dX5_needEntry_12 : decode cX5_needEntry 12 = .ok (.dup, 1) := by decide +kernel
theorem dX5_needEntry_13 : decode cX5_needEntry 13 = .ok (.ldc 235, 2) := by decide +kernel
theorem dX5_needEntry_15 : decode cX5_needEntry 15 = .ok (.invokespecial 80, 3) := by decide +kernel
theorem dX5_needEntry_18 : decode cX5_needEntry 18 = .ok (.athrow, 1) := by decide +kernel
theorem dX5_needEntry_19 : decode cX5_needEntry 19 = .ok (.return_, 1) := by decide +kernel
theorem dX5_isListed_0 : decode cX5_isListed 0 = .ok (.iconst 0, 1) := by decide +kernel
theorem dX5_isListed_1 : decode cX5_isListed 1 = .ok (.istore_n 3, 1) := by decide +kernel
theorem dX5_isListed_2 : decode cX5_isListed 2 = .ok (.iload_n 3, 1) := by decide +kernel
theorem dX5_isListed_3 : decode cX5_isListed 3 = .ok (.aload_n 0, 1) := by decide +kernel
theorem dX5_isListed_4 : decode cX5_isListed 4 = .ok (.getfield 69, 3) := by decide +kernel
theorem dX5_isListed_7 : decode cX5_isListed 7 = .ok (.if_icmp .ge 37, 3) := by decide +kernel
theorem dX5_isListed_10 : decode cX5_isListed 10 = .ok (.iload_n 3, 1) := by decide +kernel
theorem dX5_isListed_11 : decode cX5_isListed 11 = .ok (.bipush 6, 2) := by decide +kernel
theorem dX5_isListed_13 : decode cX5_isListed 13 = .ok (.if_icmp .ge 31, 3) := by decide +kernel
theorem dX5_isListed_16 : decode cX5_isListed 16 = .ok (.aload_n 0, 1) := by decide +kernel
theorem dX5_isListed_17 : decode cX5_isListed 17 = .ok (.getfield 22, 3) := by decide +kernel
theorem dX5_isListed_20 : decode cX5_isListed 20 = .ok (.iload_n 3, 1) := by decide +kernel
theorem dX5_isListed_21 : decode cX5_isListed 21 = .ok (.iaload, 1) := by decide +kernel
theorem dX5_isListed_22 : decode cX5_isListed 22 = .ok (.iload_n 1, 1) := by decide +kernel
theorem dX5_isListed_23 : decode cX5_isListed 23 = .ok (.if_icmp .ne 15, 3) := by decide +kernel
theorem dX5_isListed_26 : decode cX5_isListed 26 = .ok (.aload_n 0, 1) := by decide +kernel
theorem dX5_isListed_27 : decode cX5_isListed 27 = .ok (.getfield 26, 3) := by decide +kernel
theorem dX5_isListed_30 : decode cX5_isListed 30 = .ok (.iload_n 3, 1) := by decide +kernel
theorem dX5_isListed_31 : decode cX5_isListed 31 = .ok (.iaload, 1) := by decide +kernel
theorem dX5_isListed_32 : decode cX5_isListed 32 = .ok (.iload_n 2, 1) := by decide +kernel
theorem dX5_isListed_33 : decode cX5_isListed 33 = .ok (.if_icmp .ne 5, 3) := by decide +kernel
theorem dX5_isListed_36 : decode cX5_isListed 36 = .ok (.iconst 1, 1) := by decide +kernel
theorem dX5_isListed_37 : decode cX5_isListed 37 = .ok (.ireturn, 1) := by decide +kernel
theorem dX5_isListed_38 : decode cX5_isListed 38 = .ok (.iinc 3 1, 3) := by decide +kernel
theorem dX5_isListed_41 : decode cX5_isListed 41 = .ok (.goto (-39), 3) := by decide +kernel
theorem dX5_isListed_44 : decode cX5_isListed 44 = .ok (.iconst 0, 1) := by decide +kernel
theorem dX5_isListed_45 : decode cX5_isListed 45 = .ok (.ireturn, 1) := by decide +kernel
theorem dX5_waysToChoose_0 : decode cX5_waysToChoose 0 = .ok (.iconst 1, 1) := by decide +kernel
theorem dX5_waysToChoose_1 : decode cX5_waysToChoose 1 = .ok (.istore_n 2, 1) := by decide +kernel
theorem dX5_waysToChoose_2 : decode cX5_waysToChoose 2 = .ok (.iconst 0, 1) := by decide +kernel
theorem dX5_waysToChoose_3 : decode cX5_waysToChoose 3 = .ok (.istore_n 3, 1) := by decide +kernel
theorem dX5_waysToChoose_4 : decode cX5_waysToChoose 4 = .ok (.iload_n 3, 1) := by decide +kernel
theorem dX5_waysToChoose_5 : decode cX5_waysToChoose 5 = .ok (.iload_n 1, 1) := by decide +kernel
theorem dX5_waysToChoose_6 : decode cX5_waysToChoose 6 = .ok (.if_icmp .ge 16, 3) := by decide +kernel
theorem dX5_waysToChoose_9 : decode cX5_waysToChoose 9 = .ok (.iload_n 2, 1) := by decide +kernel
theorem dX5_waysToChoose_10 : decode cX5_waysToChoose 10 = .ok (.aload_n 0, 1) := by decide +kernel
theorem dX5_waysToChoose_11 : decode cX5_waysToChoose 11 = .ok (.getfield 69, 3) := by decide +kernel
theorem dX5_waysToChoose_14 : decode cX5_waysToChoose 14 = .ok (.imul, 1) := by decide +kernel
theorem dX5_waysToChoose_15 : decode cX5_waysToChoose 15 = .ok (.istore_n 2, 1) := by decide +kernel
theorem dX5_waysToChoose_16 : decode cX5_waysToChoose 16 = .ok (.iinc 3 1, 3) := by decide +kernel
theorem dX5_waysToChoose_19 : decode cX5_waysToChoose 19 = .ok (.goto (-15), 3) := by decide +kernel
theorem dX5_waysToChoose_22 : decode cX5_waysToChoose 22 = .ok (.iload_n 2, 1) := by decide +kernel
theorem dX5_waysToChoose_23 : decode cX5_waysToChoose 23 = .ok (.ireturn, 1) := by decide +kernel
set_option maxRecDepth 20000 in
theorem ggX5_findBestNumbers_X3_becomeLike : GoodIn wsX5_findBestNumbers wsX3_becomeLike := goodIn_r _ [17, 18, 19, 10, 11, 12, 20, 21, 22, 23, 24, 164, 165, 166, 167, 168, 169] rfl rfl
set_option maxRecDepth 20000 in
theorem gX5_findBestNumbers_X3_becomeLike : GoodIn wsX5_findBestNumbers (wsV RX5 123 RX3 yX3_becomeLike wsX3_becomeLike) := goodIn_app (goodIn_r _ [13, 14, 15, 16] rfl rfl) ggX5_findBestNumbers_X3_becomeLike
set_option maxRecDepth 20000 in
theorem ggX5_findBestNumbers_X5_layNumbers : GoodIn wsX5_findBestNumbers wsX5_layNumbers := goodIn_r _ [29, 30, 31, 32, 33, 34, 35, 36, 16, 37, 24, 38, 39, 40, 41, 21, 22, 23, 42, 43, 44, 45, 46, 47, 48, 149, 150, 151, 152, 153, 154, 155, 156, 157, 158, 159, 160, 161, 162, 163, 164, 165, 166, 167, 168, 169] rfl rfl
set_option maxRecDepth 20000 in
theorem gX5_findBestNumbers_X5_layNumbers : GoodIn wsX5_findBestNumbers (wsV RX5 201 RX5 yX5_layNumbers wsX5_layNumbers) := goodIn_app (goodIn_r _ [25, 26, 27, 28] rfl rfl) ggX5_findBestNumbers_X5_layNumbers
set_option maxRecDepth 20000 in
theorem ggX5_findBestNumbers_X4_tellBack : GoodIn wsX5_findBestNumbers wsX4_tellBack := goodIn_r _ [53, 54, 55, 56, 57, 58, 52, 59, 60, 61, 62, 63, 64, 65, 66, 67, 68, 69, 70, 71, 72, 73, 74, 75, 76, 77, 78, 79, 80, 81, 82, 83, 84, 85, 86, 87, 88, 89, 90, 91, 92, 93, 94, 95, 96, 97, 98, 99, 100, 101, 102, 103, 104, 105, 106, 107, 108, 109, 110, 111, 112, 113, 114, 115, 116, 117, 118, 119, 120, 121, 170, 171, 172, 173, 174, 175, 176, 177, 178, 179, 180, 181, 182, 183, 184, 164, 165, 166, 167, 168, 169] rfl rfl
set_option maxRecDepth 20000 in
theorem gX5_findBestNumbers_X4_tellBack : GoodIn wsX5_findBestNumbers (wsV RX5 135 RX4 yX4_tellBack wsX4_tellBack) := goodIn_app (goodIn_r _ [49, 50, 51, 52] rfl rfl) ggX5_findBestNumbers_X4_tellBack
set_option maxRecDepth 20000 in
theorem ggX5_findBestNumbers_X0_compareWith : GoodIn wsX5_findBestNumbers wsX0_compareWith := goodIn_r _ [126, 127, 128, 129, 130, 131, 116, 74, 117, 118, 73, 75, 119, 120, 121, 92, 132, 133, 134, 135, 136, 137, 138, 170, 171, 172, 173] rfl rfl
set_option maxRecDepth 20000 in
theorem gX5_findBestNumbers_X0_compareWith : GoodIn wsX5_findBestNumbers (wsV RX5 174 RX0 yX0_compareWith wsX0_compareWith) := goodIn_app (goodIn_r _ [122, 123, 124, 125] rfl rfl) ggX5_findBestNumbers_X0_compareWith
set_option maxRecDepth 20000 in
theorem ggX5_findBestNumbers_X0_becomeLike : GoodIn wsX5_findBestNumbers wsX0_becomeLike := goodIn_r _ [142, 128, 129, 143, 87, 74, 88, 170, 171, 172, 173] rfl rfl
set_option maxRecDepth 20000 in
theorem gX5_findBestNumbers_X0_becomeLike : GoodIn wsX5_findBestNumbers (wsV RX5 178 RX0 yX0_becomeLike wsX0_becomeLike) := goodIn_app (goodIn_r _ [139, 140, 141, 125] rfl rfl) ggX5_findBestNumbers_X0_becomeLike
set_option maxRecDepth 20000 in
theorem ggX5_findBestNumbers_X5_advanceNumbers : GoodIn wsX5_findBestNumbers wsX5_advanceNumbers := goodIn_r _ [147, 148, 136, 137, 138, 2, 30, 149, 150, 151, 152, 153, 154, 155, 156, 157, 158, 159, 160, 161, 162, 163] rfl rfl
set_option maxRecDepth 20000 in
theorem gX5_findBestNumbers_X5_advanceNumbers : GoodIn wsX5_findBestNumbers (wsV RX5 243 RX5 yX5_advanceNumbers wsX5_advanceNumbers) := goodIn_app (goodIn_r _ [144, 145, 146, 28] rfl rfl) ggX5_findBestNumbers_X5_advanceNumbers
theorem dX5_findBestNumbers_0 : decode cX5_findBestNumbers 0 = .ok (.aload_n 0, 1) := by decide +kernel
theorem dX5_findBestNumbers_1 : decode cX5_findBestNumbers 1 = .ok (.getfield 19, 3) := by decide +kernel
theorem dX5_findBestNumbers_4 : decode cX5_findBestNumbers 4 = .ok (.aload_n 1, 1) := by decide +kernel
theorem dX5_findBestNumbers_5 : decode cX5_findBestNumbers 5 = .ok (.invokevirtual 123, 3) := by decide +kernel
theorem dX5_findBestNumbers_8 : decode cX5_findBestNumbers 8 = .ok (.iconst 0, 1) := by decide +kernel
theorem dX5_findBestNumbers_9 : decode cX5_findBestNumbers 9 = .ok (.istore 4, 2) := by decide +kernel
theorem dX5_findBestNumbers_11 : decode cX5_findBestNumbers 11 = .ok (.iload 4, 2) := by decide +kernel
theorem dX5_findBestNumbers_13 : decode cX5_findBestNumbers 13 = .ok (.iconst 3, 1) := by decide +kernel
theorem dX5_findBestNumbers_14 : decode cX5_findBestNumbers 14 = .ok (.if_icmp .ge 17, 3) := by decide +kernel
theorem dX5_findBestNumbers_17 : decode cX5_findBestNumbers 17 = .ok (.aload_n 0, 1) := by decide +kernel
theorem dX5_findBestNumbers_18 : decode cX5_findBestNumbers 18 = .ok (.getfield 29, 3) := by decide +kernel
theorem dX5_findBestNumbers_21 : decode cX5_findBestNumbers 21 = .ok (.iload 4, 2) := by decide +kernel
theorem dX5_findBestNumbers_23 : decode cX5_findBestNumbers 23 = .ok (.iconst 0, 1) := by decide +kernel
theorem dX5_findBestNumbers_24 : decode cX5_findBestNumbers 24 = .ok (.iastore, 1) := by decide +kernel
theorem dX5_findBestNumbers_25 : decode cX5_findBestNumbers 25 = .ok (.iinc 4 1, 3) := by decide +kernel
theorem dX5_findBestNumbers_28 : decode cX5_findBestNumbers 28 = .ok (.goto (-17), 3) := by decide +kernel
theorem dX5_findBestNumbers_31 : decode cX5_findBestNumbers 31 = .ok (.iconst 0, 1) := by decide +kernel
theorem dX5_findBestNumbers_32 : decode cX5_findBestNumbers 32 = .ok (.istore 4, 2) := by decide +kernel
theorem dX5_findBestNumbers_34 : decode cX5_findBestNumbers 34 = .ok (.iload 4, 2) := by decide +kernel
theorem dX5_findBestNumbers_36 : decode cX5_findBestNumbers 36 = .ok (.iload_n 3, 1) := by decide +kernel
theorem dX5_findBestNumbers_37 : decode cX5_findBestNumbers 37 = .ok (.if_icmp .ge 94, 3) := by decide +kernel
theorem dX5_findBestNumbers_40 : decode cX5_findBestNumbers 40 = .ok (.aload_n 0, 1) := by decide +kernel
theorem dX5_findBestNumbers_41 : decode cX5_findBestNumbers 41 = .ok (.aload_n 0, 1) := by decide +kernel
theorem dX5_findBestNumbers_42 : decode cX5_findBestNumbers 42 = .ok (.getfield 19, 3) := by decide +kernel
theorem dX5_findBestNumbers_45 : decode cX5_findBestNumbers 45 = .ok (.aload_n 0, 1) := by decide +kernel
theorem dX5_findBestNumbers_46 : decode cX5_findBestNumbers 46 = .ok (.getfield 29, 3) := by decide +kernel
theorem dX5_findBestNumbers_49 : decode cX5_findBestNumbers 49 = .ok (.iload_n 2, 1) := by decide +kernel
theorem dX5_findBestNumbers_50 : decode cX5_findBestNumbers 50 = .ok (.invokevirtual 201, 3) := by decide +kernel
theorem dX5_findBestNumbers_53 : decode cX5_findBestNumbers 53 = .ok (.aload_n 0, 1) := by decide +kernel
theorem dX5_findBestNumbers_54 : decode cX5_findBestNumbers 54 = .ok (.getfield 45, 3) := by decide +kernel
theorem dX5_findBestNumbers_57 : decode cX5_findBestNumbers 57 = .ok (.aload_n 0, 1) := by decide +kernel
theorem dX5_findBestNumbers_58 : decode cX5_findBestNumbers 58 = .ok (.getfield 59, 3) := by decide +kernel
theorem dX5_findBestNumbers_61 : decode cX5_findBestNumbers 61 = .ok (.aload_n 0, 1) := by decide +kernel
theorem dX5_findBestNumbers_62 : decode cX5_findBestNumbers 62 = .ok (.getfield 19, 3) := by decide +kernel
theorem dX5_findBestNumbers_65 : decode cX5_findBestNumbers 65 = .ok (.aload_n 0, 1) := by decide +kernel
theorem dX5_findBestNumbers_66 : decode cX5_findBestNumbers 66 = .ok (.getfield 62, 3) := by decide +kernel
theorem dX5_findBestNumbers_69 : decode cX5_findBestNumbers 69 = .ok (.aload_n 0, 1) := by decide +kernel
theorem dX5_findBestNumbers_70 : decode cX5_findBestNumbers 70 = .ok (.getfield 66, 3) := by decide +kernel
theorem dX5_findBestNumbers_73 : decode cX5_findBestNumbers 73 = .ok (.invokevirtual 135, 3) := by decide +kernel
theorem dX5_findBestNumbers_76 : decode cX5_findBestNumbers 76 = .ok (.iload 4, 2) := by decide +kernel
theorem dX5_findBestNumbers_78 : decode cX5_findBestNumbers 78 = .ok (.ifCond .eq 17, 3) := by decide +kernel
theorem dX5_findBestNumbers_81 : decode cX5_findBestNumbers 81 = .ok (.aload_n 0, 1) := by decide +kernel
theorem dX5_findBestNumbers_82 : decode cX5_findBestNumbers 82 = .ok (.getfield 59, 3) := by decide +kernel
theorem dX5_findBestNumbers_85 : decode cX5_findBestNumbers 85 = .ok (.aload_n 0, 1) := by decide +kernel
theorem dX5_findBestNumbers_86 : decode cX5_findBestNumbers 86 = .ok (.getfield 56, 3) := by decide +kernel
theorem dX5_findBestNumbers_89 : decode cX5_findBestNumbers 89 = .ok (.invokevirtual 174, 3) := by decide +kernel
theorem dX5_findBestNumbers_92 : decode cX5_findBestNumbers 92 = .ok (.ifCond .ge 28, 3) := by decide +kernel
theorem dX5_findBestNumbers_95 : decode cX5_findBestNumbers 95 = .ok (.aload_n 0, 1) := by decide +kernel
theorem dX5_findBestNumbers_96 : decode cX5_findBestNumbers 96 = .ok (.getfield 56, 3) := by decide +kernel
theorem dX5_findBestNumbers_99 : decode cX5_findBestNumbers 99 = .ok (.aload_n 0, 1) := by decide +kernel
theorem dX5_findBestNumbers_100 : decode cX5_findBestNumbers 100 = .ok (.getfield 59, 3) := by decide +kernel
theorem dX5_findBestNumbers_103 : decode cX5_findBestNumbers 103 = .ok (.invokevirtual 178, 3) := by decide +kernel
theorem dX5_findBestNumbers_106 : decode cX5_findBestNumbers 106 = .ok (.aload_n 0, 1) := by decide +kernel
theorem dX5_findBestNumbers_107 : decode cX5_findBestNumbers 107 = .ok (.getfield 29, 3) := by decide +kernel
theorem dX5_findBestNumbers_110 : decode cX5_findBestNumbers 110 = .ok (.iconst 0, 1) := by decide +kernel
theorem dX5_findBestNumbers_111 : decode cX5_findBestNumbers 111 = .ok (.aload_n 0, 1) := by decide +kernel
theorem dX5_findBestNumbers_112 : decode cX5_findBestNumbers 112 = .ok (.getfield 32, 3) := by decide +kernel
theorem dX5_findBestNumbers_115 : decode cX5_findBestNumbers 115 = .ok (.iconst 0, 1) := by decide +kernel
theorem dX5_findBestNumbers_116 : decode cX5_findBestNumbers 116 = .ok (.iconst 3, 1) := by decide +kernel
theorem dX5_findBestNumbers_117 : decode cX5_findBestNumbers 117 = .ok (.invokestatic 237, 3) := by decide +kernel
theorem dX5_findBestNumbers_120 : decode cX5_findBestNumbers 120 = .ok (.aload_n 0, 1) := by decide +kernel
theorem dX5_findBestNumbers_121 : decode cX5_findBestNumbers 121 = .ok (.iload_n 2, 1) := by decide +kernel
theorem dX5_findBestNumbers_122 : decode cX5_findBestNumbers 122 = .ok (.invokevirtual 243, 3) := by decide +kernel
theorem dX5_findBestNumbers_125 : decode cX5_findBestNumbers 125 = .ok (.iinc 4 1, 3) := by decide +kernel
theorem dX5_findBestNumbers_128 : decode cX5_findBestNumbers 128 = .ok (.goto (-94), 3) := by decide +kernel
theorem dX5_findBestNumbers_131 : decode cX5_findBestNumbers 131 = .ok (.return_, 1) := by decide +kernel
theorem dX5_advanceNumbers_0 : decode cX5_advanceNumbers 0 = .ok (.iload_n 1, 1) := by decide +kernel
theorem dX5_advanceNumbers_1 : decode cX5_advanceNumbers 1 = .ok (.iconst 3, 1) := by decide +kernel
theorem dX5_advanceNumbers_2 : decode cX5_advanceNumbers 2 = .ok (.invokestatic 246, 3) := by decide +kernel
theorem dX5_advanceNumbers_5 : decode cX5_advanceNumbers 5 = .ok (.iconst 1, 1) := by decide +kernel
theorem dX5_advanceNumbers_6 : decode cX5_advanceNumbers 6 = .ok (.isub, 1) := by decide +kernel
theorem dX5_advanceNumbers_7 : decode cX5_advanceNumbers 7 = .ok (.istore_n 2, 1) := by decide +kernel
theorem dX5_advanceNumbers_8 : decode cX5_advanceNumbers 8 = .ok (.iload_n 2, 1) := by decide +kernel
theorem dX5_advanceNumbers_9 : decode cX5_advanceNumbers 9 = .ok (.ifCond .lt 40, 3) := by decide +kernel
theorem dX5_advanceNumbers_12 : decode cX5_advanceNumbers 12 = .ok (.aload_n 0, 1) := by decide +kernel
theorem dX5_advanceNumbers_13 : decode cX5_advanceNumbers 13 = .ok (.getfield 29, 3) := by decide +kernel
theorem dX5_advanceNumbers_16 : decode cX5_advanceNumbers 16 = .ok (.iload_n 2, 1) := by decide +kernel
theorem dX5_advanceNumbers_17 : decode cX5_advanceNumbers 17 = .ok (.dup2, 1) := by decide +kernel
theorem dX5_advanceNumbers_18 : decode cX5_advanceNumbers 18 = .ok (.iaload, 1) := by decide +kernel
theorem dX5_advanceNumbers_19 : decode cX5_advanceNumbers 19 = .ok (.iconst 1, 1) := by decide +kernel
theorem dX5_advanceNumbers_20 : decode cX5_advanceNumbers 20 = .ok (.iadd, 1) := by decide +kernel
theorem dX5_advanceNumbers_21 : decode cX5_advanceNumbers 21 = .ok (.iastore, 1) := by decide +kernel
theorem dX5_advanceNumbers_22 : decode cX5_advanceNumbers 22 = .ok (.aload_n 0, 1) := by decide +kernel
theorem dX5_advanceNumbers_23 : decode cX5_advanceNumbers 23 = .ok (.getfield 29, 3) := by decide +kernel
theorem dX5_advanceNumbers_26 : decode cX5_advanceNumbers 26 = .ok (.iload_n 2, 1) := by decide +kernel
theorem dX5_advanceNumbers_27 : decode cX5_advanceNumbers 27 = .ok (.iaload, 1) := by decide +kernel
theorem dX5_advanceNumbers_28 : decode cX5_advanceNumbers 28 = .ok (.aload_n 0, 1) := by decide +kernel
theorem dX5_advanceNumbers_29 : decode cX5_advanceNumbers 29 = .ok (.getfield 69, 3) := by decide +kernel
theorem dX5_advanceNumbers_32 : decode cX5_advanceNumbers 32 = .ok (.if_icmp .ge 4, 3) := by decide +kernel
theorem dX5_advanceNumbers_35 : decode cX5_advanceNumbers 35 = .ok (.return_, 1) := by decide +kernel
theorem dX5_advanceNumbers_36 : decode cX5_advanceNumbers 36 = .ok (.aload_n 0, 1) := by decide +kernel
theorem dX5_advanceNumbers_37 : decode cX5_advanceNumbers 37 = .ok (.getfield 29, 3) := by decide +kernel
theorem dX5_advanceNumbers_40 : decode cX5_advanceNumbers 40 = .ok (.iload_n 2, 1) := by decide +kernel
theorem dX5_advanceNumbers_41 : decode cX5_advanceNumbers 41 = .ok (.iconst 0, 1) := by decide +kernel
theorem dX5_advanceNumbers_42 : decode cX5_advanceNumbers 42 = .ok (.iastore, 1) := by decide +kernel
theorem dX5_advanceNumbers_43 : decode cX5_advanceNumbers 43 = .ok (.iinc 2 (-1), 3) := by decide +kernel
theorem dX5_advanceNumbers_46 : decode cX5_advanceNumbers 46 = .ok (.goto (-38), 3) := by decide +kernel
theorem dX5_advanceNumbers_49 : decode cX5_advanceNumbers 49 = .ok (.return_, 1) := by decide +kernel
set_option maxRecDepth 20000 in
theorem ggX5_layNumbers_X3_removeAll : GoodIn wsX5_layNumbers wsX3_removeAll := goodIn_r _ [9, 10, 40, 41, 42, 43, 44, 45] rfl rfl
set_option maxRecDepth 20000 in
theorem gX5_layNumbers_X3_removeAll : GoodIn wsX5_layNumbers (wsV RX5 251 RX3 yX3_removeAll wsX3_removeAll) := goodIn_app (goodIn_r _ [5, 6, 7, 8] rfl rfl) ggX5_layNumbers_X3_removeAll
set_option maxRecDepth 20000 in
theorem ggX5_layNumbers_X3_insert : GoodIn wsX5_layNumbers wsX3_insert := goodIn_r _ [14, 10, 15, 16, 17, 18, 19, 20, 8, 21, 22, 23, 24, 40, 41, 42, 43, 44, 45] rfl rfl
set_option maxRecDepth 20000 in
theorem gX5_layNumbers_X3_insert : GoodIn wsX5_layNumbers (wsV RX5 98 RX3 yX3_insert wsX3_insert) := goodIn_app (goodIn_r _ [11, 12, 13, 8] rfl rfl) ggX5_layNumbers_X3_insert
theorem dX5_layNumbers_0 : decode cX5_layNumbers 0 = .ok (.aload_n 1, 1) := by decide +kernel
theorem dX5_layNumbers_1 : decode cX5_layNumbers 1 = .ok (.invokevirtual 251, 3) := by decide +kernel
theorem dX5_layNumbers_4 : decode cX5_layNumbers 4 = .ok (.iconst 0, 1) := by decide +kernel
theorem dX5_layNumbers_5 : decode cX5_layNumbers 5 = .ok (.istore 4, 2) := by decide +kernel
theorem dX5_layNumbers_7 : decode cX5_layNumbers 7 = .ok (.iload 4, 2) := by decide +kernel
theorem dX5_layNumbers_9 : decode cX5_layNumbers 9 = .ok (.iload_n 3, 1) := by decide +kernel
theorem dX5_layNumbers_10 : decode cX5_layNumbers 10 = .ok (.if_icmp .ge 67, 3) := by decide +kernel
theorem dX5_layNumbers_13 : decode cX5_layNumbers 13 = .ok (.iload 4, 2) := by decide +kernel
theorem dX5_layNumbers_15 : decode cX5_layNumbers 15 = .ok (.aload_n 2, 1) := by decide +kernel
theorem dX5_layNumbers_16 : decode cX5_layNumbers 16 = .ok (.arraylength, 1) := by decide +kernel
theorem dX5_layNumbers_17 : decode cX5_layNumbers 17 = .ok (.if_icmp .ge 60, 3) := by decide +kernel
theorem dX5_layNumbers_20 : decode cX5_layNumbers 20 = .ok (.aload_n 2, 1) := by decide +kernel
theorem dX5_layNumbers_21 : decode cX5_layNumbers 21 = .ok (.iload 4, 2) := by decide +kernel
theorem dX5_layNumbers_23 : decode cX5_layNumbers 23 = .ok (.iaload, 1) := by decide +kernel
theorem dX5_layNumbers_24 : decode cX5_layNumbers 24 = .ok (.istore 5, 2) := by decide +kernel
theorem dX5_layNumbers_26 : decode cX5_layNumbers 26 = .ok (.iload 5, 2) := by decide +kernel
theorem dX5_layNumbers_28 : decode cX5_layNumbers 28 = .ok (.ifCond .lt 43, 3) := by decide +kernel
theorem dX5_layNumbers_31 : decode cX5_layNumbers 31 = .ok (.iload 5, 2) := by decide +kernel
theorem dX5_layNumbers_33 : decode cX5_layNumbers 33 = .ok (.aload_n 0, 1) := by decide +kernel
theorem dX5_layNumbers_34 : decode cX5_layNumbers 34 = .ok (.getfield 69, 3) := by decide +kernel
theorem dX5_layNumbers_37 : decode cX5_layNumbers 37 = .ok (.if_icmp .ge 34, 3) := by decide +kernel
theorem dX5_layNumbers_40 : decode cX5_layNumbers 40 = .ok (.iload 5, 2) := by decide +kernel
theorem dX5_layNumbers_42 : decode cX5_layNumbers 42 = .ok (.bipush 6, 2) := by decide +kernel
theorem dX5_layNumbers_44 : decode cX5_layNumbers 44 = .ok (.if_icmp .ge 27, 3) := by decide +kernel
theorem dX5_layNumbers_47 : decode cX5_layNumbers 47 = .ok (.aload_n 1, 1) := by decide +kernel
theorem dX5_layNumbers_48 : decode cX5_layNumbers 48 = .ok (.aload_n 1, 1) := by decide +kernel
theorem dX5_layNumbers_49 : decode cX5_layNumbers 49 = .ok (.getfield 93, 3) := by decide +kernel
theorem dX5_layNumbers_52 : decode cX5_layNumbers 52 = .ok (.aload_n 0, 1) := by decide +kernel
theorem dX5_layNumbers_53 : decode cX5_layNumbers 53 = .ok (.getfield 22, 3) := by decide +kernel
theorem dX5_layNumbers_56 : decode cX5_layNumbers 56 = .ok (.iload 5, 2) := by decide +kernel
theorem dX5_layNumbers_58 : decode cX5_layNumbers 58 = .ok (.iaload, 1) := by decide +kernel
theorem dX5_layNumbers_59 : decode cX5_layNumbers 59 = .ok (.aload_n 0, 1) := by decide +kernel
theorem dX5_layNumbers_60 : decode cX5_layNumbers 60 = .ok (.getfield 26, 3) := by decide +kernel
theorem dX5_layNumbers_63 : decode cX5_layNumbers 63 = .ok (.iload 5, 2) := by decide +kernel
theorem dX5_layNumbers_65 : decode cX5_layNumbers 65 = .ok (.iaload, 1) := by decide +kernel
theorem dX5_layNumbers_66 : decode cX5_layNumbers 66 = .ok (.iconst 1, 1) := by decide +kernel
theorem dX5_layNumbers_67 : decode cX5_layNumbers 67 = .ok (.invokevirtual 98, 3) := by decide +kernel
theorem dX5_layNumbers_70 : decode cX5_layNumbers 70 = .ok (.pop, 1) := by decide +kernel
theorem dX5_layNumbers_71 : decode cX5_layNumbers 71 = .ok (.iinc 4 1, 3) := by decide +kernel
theorem dX5_layNumbers_74 : decode cX5_layNumbers 74 = .ok (.goto (-67), 3) := by decide +kernel
theorem dX5_layNumbers_77 : decode cX5_layNumbers 77 = .ok (.return_, 1) := by decide +kernel
