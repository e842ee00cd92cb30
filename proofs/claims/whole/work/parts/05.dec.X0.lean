theorem dX3_moveLayer_54 : decode cX3_moveLayer 54 = .ok (.iload_n 1, 1) := by decide +kernel
theorem dX3_moveLayer_55 : decode cX3_moveLayer 55 = .ok (.iaload, 1) := by decide +kernel
theorem dX3_moveLayer_56 : decode cX3_moveLayer 56 = .ok (.iastore, 1) := by decide +kernel
theorem dX3_moveLayer_57 : decode cX3_moveLayer 57 = .ok (.return_, 1) := by decide +kernel
theorem dX3_swap_0 : decode cX3_swap 0 = .ok (.iload_n 1, 1) := by decide +kernel
theorem dX3_swap_1 : decode cX3_swap 1 = .ok (.ifCond .lt 19, 3) := by decide +kernel
theorem dX3_swap_4 : decode cX3_swap 4 = .ok (.iload_n 1, 1) := by decide +kernel
theorem dX3_swap_5 : decode cX3_swap 5 = .ok (.aload_n 0, 1) := by decide +kernel
theorem dX3_swap_6 : decode cX3_swap 6 = .ok (.arraylength, 1) := by decide +kernel
theorem dX3_swap_7 : decode cX3_swap 7 = .ok (.if_icmp .ge 13, 3) := by decide +kernel
theorem dX3_swap_10 : decode cX3_swap 10 = .ok (.iload_n 2, 1) := by decide +kernel
theorem dX3_swap_11 : decode cX3_swap 11 = .ok (.ifCond .lt 9, 3) := by decide +kernel
theorem dX3_swap_14 : decode cX3_swap 14 = .ok (.iload_n 2, 1) := by decide +kernel
theorem dX3_swap_15 : decode cX3_swap 15 = .ok (.aload_n 0, 1) := by decide +kernel
theorem dX3_swap_16 : decode cX3_swap 16 = .ok (.arraylength, 1) := by decide +kernel
theorem dX3_swap_17 : decode cX3_swap 17 = .ok (.if_icmp .lt 4, 3) := by decide +kernel
theorem dX3_swap_20 : decode cX3_swap 20 = .ok (.return_, 1) := by decide +kernel
theorem dX3_swap_21 : decode cX3_swap 21 = .ok (.aload_n 0, 1) := by decide +kernel
theorem dX3_swap_22 : decode cX3_swap 22 = .ok (.iload_n 1, 1) := by decide +kernel
theorem dX3_swap_23 : decode cX3_swap 23 = .ok (.iaload, 1) := by decide +kernel
theorem dX3_swap_24 : decode cX3_swap 24 = .ok (.istore_n 3, 1) := by decide +kernel
theorem dX3_swap_25 : decode cX3_swap 25 = .ok (.aload_n 0, 1) := by decide +kernel
theorem dX3_swap_26 : decode cX3_swap 26 = .ok (.iload_n 1, 1) := by decide +kernel
theorem dX3_swap_27 : decode cX3_swap 27 = .ok (.aload_n 0, 1) := by decide +kernel
theorem dX3_swap_28 : decode cX3_swap 28 = .ok (.iload_n 2, 1) := by decide +kernel
theorem dX3_swap_29 : decode cX3_swap 29 = .ok (.iaload, 1) := by decide +kernel
theorem dX3_swap_30 : decode cX3_swap 30 = .ok (.iastore, 1) := by decide +kernel
theorem dX3_swap_31 : decode cX3_swap 31 = .ok (.aload_n 0, 1) := by decide +kernel
theorem dX3_swap_32 : decode cX3_swap 32 = .ok (.iload_n 2, 1) := by decide +kernel
theorem dX3_swap_33 : decode cX3_swap 33 = .ok (.iload_n 3, 1) := by decide +kernel
theorem dX3_swap_34 : decode cX3_swap 34 = .ok (.iastore, 1) := by decide +kernel
theorem dX3_swap_35 : decode cX3_swap 35 = .ok (.return_, 1) := by decide +kernel
theorem dX4_init_0 : decode cX4_init 0 = .ok (.aload_n 0, 1) := by decide +kernel
theorem dX4_init_1 : decode cX4_init 1 = .ok (.invokespecial 1, 3) := by decide +kernel
theorem dX4_init_4 : decode cX4_init 4 = .ok (.aload_n 0, 1) := by decide +kernel
theorem dX4_init_5 : decode cX4_init 5 = .ok (.bipush 8, 2) := by decide +kernel
theorem dX4_init_7 : decode cX4_init 7 = .ok (.newarray .int, 2) := by decide +kernel
theorem dX4_init_9 : decode cX4_init 9 = .ok (.putfield 9, 3) := by decide +kernel
theorem dX4_init_12 : decode cX4_init 12 = .ok (.aload_n 0, 1) := by decide +kernel
theorem dX4_init_13 : decode cX4_init 13 = .ok (.bipush 8, 2) := by decide +kernel
theorem dX4_init_15 : decode cX4_init 15 = .ok (.newarray .int, 2) := by decide +kernel
theorem dX4_init_17 : decode cX4_init 17 = .ok (.putfield 15, 3) := by decide +kernel
theorem dX4_init_20 : decode cX4_init 20 = .ok (.aload_n 0, 1) := by decide +kernel
theorem dX4_init_21 : decode cX4_init 21 = .ok (.bipush 8, 2) := by decide +kernel
theorem dX4_init_23 : decode cX4_init 23 = .ok (.newarray .int, 2) := by decide +kernel
theorem dX4_init_25 : decode cX4_init 25 = .ok (.putfield 18, 3) := by decide +kernel
theorem dX4_init_28 : decode cX4_init 28 = .ok (.aload_n 0, 1) := by decide +kernel
theorem dX4_init_29 : decode cX4_init 29 = .ok (.bipush 8, 2) := by decide +kernel
theorem dX4_init_31 : decode cX4_init 31 = .ok (.newarray .int, 2) := by decide +kernel
theorem dX4_init_33 : decode cX4_init 33 = .ok (.putfield 21, 3) := by decide +kernel
theorem dX4_init_36 : decode cX4_init 36 = .ok (.aload_n 0, 1) := by decide +kernel
theorem dX4_init_37 : decode cX4_init 37 = .ok (.bipush 8, 2) := by decide +kernel
theorem dX4_init_39 : decode cX4_init 39 = .ok (.newarray .int, 2) := by decide +kernel
theorem dX4_init_41 : decode cX4_init 41 = .ok (.putfield 24, 3) := by decide +kernel
theorem dX4_init_44 : decode cX4_init 44 = .ok (.aload_n 0, 1) := by decide +kernel
theorem dX4_init_45 : decode cX4_init 45 = .ok (.bipush 8, 2) := by decide +kernel
theorem dX4_init_47 : decode cX4_init 47 = .ok (.newarray .int, 2) := by decide +kernel
theorem dX4_init_49 : decode cX4_init 49 = .ok (.putfield 27, 3) := by decide +kernel
theorem dX4_init_52 : decode cX4_init 52 = .ok (.aload_n 0, 1) := by decide +kernel
theorem dX4_init_53 : decode cX4_init 53 = .ok (.bipush 8, 2) := by decide +kernel
theorem dX4_init_55 : decode cX4_init 55 = .ok (.newarray .int, 2) := by decide +kernel
theorem dX4_init_57 : decode cX4_init 57 = .ok (.putfield 30, 3) := by decide +kernel
theorem dX4_init_60 : decode cX4_init 60 = .ok (.aload_n 0, 1) := by decide +kernel
theorem dX4_init_61 : decode cX4_init 61 = .ok (.bipush 16, 2) := by decide +kernel
theorem dX4_init_63 : decode cX4_init 63 = .ok (.newarray .int, 2) := by decide +kernel
theorem dX4_init_65 : decode cX4_init 65 = .ok (.putfield 33, 3) := by decide +kernel
theorem dX4_init_68 : decode cX4_init 68 = .ok (.aload_n 0, 1) := by decide +kernel
theorem dX4_init_69 : decode cX4_init 69 = .ok (.iconst 0, 1) := by decide +kernel
theorem dX4_init_70 : decode cX4_init 70 = .ok (.putfield 36, 3) := by decide +kernel
theorem dX4_init_73 : decode cX4_init 73 = .ok (.aload_n 0, 1) := by decide +kernel
theorem dX4_init_74 : decode cX4_init 74 = .ok (.iconst 1, 1) := by decide +kernel
theorem dX4_init_75 : decode cX4_init 75 = .ok (.putfield 40, 3) := by decide +kernel
theorem dX4_init_78 : decode cX4_init 78 = .ok (.aload_n 0, 1) := by decide +kernel
theorem dX4_init_79 : decode cX4_init 79 = .ok (.iconst 1, 1) := by decide +kernel
theorem dX4_init_80 : decode cX4_init 80 = .ok (.putfield 43, 3) := by decide +kernel
theorem dX4_init_83 : decode cX4_init 83 = .ok (.return_, 1) := by decide +kernel
set_option maxRecDepth 20000 in
theorem ggX4_reckon_X1_set : GoodIn wsX4_reckon wsX1_set := goodIn_r _ [16] rfl rfl
set_option maxRecDepth 20000 in
theorem gX4_reckon_X1_set : GoodIn wsX4_reckon (va_wsS RX4 46 yX1_set wsX1_set) := goodIn_app (goodIn_r _ [13, 14, 15] rfl rfl) ggX4_reckon_X1_set
set_option maxRecDepth 20000 in
theorem ggX4_reckon_X4_appendLayer : GoodIn wsX4_reckon wsX4_appendLayer := goodIn_r _ [21, 2, 1, 4, 5, 7, 6, 8, 22, 23, 24, 20, 25, 26, 27, 3, 28, 29, 15, 30, 31, 32, 33, 34, 35, 36, 37, 38, 39, 40, 41, 42, 43, 44, 45, 46, 47, 48] rfl rfl
set_option maxRecDepth 20000 in
theorem gX4_reckon_X4_appendLayer : GoodIn wsX4_reckon (wsV RX4 64 RX4 yX4_appendLayer wsX4_appendLayer) := goodIn_app (goodIn_r _ [17, 18, 19, 20] rfl rfl) ggX4_reckon_X4_appendLayer
theorem dX4_reckon_0 : decode cX4_reckon 0 = .ok (.aload_n 0, 1) := by decide +kernel
theorem dX4_reckon_1 : decode cX4_reckon 1 = .ok (.iload_n 2, 1) := by decide +kernel
theorem dX4_reckon_2 : decode cX4_reckon 2 = .ok (.putfield 36, 3) := by decide +kernel
theorem dX4_reckon_5 : decode cX4_reckon 5 = .ok (.aload_n 0, 1) := by decide +kernel
theorem dX4_reckon_6 : decode cX4_reckon 6 = .ok (.iload_n 3, 1) := by decide +kernel
theorem dX4_reckon_7 : decode cX4_reckon 7 = .ok (.putfield 40, 3) := by decide +kernel
theorem dX4_reckon_10 : decode cX4_reckon 10 = .ok (.aload_n 0, 1) := by decide +kernel
theorem dX4_reckon_11 : decode cX4_reckon 11 = .ok (.iload_n 3, 1) := by decide +kernel
theorem dX4_reckon_12 : decode cX4_reckon 12 = .ok (.iload_n 3, 1) := by decide +kernel
theorem dX4_reckon_13 : decode cX4_reckon 13 = .ok (.imul, 1) := by decide +kernel
theorem dX4_reckon_14 : decode cX4_reckon 14 = .ok (.iload_n 2, 1) := by decide +kernel
theorem dX4_reckon_15 : decode cX4_reckon 15 = .ok (.iload_n 2, 1) := by decide +kernel
theorem dX4_reckon_16 : decode cX4_reckon 16 = .ok (.imul, 1) := by decide +kernel
theorem dX4_reckon_17 : decode cX4_reckon 17 = .ok (.isub, 1) := by decide +kernel
theorem dX4_reckon_18 : decode cX4_reckon 18 = .ok (.putfield 43, 3) := by decide +kernel
theorem dX4_reckon_21 : decode cX4_reckon 21 = .ok (.aload_n 0, 1) := by decide +kernel
theorem dX4_reckon_22 : decode cX4_reckon 22 = .ok (.getfield 9, 3) := by decide +kernel
theorem dX4_reckon_25 : decode cX4_reckon 25 = .ok (.iconst 1, 1) := by decide +kernel
theorem dX4_reckon_26 : decode cX4_reckon 26 = .ok (.invokestatic 46, 3) := by decide +kernel
theorem dX4_reckon_29 : decode cX4_reckon 29 = .ok (.aload_n 0, 1) := by decide +kernel
theorem dX4_reckon_30 : decode cX4_reckon 30 = .ok (.getfield 15, 3) := by decide +kernel
theorem dX4_reckon_33 : decode cX4_reckon 33 = .ok (.iconst 0, 1) := by decide +kernel
theorem dX4_reckon_34 : decode cX4_reckon 34 = .ok (.invokestatic 46, 3) := by decide +kernel
theorem dX4_reckon_37 : decode cX4_reckon 37 = .ok (.aload_n 0, 1) := by decide +kernel
theorem dX4_reckon_38 : decode cX4_reckon 38 = .ok (.getfield 18, 3) := by decide +kernel
theorem dX4_reckon_41 : decode cX4_reckon 41 = .ok (.iconst 0, 1) := by decide +kernel
theorem dX4_reckon_42 : decode cX4_reckon 42 = .ok (.invokestatic 46, 3) := by decide +kernel
theorem dX4_reckon_45 : decode cX4_reckon 45 = .ok (.aload_n 0, 1) := by decide +kernel
theorem dX4_reckon_46 : decode cX4_reckon 46 = .ok (.getfield 21, 3) := by decide +kernel
theorem dX4_reckon_49 : decode cX4_reckon 49 = .ok (.iconst 1, 1) := by decide +kernel
theorem dX4_reckon_50 : decode cX4_reckon 50 = .ok (.invokestatic 46, 3) := by decide +kernel
theorem dX4_reckon_53 : decode cX4_reckon 53 = .ok (.aload_n 0, 1) := by decide +kernel
theorem dX4_reckon_54 : decode cX4_reckon 54 = .ok (.getfield 24, 3) := by decide +kernel
theorem dX4_reckon_57 : decode cX4_reckon 57 = .ok (.iconst 1, 1) := by decide +kernel
theorem dX4_reckon_58 : decode cX4_reckon 58 = .ok (.invokestatic 46, 3) := by decide +kernel
theorem dX4_reckon_61 : decode cX4_reckon 61 = .ok (.iconst 0, 1) := by decide +kernel
theorem dX4_reckon_62 : decode cX4_reckon 62 = .ok (.istore 4, 2) := by decide +kernel
theorem dX4_reckon_64 : decode cX4_reckon 64 = .ok (.iload 4, 2) := by decide +kernel
theorem dX4_reckon_66 : decode cX4_reckon 66 = .ok (.aload_n 1, 1) := by decide +kernel
theorem dX4_reckon_67 : decode cX4_reckon 67 = .ok (.getfield 50, 3) := by decide +kernel
theorem dX4_reckon_70 : decode cX4_reckon 70 = .ok (.if_icmp .ge 41, 3) := by decide +kernel
theorem dX4_reckon_73 : decode cX4_reckon 73 = .ok (.iload 4, 2) := by decide +kernel
theorem dX4_reckon_75 : decode cX4_reckon 75 = .ok (.bipush 6, 2) := by decide +kernel
theorem dX4_reckon_77 : decode cX4_reckon 77 = .ok (.if_icmp .ge 34, 3) := by decide +kernel
theorem dX4_reckon_80 : decode cX4_reckon 80 = .ok (.aload_n 0, 1) := by decide +kernel
theorem dX4_reckon_81 : decode cX4_reckon 81 = .ok (.aload_n 1, 1) := by decide +kernel
theorem dX4_reckon_82 : decode cX4_reckon 82 = .ok (.getfield 55, 3) := by decide +kernel
theorem dX4_reckon_85 : decode cX4_reckon 85 = .ok (.iload 4, 2) := by decide +kernel
theorem dX4_reckon_87 : decode cX4_reckon 87 = .ok (.iaload, 1) := by decide +kernel
theorem dX4_reckon_88 : decode cX4_reckon 88 = .ok (.aload_n 1, 1) := by decide +kernel
theorem dX4_reckon_89 : decode cX4_reckon 89 = .ok (.getfield 58, 3) := by decide +kernel
theorem dX4_reckon_92 : decode cX4_reckon 92 = .ok (.iload 4, 2) := by decide +kernel
theorem dX4_reckon_94 : decode cX4_reckon 94 = .ok (.iaload, 1) := by decide +kernel
theorem dX4_reckon_95 : decode cX4_reckon 95 = .ok (.aload_n 1, 1) := by decide +kernel
theorem dX4_reckon_96 : decode cX4_reckon 96 = .ok (.getfield 61, 3) := by decide +kernel
theorem dX4_reckon_99 : decode cX4_reckon 99 = .ok (.iload 4, 2) := by decide +kernel
theorem dX4_reckon_101 : decode cX4_reckon 101 = .ok (.iaload, 1) := by decide +kernel
theorem dX4_reckon_102 : decode cX4_reckon 102 = .ok (.invokevirtual 64, 3) := by decide +kernel
theorem dX4_reckon_105 : decode cX4_reckon 105 = .ok (.iinc 4 1, 3) := by decide +kernel
theorem dX4_reckon_108 : decode cX4_reckon 108 = .ok (.goto (-44), 3) := by decide +kernel
theorem dX4_reckon_111 : decode cX4_reckon 111 = .ok (.return_, 1) := by decide +kernel
theorem dX4_rowOf_0 : decode cX4_rowOf 0 = .ok (.iload_n 1, 1) := by decide +kernel
theorem dX4_rowOf_1 : decode cX4_rowOf 1 = .ok (.ifCond .ne 8, 3) := by decide +kernel
theorem dX4_rowOf_4 : decode cX4_rowOf 4 = .ok (.aload_n 0, 1) := by decide +kernel
theorem dX4_rowOf_5 : decode cX4_rowOf 5 = .ok (.getfield 9, 3) := by decide +kernel
theorem dX4_rowOf_8 : decode cX4_rowOf 8 = .ok (.areturn, 1) := by decide +kernel
theorem dX4_rowOf_9 : decode cX4_rowOf 9 = .ok (.iload_n 1, 1) := by decide +kernel
theorem dX4_rowOf_10 : decode cX4_rowOf 10 = .ok (.iconst 1, 1) := by decide +kernel
theorem dX4_rowOf_11 : decode cX4_rowOf 11 = .ok (.if_icmp .ne 8, 3) := by decide +kernel
theorem dX4_rowOf_14 : decode cX4_rowOf 14 = .ok (.aload_n 0, 1) := by decide +kernel
theorem dX4_rowOf_15 : decode cX4_rowOf 15 = .ok (.getfield 15, 3) := by decide +kernel
theorem dX4_rowOf_18 : decode cX4_rowOf 18 = .ok (.areturn, 1) := by decide +kernel
theorem dX4_rowOf_19 : decode cX4_rowOf 19 = .ok (.iload_n 1, 1) := by decide +kernel
theorem dX4_rowOf_20 : decode cX4_rowOf 20 = .ok (.iconst 2, 1) := by decide +kernel
theorem dX4_rowOf_21 : decode cX4_rowOf 21 = .ok (.if_icmp .ne 10, 3) := by decide +kernel
theorem dX4_rowOf_24 : decode cX4_rowOf 24 = .ok (.aload_n 0, 1) := by decide +kernel
theorem dX4_rowOf_25 : decode cX4_rowOf 25 = .ok (.getfield 18, 3) := by decide +kernel
theorem dX4_rowOf_28 : decode cX4_rowOf 28 = .ok (.goto 7, 3) := by decide +kernel
theorem dX4_rowOf_31 : decode cX4_rowOf 31 = .ok (.aload_n 0, 1) := by decide +kernel
theorem dX4_rowOf_32 : decode cX4_rowOf 32 = .ok (.getfield 21, 3) := by decide +kernel
theorem dX4_rowOf_35 : decode cX4_rowOf 35 = .ok (.areturn, 1) := by decide +kernel
set_option maxRecDepth 20000 in
theorem ggX4_tellSize_X4_rowOf : GoodIn wsX4_tellSize wsX4_rowOf := goodIn_r _ [9, 10, 11, 12, 13, 34, 35, 36, 37, 38, 39, 40, 41, 42, 43, 44] rfl rfl
set_option maxRecDepth 20000 in
theorem gX4_tellSize_X4_rowOf : GoodIn wsX4_tellSize (wsV RX4 73 RX4 yX4_rowOf wsX4_rowOf) := goodIn_app (goodIn_r _ [5, 6, 7, 8] rfl rfl) ggX4_tellSize_X4_rowOf
set_option maxRecDepth 20000 in
theorem ggX4_tellSize_X1_putSize : GoodIn wsX4_tellSize wsX1_putSize := goodIn_r _ [17, 18, 19, 20, 16, 21, 22, 23, 24] rfl rfl
set_option maxRecDepth 20000 in
theorem gX4_tellSize_X1_putSize : GoodIn wsX4_tellSize (va_wsS RX4 77 yX1_putSize wsX1_putSize) := goodIn_app (goodIn_r _ [14, 15, 16] rfl rfl) ggX4_tellSize_X1_putSize
set_option maxRecDepth 20000 in
theorem ggX4_tellSize_X1_scale : GoodIn wsX4_tellSize wsX1_scale := goodIn_r _ [27, 28] rfl rfl
set_option maxRecDepth 20000 in
theorem gX4_tellSize_X1_scale : GoodIn wsX4_tellSize (va_wsS RX4 81 yX1_scale wsX1_scale) := goodIn_app (goodIn_r _ [25, 26, 16] rfl rfl) ggX4_tellSize_X1_scale
set_option maxRecDepth 20000 in
theorem ggX4_tellSize_X1_put : GoodIn wsX4_tellSize wsX1_put := goodIn_r _ [24] rfl rfl
set_option maxRecDepth 20000 in
theorem gX4_tellSize_X1_put : GoodIn wsX4_tellSize (va_wsS RX4 88 yX1_put wsX1_put) := goodIn_app (goodIn_r _ [29, 23, 16] rfl rfl) ggX4_tellSize_X1_put
theorem dX4_tellSize_0 : decode cX4_tellSize 0 = .ok (.aload_n 1, 1) := by decide +kernel
theorem dX4_tellSize_1 : decode cX4_tellSize 1 = .ok (.getfield 68, 3) := by decide +kernel
theorem dX4_tellSize_4 : decode cX4_tellSize 4 = .ok (.aload_n 0, 1) := by decide +kernel
theorem dX4_tellSize_5 : decode cX4_tellSize 5 = .ok (.iload_n 2, 1) := by decide +kernel
theorem dX4_tellSize_6 : decode cX4_tellSize 6 = .ok (.invokevirtual 73, 3) := by decide +kernel
theorem dX4_tellSize_9 : decode cX4_tellSize 9 = .ok (.invokestatic 77, 3) := by decide +kernel
theorem dX4_tellSize_12 : decode cX4_tellSize 12 = .ok (.iload_n 2, 1) := by decide +kernel
theorem dX4_tellSize_13 : decode cX4_tellSize 13 = .ok (.iconst 1, 1) := by decide +kernel
theorem dX4_tellSize_14 : decode cX4_tellSize 14 = .ok (.if_icmp .eq 8, 3) := by decide +kernel
theorem dX4_tellSize_17 : decode cX4_tellSize 17 = .ok (.iload_n 2, 1) := by decide +kernel
theorem dX4_tellSize_18 : decode cX4_tellSize 18 = .ok (.iconst 2, 1) := by decide +kernel
theorem dX4_tellSize_19 : decode cX4_tellSize 19 = .ok (.if_icmp .ne 15, 3) := by decide +kernel
theorem dX4_tellSize_22 : decode cX4_tellSize 22 = .ok (.aload_n 1, 1) := by decide +kernel
theorem dX4_tellSize_23 : decode cX4_tellSize 23 = .ok (.getfield 68, 3) := by decide +kernel
theorem dX4_tellSize_26 : decode cX4_tellSize 26 = .ok (.aload_n 0, 1) := by decide +kernel
theorem dX4_tellSize_27 : decode cX4_tellSize 27 = .ok (.getfield 40, 3) := by decide +kernel
theorem dX4_tellSize_30 : decode cX4_tellSize 30 = .ok (.i2l, 1) := by decide +kernel
theorem dX4_tellSize_31 : decode cX4_tellSize 31 = .ok (.invokestatic 81, 3) := by decide +kernel
theorem dX4_tellSize_34 : decode cX4_tellSize 34 = .ok (.aload_n 1, 1) := by decide +kernel
theorem dX4_tellSize_35 : decode cX4_tellSize 35 = .ok (.getfield 85, 3) := by decide +kernel
theorem dX4_tellSize_38 : decode cX4_tellSize 38 = .ok (.aload_n 0, 1) := by decide +kernel
theorem dX4_tellSize_39 : decode cX4_tellSize 39 = .ok (.getfield 24, 3) := by decide +kernel
theorem dX4_tellSize_42 : decode cX4_tellSize 42 = .ok (.invokestatic 88, 3) := by decide +kernel
theorem dX4_tellSize_45 : decode cX4_tellSize 45 = .ok (.return_, 1) := by decide +kernel
set_option maxRecDepth 20000 in
theorem ggX4_tellBack_X4_reckon : GoodIn wsX4_tellBack wsX4_reckon := goodIn_r _ [7, 8, 9, 10, 11, 12, 13, 14, 15, 16, 17, 18, 19, 20, 21, 22, 23, 24, 25, 26, 6, 27, 28, 29, 30, 31, 32, 33, 34, 35, 36, 37, 38, 39, 40, 41, 42, 43, 74, 75, 76, 77, 78, 79, 80, 81, 82, 83, 84, 85, 86, 87, 88, 89, 90] rfl rfl
set_option maxRecDepth 20000 in
theorem gX4_tellBack_X4_reckon : GoodIn wsX4_tellBack (wsV RX4 91 RX4 yX4_reckon wsX4_reckon) := goodIn_app (goodIn_r _ [3, 4, 5, 6] rfl rfl) ggX4_tellBack_X4_reckon
set_option maxRecDepth 20000 in
theorem ggX4_tellBack_X4_tellSquares : GoodIn wsX4_tellBack wsX4_tellSquares := goodIn_r _ [47, 48, 49, 11, 14, 50, 12, 13, 10, 51, 52, 53, 6, 54, 33, 32, 20, 21, 22, 23, 41, 42, 43, 40, 55, 56, 57, 58, 59, 60, 61, 62, 35, 36, 63, 64, 65, 66, 67, 68, 69, 85, 86, 87, 88, 89, 90, 74, 75, 76, 77, 78, 79, 80, 81, 82, 83, 84] rfl rfl
set_option maxRecDepth 20000 in
theorem gX4_tellBack_X4_tellSquares : GoodIn wsX4_tellBack (wsV RX4 95 RX4 yX4_tellSquares wsX4_tellSquares) := goodIn_app (goodIn_r _ [44, 45, 46, 6] rfl rfl) ggX4_tellBack_X4_tellSquares
theorem dX4_tellBack_0 : decode cX4_tellBack 0 = .ok (.aload_n 0, 1) := by decide +kernel
theorem dX4_tellBack_1 : decode cX4_tellBack 1 = .ok (.aload_n 2, 1) := by decide +kernel
theorem dX4_tellBack_2 : decode cX4_tellBack 2 = .ok (.iload_n 3, 1) := by decide +kernel
theorem dX4_tellBack_3 : decode cX4_tellBack 3 = .ok (.iload 4, 2) := by decide +kernel
theorem dX4_tellBack_5 : decode cX4_tellBack 5 = .ok (.invokevirtual 91, 3) := by decide +kernel
theorem dX4_tellBack_8 : decode cX4_tellBack 8 = .ok (.aload_n 0, 1) := by decide +kernel
theorem dX4_tellBack_9 : decode cX4_tellBack 9 = .ok (.aload_n 1, 1) := by decide +kernel
theorem dX4_tellBack_10 : decode cX4_tellBack 10 = .ok (.getfield 68, 3) := by decide +kernel
theorem dX4_tellBack_13 : decode cX4_tellBack 13 = .ok (.aload_n 2, 1) := by decide +kernel
theorem dX4_tellBack_14 : decode cX4_tellBack 14 = .ok (.iconst (-1), 1) := by decide +kernel
theorem dX4_tellBack_15 : decode cX4_tellBack 15 = .ok (.invokevirtual 95, 3) := by decide +kernel
theorem dX4_tellBack_18 : decode cX4_tellBack 18 = .ok (.aload_n 0, 1) := by decide +kernel
theorem dX4_tellBack_19 : decode cX4_tellBack 19 = .ok (.aload_n 1, 1) := by decide +kernel
theorem dX4_tellBack_20 : decode cX4_tellBack 20 = .ok (.getfield 85, 3) := by decide +kernel
theorem dX4_tellBack_23 : decode cX4_tellBack 23 = .ok (.aload_n 2, 1) := by decide +kernel
theorem dX4_tellBack_24 : decode cX4_tellBack 24 = .ok (.iconst 1, 1) := by decide +kernel
theorem dX4_tellBack_25 : decode cX4_tellBack 25 = .ok (.invokevirtual 95, 3) := by decide +kernel
theorem dX4_tellBack_28 : decode cX4_tellBack 28 = .ok (.return_, 1) := by decide +kernel
set_option maxRecDepth 20000 in
theorem ggX4_isStopping_X1_put : GoodIn wsX4_isStopping wsX1_put := goodIn_r _ [10] rfl rfl
set_option maxRecDepth 20000 in
theorem gX4_isStopping_X1_put : GoodIn wsX4_isStopping (va_wsS RX4 88 yX1_put wsX1_put) := goodIn_app (goodIn_r _ [7, 8, 9] rfl rfl) ggX4_isStopping_X1_put
set_option maxRecDepth 20000 in
theorem ggX4_isStopping_X1_gain : GoodIn wsX4_isStopping wsX1_gain := goodIn_r _ [13, 14] rfl rfl
set_option maxRecDepth 20000 in
theorem gX4_isStopping_X1_gain : GoodIn wsX4_isStopping (va_wsS RX4 99 yX1_gain wsX1_gain) := goodIn_app (goodIn_r _ [11, 12, 9] rfl rfl) ggX4_isStopping_X1_gain
set_option maxRecDepth 20000 in
theorem ggX4_isStopping_X1_putSize : GoodIn wsX4_isStopping wsX1_putSize := goodIn_r _ [17, 18, 19, 20, 9, 21, 22, 8, 10] rfl rfl
set_option maxRecDepth 20000 in
theorem gX4_isStopping_X1_putSize : GoodIn wsX4_isStopping (va_wsS RX4 77 yX1_putSize wsX1_putSize) := goodIn_app (goodIn_r _ [15, 16, 9] rfl rfl) ggX4_isStopping_X1_putSize
set_option maxRecDepth 20000 in
theorem ggX4_isStopping_X1_signOf : GoodIn wsX4_isStopping wsX1_signOf := goodIn_r _ [21] rfl rfl
set_option maxRecDepth 20000 in
theorem gX4_isStopping_X1_signOf : GoodIn wsX4_isStopping (va_wsS RX4 105 yX1_signOf wsX1_signOf) := goodIn_app (goodIn_r _ [23, 20, 9] rfl rfl) ggX4_isStopping_X1_signOf
theorem dX4_isStopping_0 : decode cX4_isStopping 0 = .ok (.aload_n 0, 1) := by decide +kernel
theorem dX4_isStopping_1 : decode cX4_isStopping 1 = .ok (.getfield 30, 3) := by decide +kernel
theorem dX4_isStopping_4 : decode cX4_isStopping 4 = .ok (.aload_n 0, 1) := by decide +kernel
theorem dX4_isStopping_5 : decode cX4_isStopping 5 = .ok (.getfield 9, 3) := by decide +kernel
theorem dX4_isStopping_8 : decode cX4_isStopping 8 = .ok (.invokestatic 88, 3) := by decide +kernel
theorem dX4_isStopping_11 : decode cX4_isStopping 11 = .ok (.aload_n 0, 1) := by decide +kernel
theorem dX4_isStopping_12 : decode cX4_isStopping 12 = .ok (.getfield 30, 3) := by decide +kernel
theorem dX4_isStopping_15 : decode cX4_isStopping 15 = .ok (.aload_n 0, 1) := by decide +kernel
theorem dX4_isStopping_16 : decode cX4_isStopping 16 = .ok (.getfield 21, 3) := by decide +kernel
theorem dX4_isStopping_19 : decode cX4_isStopping 19 = .ok (.lconst 1, 1) := by decide +kernel
theorem dX4_isStopping_20 : decode cX4_isStopping 20 = .ok (.invokestatic 99, 3) := by decide +kernel
theorem dX4_isStopping_23 : decode cX4_isStopping 23 = .ok (.aload_n 0, 1) := by decide +kernel
theorem dX4_isStopping_24 : decode cX4_isStopping 24 = .ok (.getfield 27, 3) := by decide +kernel
theorem dX4_isStopping_27 : decode cX4_isStopping 27 = .ok (.aload_n 0, 1) := by decide +kernel
theorem dX4_isStopping_28 : decode cX4_isStopping 28 = .ok (.getfield 30, 3) := by decide +kernel
theorem dX4_isStopping_31 : decode cX4_isStopping 31 = .ok (.invokestatic 77, 3) := by decide +kernel
theorem dX4_isStopping_34 : decode cX4_isStopping 34 = .ok (.aload_n 0, 1) := by decide +kernel
theorem dX4_isStopping_35 : decode cX4_isStopping 35 = .ok (.getfield 27, 3) := by decide +kernel
theorem dX4_isStopping_38 : decode cX4_isStopping 38 = .ok (.aload_n 0, 1) := by decide +kernel
theorem dX4_isStopping_39 : decode cX4_isStopping 39 = .ok (.getfield 24, 3) := by decide +kernel
theorem dX4_isStopping_42 : decode cX4_isStopping 42 = .ok (.ldc2_w 103, 3) := by decide +kernel
theorem dX4_isStopping_45 : decode cX4_isStopping 45 = .ok (.invokestatic 99, 3) := by decide +kernel
theorem dX4_isStopping_48 : decode cX4_isStopping 48 = .ok (.aload_n 0, 1) := by decide +kernel
theorem dX4_isStopping_49 : decode cX4_isStopping 49 = .ok (.getfield 27, 3) := by decide +kernel
theorem dX4_isStopping_52 : decode cX4_isStopping 52 = .ok (.invokestatic 105, 3) := by decide +kernel
theorem dX4_isStopping_55 : decode cX4_isStopping 55 = .ok (.ifCond .le 7, 3) := by decide +kernel
theorem dX4_isStopping_58 : decode cX4_isStopping 58 = .ok (.iconst 1, 1) := by decide +kernel
theorem dX4_isStopping_59 : decode cX4_isStopping 59 = .ok (.goto 4, 3) := by decide +kernel
theorem dX4_isStopping_62 : decode cX4_isStopping 62 = .ok (.iconst 0, 1) := by decide +kernel
theorem dX4_isStopping_63 : decode cX4_isStopping 63 = .ok (.ireturn, 1) := by decide +kernel
set_option maxRecDepth 20000 in
theorem ggX4_appendLayer_X4_passPair : GoodIn wsX4_appendLayer wsX4_passPair := goodIn_r _ [12, 13, 14, 15, 16, 17, 18, 19, 20, 21, 22, 23, 24, 25, 26, 27, 28, 29, 30, 31, 32, 33, 34, 35, 36, 37] rfl rfl
set_option maxRecDepth 20000 in
theorem gX4_appendLayer_X4_passPair : GoodIn wsX4_appendLayer (wsV RX4 109 RX4 yX4_passPair wsX4_passPair) := goodIn_app (goodIn_r _ [8, 9, 10, 11] rfl rfl) ggX4_appendLayer_X4_passPair
set_option maxRecDepth 20000 in
theorem ggX4_appendLayer_X1_scale : GoodIn wsX4_appendLayer wsX1_scale := goodIn_r _ [22, 23] rfl rfl
set_option maxRecDepth 20000 in
theorem gX4_appendLayer_X1_scale : GoodIn wsX4_appendLayer (va_wsS RX4 81 yX1_scale wsX1_scale) := goodIn_app (goodIn_r _ [20, 21, 18] rfl rfl) ggX4_appendLayer_X1_scale
theorem dX4_appendLayer_0 : decode cX4_appendLayer 0 = .ok (.aload_n 0, 1) := by decide +kernel
theorem dX4_appendLayer_1 : decode cX4_appendLayer 1 = .ok (.getfield 40, 3) := by decide +kernel
theorem dX4_appendLayer_4 : decode cX4_appendLayer 4 = .ok (.i2l, 1) := by decide +kernel
theorem dX4_appendLayer_5 : decode cX4_appendLayer 5 = .ok (.aload_n 0, 1) := by decide +kernel
theorem dX4_appendLayer_6 : decode cX4_appendLayer 6 = .ok (.getfield 40, 3) := by decide +kernel
theorem dX4_appendLayer_9 : decode cX4_appendLayer 9 = .ok (.i2l, 1) := by decide +kernel
theorem dX4_appendLayer_10 : decode cX4_appendLayer 10 = .ok (.lmul, 1) := by decide +kernel
theorem dX4_appendLayer_11 : decode cX4_appendLayer 11 = .ok (.lstore 4, 2) := by decide +kernel
theorem dX4_appendLayer_13 : decode cX4_appendLayer 13 = .ok (.aload_n 0, 1) := by decide +kernel
theorem dX4_appendLayer_14 : decode cX4_appendLayer 14 = .ok (.getfield 36, 3) := by decide +kernel
theorem dX4_appendLayer_17 : decode cX4_appendLayer 17 = .ok (.i2l, 1) := by decide +kernel
theorem dX4_appendLayer_18 : decode cX4_appendLayer 18 = .ok (.lstore 6, 2) := by decide +kernel
theorem dX4_appendLayer_20 : decode cX4_appendLayer 20 = .ok (.lconst 1, 1) := by decide +kernel
theorem dX4_appendLayer_21 : decode cX4_appendLayer 21 = .ok (.lstore 8, 2) := by decide +kernel
theorem dX4_appendLayer_23 : decode cX4_appendLayer 23 = .ok (.lconst 1, 1) := by decide +kernel
theorem dX4_appendLayer_24 : decode cX4_appendLayer 24 = .ok (.lstore 10, 2) := by decide +kernel
theorem dX4_appendLayer_26 : decode cX4_appendLayer 26 = .ok (.lconst 0, 1) := by decide +kernel
theorem dX4_appendLayer_27 : decode cX4_appendLayer 27 = .ok (.lstore 12, 2) := by decide +kernel
theorem dX4_appendLayer_29 : decode cX4_appendLayer 29 = .ok (.aload_n 0, 1) := by decide +kernel
theorem dX4_appendLayer_30 : decode cX4_appendLayer 30 = .ok (.getfield 40, 3) := by decide +kernel
theorem dX4_appendLayer_33 : decode cX4_appendLayer 33 = .ok (.i2l, 1) := by decide +kernel
theorem dX4_appendLayer_34 : decode cX4_appendLayer 34 = .ok (.lstore 14, 2) := by decide +kernel
theorem dX4_appendLayer_36 : decode cX4_appendLayer 36 = .ok (.iconst 1, 1) := by decide +kernel
theorem dX4_appendLayer_37 : decode cX4_appendLayer 37 = .ok (.istore 16, 2) := by decide +kernel
theorem dX4_appendLayer_39 : decode cX4_appendLayer 39 = .ok (.iload 16, 2) := by decide +kernel
theorem dX4_appendLayer_41 : decode cX4_appendLayer 41 = .ok (.iload_n 3, 1) := by decide +kernel
theorem dX4_appendLayer_42 : decode cX4_appendLayer 42 = .ok (.if_icmp .ge 71, 3) := by decide +kernel
theorem dX4_appendLayer_45 : decode cX4_appendLayer 45 = .ok (.iconst 2, 1) := by decide +kernel
theorem dX4_appendLayer_46 : decode cX4_appendLayer 46 = .ok (.aload_n 0, 1) := by decide +kernel
theorem dX4_appendLayer_47 : decode cX4_appendLayer 47 = .ok (.getfield 36, 3) := by decide +kernel
theorem dX4_appendLayer_50 : decode cX4_appendLayer 50 = .ok (.imul, 1) := by decide +kernel
theorem dX4_appendLayer_51 : decode cX4_appendLayer 51 = .ok (.i2l, 1) := by decide +kernel
theorem dX4_appendLayer_52 : decode cX4_appendLayer 52 = .ok (.lload 6, 2) := by decide +kernel
theorem dX4_appendLayer_54 : decode cX4_appendLayer 54 = .ok (.lmul, 1) := by decide +kernel
theorem dX4_appendLayer_55 : decode cX4_appendLayer 55 = .ok (.lload 4, 2) := by decide +kernel
theorem dX4_appendLayer_57 : decode cX4_appendLayer 57 = .ok (.lload 8, 2) := by decide +kernel
theorem dX4_appendLayer_59 : decode cX4_appendLayer 59 = .ok (.lmul, 1) := by decide +kernel
theorem dX4_appendLayer_60 : decode cX4_appendLayer 60 = .ok (.lsub, 1) := by decide +kernel
theorem dX4_appendLayer_61 : decode cX4_appendLayer 61 = .ok (.lstore 17, 2) := by decide +kernel
theorem dX4_appendLayer_63 : decode cX4_appendLayer 63 = .ok (.iconst 2, 1) := by decide +kernel
theorem dX4_appendLayer_64 : decode cX4_appendLayer 64 = .ok (.aload_n 0, 1) := by decide +kernel
theorem dX4_appendLayer_65 : decode cX4_appendLayer 65 = .ok (.getfield 36, 3) := by decide +kernel
theorem dX4_appendLayer_68 : decode cX4_appendLayer 68 = .ok (.imul, 1) := by decide +kernel
theorem dX4_appendLayer_69 : decode cX4_appendLayer 69 = .ok (.i2l, 1) := by decide +kernel
theorem dX4_appendLayer_70 : decode cX4_appendLayer 70 = .ok (.lload 10, 2) := by decide +kernel
theorem dX4_appendLayer_72 : decode cX4_appendLayer 72 = .ok (.lmul, 1) := by decide +kernel
theorem dX4_appendLayer_73 : decode cX4_appendLayer 73 = .ok (.lload 4, 2) := by decide +kernel
theorem dX4_appendLayer_75 : decode cX4_appendLayer 75 = .ok (.lload 12, 2) := by decide +kernel
theorem dX4_appendLayer_77 : decode cX4_appendLayer 77 = .ok (.lmul, 1) := by decide +kernel
theorem dX4_appendLayer_78 : decode cX4_appendLayer 78 = .ok (.lsub, 1) := by decide +kernel
theorem dX4_appendLayer_79 : decode cX4_appendLayer 79 = .ok (.lstore 19, 2) := by decide +kernel
theorem dX4_appendLayer_81 : decode cX4_appendLayer 81 = .ok (.lload 6, 2) := by decide +kernel
theorem dX4_appendLayer_83 : decode cX4_appendLayer 83 = .ok (.lstore 8, 2) := by decide +kernel
theorem dX4_appendLayer_85 : decode cX4_appendLayer 85 = .ok (.lload 17, 2) := by decide +kernel
theorem dX4_appendLayer_87 : decode cX4_appendLayer 87 = .ok (.lstore 6, 2) := by decide +kernel
theorem dX4_appendLayer_89 : decode cX4_appendLayer 89 = .ok (.lload 10, 2) := by decide +kernel
theorem dX4_appendLayer_91 : decode cX4_appendLayer 91 = .ok (.lstore 12, 2) := by decide +kernel
theorem dX4_appendLayer_93 : decode cX4_appendLayer 93 = .ok (.lload 19, 2) := by decide +kernel
theorem dX4_appendLayer_95 : decode cX4_appendLayer 95 = .ok (.lstore 10, 2) := by decide +kernel
theorem dX4_appendLayer_97 : decode cX4_appendLayer 97 = .ok (.lload 14, 2) := by decide +kernel
theorem dX4_appendLayer_99 : decode cX4_appendLayer 99 = .ok (.aload_n 0, 1) := by decide +kernel
theorem dX4_appendLayer_100 : decode cX4_appendLayer 100 = .ok (.getfield 40, 3) := by decide +kernel
theorem dX4_appendLayer_103 : decode cX4_appendLayer 103 = .ok (.i2l, 1) := by decide +kernel
theorem dX4_appendLayer_104 : decode cX4_appendLayer 104 = .ok (.lmul, 1) := by decide +kernel
theorem dX4_appendLayer_105 : decode cX4_appendLayer 105 = .ok (.lstore 14, 2) := by decide +kernel
theorem dX4_appendLayer_107 : decode cX4_appendLayer 107 = .ok (.iinc 16 1, 3) := by decide +kernel
theorem dX4_appendLayer_110 : decode cX4_appendLayer 110 = .ok (.goto (-71), 3) := by decide +kernel
theorem dX4_appendLayer_113 : decode cX4_appendLayer 113 = .ok (.iload_n 1, 1) := by decide +kernel
theorem dX4_appendLayer_114 : decode cX4_appendLayer 114 = .ok (.iload_n 2, 1) := by decide +kernel
theorem dX4_appendLayer_115 : decode cX4_appendLayer 115 = .ok (.imul, 1) := by decide +kernel
theorem dX4_appendLayer_116 : decode cX4_appendLayer 116 = .ok (.istore 16, 2) := by decide +kernel
theorem dX4_appendLayer_118 : decode cX4_appendLayer 118 = .ok (.aload_n 0, 1) := by decide +kernel
theorem dX4_appendLayer_119 : decode cX4_appendLayer 119 = .ok (.aload_n 0, 1) := by decide +kernel
theorem dX4_appendLayer_120 : decode cX4_appendLayer 120 = .ok (.getfield 9, 3) := by decide +kernel
theorem dX4_appendLayer_123 : decode cX4_appendLayer 123 = .ok (.aload_n 0, 1) := by decide +kernel
theorem dX4_appendLayer_124 : decode cX4_appendLayer 124 = .ok (.getfield 15, 3) := by decide +kernel
theorem dX4_appendLayer_127 : decode cX4_appendLayer 127 = .ok (.lload 6, 2) := by decide +kernel
theorem dX4_appendLayer_129 : decode cX4_appendLayer 129 = .ok (.iload 16, 2) := by decide +kernel
theorem dX4_appendLayer_131 : decode cX4_appendLayer 131 = .ok (.i2l, 1) := by decide +kernel
theorem dX4_appendLayer_132 : decode cX4_appendLayer 132 = .ok (.lmul, 1) := by decide +kernel
theorem dX4_appendLayer_133 : decode cX4_appendLayer 133 = .ok (.lload 10, 2) := by decide +kernel
theorem dX4_appendLayer_135 : decode cX4_appendLayer 135 = .ok (.iload_n 2, 1) := by decide +kernel
theorem dX4_appendLayer_136 : decode cX4_appendLayer 136 = .ok (.i2l, 1) := by decide +kernel
theorem dX4_appendLayer_137 : decode cX4_appendLayer 137 = .ok (.lmul, 1) := by decide +kernel
theorem dX4_appendLayer_138 : decode cX4_appendLayer 138 = .ok (.iload_n 2, 1) := by decide +kernel
theorem dX4_appendLayer_139 : decode cX4_appendLayer 139 = .ok (.i2l, 1) := by decide +kernel
theorem dX4_appendLayer_140 : decode cX4_appendLayer 140 = .ok (.lmul, 1) := by decide +kernel
theorem dX4_appendLayer_141 : decode cX4_appendLayer 141 = .ok (.lload 10, 2) := by decide +kernel
theorem dX4_appendLayer_143 : decode cX4_appendLayer 143 = .ok (.iload_n 1, 1) := by decide +kernel
theorem dX4_appendLayer_144 : decode cX4_appendLayer 144 = .ok (.i2l, 1) := by decide +kernel
theorem dX4_appendLayer_145 : decode cX4_appendLayer 145 = .ok (.lmul, 1) := by decide +kernel
theorem dX4_appendLayer_146 : decode cX4_appendLayer 146 = .ok (.iload_n 1, 1) := by decide +kernel
theorem dX4_appendLayer_147 : decode cX4_appendLayer 147 = .ok (.i2l, 1) := by decide +kernel
theorem dX4_appendLayer_148 : decode cX4_appendLayer 148 = .ok (.lmul, 1) := by decide +kernel
theorem dX4_appendLayer_149 : decode cX4_appendLayer 149 = .ok (.invokevirtual 109, 3) := by decide +kernel
theorem dX4_appendLayer_152 : decode cX4_appendLayer 152 = .ok (.aload_n 0, 1) := by decide +kernel
theorem dX4_appendLayer_153 : decode cX4_appendLayer 153 = .ok (.aload_n 0, 1) := by decide +kernel
theorem dX4_appendLayer_154 : decode cX4_appendLayer 154 = .ok (.getfield 21, 3) := by decide +kernel
theorem dX4_appendLayer_157 : decode cX4_appendLayer 157 = .ok (.aload_n 0, 1) := by decide +kernel
theorem dX4_appendLayer_158 : decode cX4_appendLayer 158 = .ok (.getfield 18, 3) := by decide +kernel
theorem dX4_appendLayer_161 : decode cX4_appendLayer 161 = .ok (.lload 6, 2) := by decide +kernel
theorem dX4_appendLayer_163 : decode cX4_appendLayer 163 = .ok (.iload 16, 2) := by decide +kernel
theorem dX4_appendLayer_165 : decode cX4_appendLayer 165 = .ok (.i2l, 1) := by decide +kernel
theorem dX4_appendLayer_166 : decode cX4_appendLayer 166 = .ok (.lmul, 1) := by decide +kernel
theorem dX4_appendLayer_167 : decode cX4_appendLayer 167 = .ok (.lload 10, 2) := by decide +kernel
theorem dX4_appendLayer_169 : decode cX4_appendLayer 169 = .ok (.iload_n 1, 1) := by decide +kernel
theorem dX4_appendLayer_170 : decode cX4_appendLayer 170 = .ok (.i2l, 1) := by decide +kernel
theorem dX4_appendLayer_171 : decode cX4_appendLayer 171 = .ok (.lmul, 1) := by decide +kernel
theorem dX4_appendLayer_172 : decode cX4_appendLayer 172 = .ok (.iload_n 1, 1) := by decide +kernel
theorem dX4_appendLayer_173 : decode cX4_appendLayer 173 = .ok (.i2l, 1) := by decide +kernel
theorem dX4_appendLayer_174 : decode cX4_appendLayer 174 = .ok (.lmul, 1) := by decide +kernel
theorem dX4_appendLayer_175 : decode cX4_appendLayer 175 = .ok (.lload 10, 2) := by decide +kernel
theorem dX4_appendLayer_177 : decode cX4_appendLayer 177 = .ok (.iload_n 2, 1) := by decide +kernel
theorem dX4_appendLayer_178 : decode cX4_appendLayer 178 = .ok (.i2l, 1) := by decide +kernel
theorem dX4_appendLayer_179 : decode cX4_appendLayer 179 = .ok (.lmul, 1) := by decide +kernel
theorem dX4_appendLayer_180 : decode cX4_appendLayer 180 = .ok (.iload_n 2, 1) := by decide +kernel
theorem dX4_appendLayer_181 : decode cX4_appendLayer 181 = .ok (.i2l, 1) := by decide +kernel
theorem dX4_appendLayer_182 : decode cX4_appendLayer 182 = .ok (.lmul, 1) := by decide +kernel
theorem dX4_appendLayer_183 : decode cX4_appendLayer 183 = .ok (.invokevirtual 109, 3) := by decide +kernel
theorem dX4_appendLayer_186 : decode cX4_appendLayer 186 = .ok (.aload_n 0, 1) := by decide +kernel
theorem dX4_appendLayer_187 : decode cX4_appendLayer 187 = .ok (.getfield 24, 3) := by decide +kernel
theorem dX4_appendLayer_190 : decode cX4_appendLayer 190 = .ok (.lload 14, 2) := by decide +kernel
theorem dX4_appendLayer_192 : decode cX4_appendLayer 192 = .ok (.iload 16, 2) := by decide +kernel
theorem dX4_appendLayer_194 : decode cX4_appendLayer 194 = .ok (.i2l, 1) := by decide +kernel
theorem dX4_appendLayer_195 : decode cX4_appendLayer 195 = .ok (.lmul, 1) := by decide +kernel
theorem dX4_appendLayer_196 : decode cX4_appendLayer 196 = .ok (.invokestatic 81, 3) := by decide +kernel
theorem dX4_appendLayer_199 : decode cX4_appendLayer 199 = .ok (.return_, 1) := by decide +kernel
set_option maxRecDepth 20000 in
theorem ggX4_passPair_X1_put : GoodIn wsX4_passPair wsX1_put := goodIn_r _ [7] rfl rfl
set_option maxRecDepth 20000 in
theorem gX4_passPair_X1_put : GoodIn wsX4_passPair (va_wsS RX4 88 yX1_put wsX1_put) := goodIn_app (goodIn_r _ [4, 5, 6] rfl rfl) ggX4_passPair_X1_put
set_option maxRecDepth 20000 in
theorem ggX4_passPair_X1_scale : GoodIn wsX4_passPair wsX1_scale := goodIn_r _ [10, 11] rfl rfl
set_option maxRecDepth 20000 in
theorem gX4_passPair_X1_scale : GoodIn wsX4_passPair (va_wsS RX4 81 yX1_scale wsX1_scale) := goodIn_app (goodIn_r _ [8, 9, 6] rfl rfl) ggX4_passPair_X1_scale
set_option maxRecDepth 20000 in
theorem ggX4_passPair_X1_gain : GoodIn wsX4_passPair wsX1_gain := goodIn_r _ [14, 11] rfl rfl
set_option maxRecDepth 20000 in
theorem gX4_passPair_X1_gain : GoodIn wsX4_passPair (va_wsS RX4 99 yX1_gain wsX1_gain) := goodIn_app (goodIn_r _ [12, 13, 6] rfl rfl) ggX4_passPair_X1_gain
theorem dX4_passPair_0 : decode cX4_passPair 0 = .ok (.aload_n 0, 1) := by decide +kernel
theorem dX4_passPair_1 : decode cX4_passPair 1 = .ok (.getfield 27, 3) := by decide +kernel
theorem dX4_passPair_4 : decode cX4_passPair 4 = .ok (.aload_n 1, 1) := by decide +kernel
theorem dX4_passPair_5 : decode cX4_passPair 5 = .ok (.invokestatic 88, 3) := by decide +kernel
theorem dX4_passPair_8 : decode cX4_passPair 8 = .ok (.aload_n 0, 1) := by decide +kernel
theorem dX4_passPair_9 : decode cX4_passPair 9 = .ok (.getfield 27, 3) := by decide +kernel
theorem dX4_passPair_12 : decode cX4_passPair 12 = .ok (.lload_n 3, 1) := by decide +kernel
theorem dX4_passPair_13 : decode cX4_passPair 13 = .ok (.invokestatic 81, 3) := by decide +kernel
theorem dX4_passPair_16 : decode cX4_passPair 16 = .ok (.aload_n 0, 1) := by decide +kernel
theorem dX4_passPair_17 : decode cX4_passPair 17 = .ok (.getfield 30, 3) := by decide +kernel
theorem dX4_passPair_20 : decode cX4_passPair 20 = .ok (.aload_n 2, 1) := by decide +kernel
theorem dX4_passPair_21 : decode cX4_passPair 21 = .ok (.invokestatic 88, 3) := by decide +kernel
theorem dX4_passPair_24 : decode cX4_passPair 24 = .ok (.aload_n 0, 1) := by decide +kernel
theorem dX4_passPair_25 : decode cX4_passPair 25 = .ok (.getfield 30, 3) := by decide +kernel
theorem dX4_passPair_28 : decode cX4_passPair 28 = .ok (.lload 7, 2) := by decide +kernel
theorem dX4_passPair_30 : decode cX4_passPair 30 = .ok (.invokestatic 81, 3) := by decide +kernel
theorem dX4_passPair_33 : decode cX4_passPair 33 = .ok (.aload_n 0, 1) := by decide +kernel
theorem dX4_passPair_34 : decode cX4_passPair 34 = .ok (.getfield 27, 3) := by decide +kernel
theorem dX4_passPair_37 : decode cX4_passPair 37 = .ok (.aload_n 0, 1) := by decide +kernel
theorem dX4_passPair_38 : decode cX4_passPair 38 = .ok (.getfield 30, 3) := by decide +kernel
theorem dX4_passPair_41 : decode cX4_passPair 41 = .ok (.aload_n 0, 1) := by decide +kernel
theorem dX4_passPair_42 : decode cX4_passPair 42 = .ok (.getfield 43, 3) := by decide +kernel
theorem dX4_passPair_45 : decode cX4_passPair 45 = .ok (.ineg, 1) := by decide +kernel
theorem dX4_passPair_46 : decode cX4_passPair 46 = .ok (.i2l, 1) := by decide +kernel
theorem dX4_passPair_47 : decode cX4_passPair 47 = .ok (.invokestatic 99, 3) := by decide +kernel
theorem dX4_passPair_50 : decode cX4_passPair 50 = .ok (.aload_n 2, 1) := by decide +kernel
theorem dX4_passPair_51 : decode cX4_passPair 51 = .ok (.lload_n 3, 1) := by decide +kernel
theorem dX4_passPair_52 : decode cX4_passPair 52 = .ok (.invokestatic 81, 3) := by decide +kernel
theorem dX4_passPair_55 : decode cX4_passPair 55 = .ok (.aload_n 2, 1) := by decide +kernel
theorem dX4_passPair_56 : decode cX4_passPair 56 = .ok (.aload_n 1, 1) := by decide +kernel
theorem dX4_passPair_57 : decode cX4_passPair 57 = .ok (.lload 5, 2) := by decide +kernel
theorem dX4_passPair_59 : decode cX4_passPair 59 = .ok (.invokestatic 99, 3) := by decide +kernel
theorem dX4_passPair_62 : decode cX4_passPair 62 = .ok (.aload_n 1, 1) := by decide +kernel
theorem dX4_passPair_63 : decode cX4_passPair 63 = .ok (.aload_n 0, 1) := by decide +kernel
theorem dX4_passPair_64 : decode cX4_passPair 64 = .ok (.getfield 27, 3) := by decide +kernel
theorem dX4_passPair_67 : decode cX4_passPair 67 = .ok (.invokestatic 88, 3) := by decide +kernel
theorem dX4_passPair_70 : decode cX4_passPair 70 = .ok (.return_, 1) := by decide +kernel
set_option maxRecDepth 20000 in
theorem ggX4_tellSquares_X4_squareLine : GoodIn wsX4_tellSquares wsX4_squareLine := goodIn_r _ [13, 14, 15, 16, 17, 18, 19, 20, 21, 22, 23, 24, 25, 26, 27, 28, 29, 30, 31, 32, 33, 34, 35, 36, 37, 38, 39, 40, 47, 48, 49, 50, 51, 52, 53, 54, 55, 56, 57] rfl rfl
set_option maxRecDepth 20000 in
theorem gX4_tellSquares_X4_squareLine : GoodIn wsX4_tellSquares (wsV RX4 119 RX4 yX4_squareLine wsX4_squareLine) := goodIn_app (goodIn_r _ [9, 10, 11, 12] rfl rfl) ggX4_tellSquares_X4_squareLine
set_option maxRecDepth 20000 in
theorem ggX4_tellSquares_X1_gain : GoodIn wsX4_tellSquares wsX1_gain := goodIn_r _ [22, 23] rfl rfl
set_option maxRecDepth 20000 in
theorem gX4_tellSquares_X1_gain : GoodIn wsX4_tellSquares (va_wsS RX4 99 yX1_gain wsX1_gain) := goodIn_app (goodIn_r _ [20, 21, 18] rfl rfl) ggX4_tellSquares_X1_gain
theorem dX4_tellSquares_0 : decode cX4_tellSquares 0 = .ok (.aload_n 2, 1) := by decide +kernel
theorem dX4_tellSquares_1 : decode cX4_tellSquares 1 = .ok (.getfield 113, 3) := by decide +kernel
theorem dX4_tellSquares_4 : decode cX4_tellSquares 4 = .ok (.iconst 0, 1) := by decide +kernel
theorem dX4_tellSquares_5 : decode cX4_tellSquares 5 = .ok (.iaload, 1) := by decide +kernel
theorem dX4_tellSquares_6 : decode cX4_tellSquares 6 = .ok (.istore 4, 2) := by decide +kernel
theorem dX4_tellSquares_8 : decode cX4_tellSquares 8 = .ok (.aload_n 2, 1) := by decide +kernel
theorem dX4_tellSquares_9 : decode cX4_tellSquares 9 = .ok (.getfield 116, 3) := by decide +kernel
theorem dX4_tellSquares_12 : decode cX4_tellSquares 12 = .ok (.iconst 0, 1) := by decide +kernel
theorem dX4_tellSquares_13 : decode cX4_tellSquares 13 = .ok (.iaload, 1) := by decide +kernel
theorem dX4_tellSquares_14 : decode cX4_tellSquares 14 = .ok (.istore 5, 2) := by decide +kernel
theorem dX4_tellSquares_16 : decode cX4_tellSquares 16 = .ok (.aload_n 2, 1) := by decide +kernel
theorem dX4_tellSquares_17 : decode cX4_tellSquares 17 = .ok (.getfield 113, 3) := by decide +kernel
theorem dX4_tellSquares_20 : decode cX4_tellSquares 20 = .ok (.iconst 1, 1) := by decide +kernel
theorem dX4_tellSquares_21 : decode cX4_tellSquares 21 = .ok (.iaload, 1) := by decide +kernel
theorem dX4_tellSquares_22 : decode cX4_tellSquares 22 = .ok (.istore 6, 2) := by decide +kernel
theorem dX4_tellSquares_24 : decode cX4_tellSquares 24 = .ok (.aload_n 2, 1) := by decide +kernel
theorem dX4_tellSquares_25 : decode cX4_tellSquares 25 = .ok (.getfield 116, 3) := by decide +kernel
theorem dX4_tellSquares_28 : decode cX4_tellSquares 28 = .ok (.iconst 1, 1) := by decide +kernel
theorem dX4_tellSquares_29 : decode cX4_tellSquares 29 = .ok (.iaload, 1) := by decide +kernel
theorem dX4_tellSquares_30 : decode cX4_tellSquares 30 = .ok (.istore 7, 2) := by decide +kernel
theorem dX4_tellSquares_32 : decode cX4_tellSquares 32 = .ok (.aload_n 0, 1) := by decide +kernel
theorem dX4_tellSquares_33 : decode cX4_tellSquares 33 = .ok (.aload_n 1, 1) := by decide +kernel
theorem dX4_tellSquares_34 : decode cX4_tellSquares 34 = .ok (.aload_n 0, 1) := by decide +kernel
theorem dX4_tellSquares_35 : decode cX4_tellSquares 35 = .ok (.getfield 9, 3) := by decide +kernel
theorem dX4_tellSquares_38 : decode cX4_tellSquares 38 = .ok (.iload 4, 2) := by decide +kernel
theorem dX4_tellSquares_40 : decode cX4_tellSquares 40 = .ok (.iload 7, 2) := by decide +kernel
theorem dX4_tellSquares_42 : decode cX4_tellSquares 42 = .ok (.imul, 1) := by decide +kernel
theorem dX4_tellSquares_43 : decode cX4_tellSquares 43 = .ok (.aload_n 0, 1) := by decide +kernel
theorem dX4_tellSquares_44 : decode cX4_tellSquares 44 = .ok (.getfield 21, 3) := by decide +kernel
theorem dX4_tellSquares_47 : decode cX4_tellSquares 47 = .ok (.iload_n 3, 1) := by decide +kernel
theorem dX4_tellSquares_48 : decode cX4_tellSquares 48 = .ok (.iload 6, 2) := by decide +kernel
theorem dX4_tellSquares_50 : decode cX4_tellSquares 50 = .ok (.imul, 1) := by decide +kernel
theorem dX4_tellSquares_51 : decode cX4_tellSquares 51 = .ok (.iload 5, 2) := by decide +kernel
theorem dX4_tellSquares_53 : decode cX4_tellSquares 53 = .ok (.imul, 1) := by decide +kernel
theorem dX4_tellSquares_54 : decode cX4_tellSquares 54 = .ok (.invokevirtual 119, 3) := by decide +kernel
theorem dX4_tellSquares_57 : decode cX4_tellSquares 57 = .ok (.aload_n 0, 1) := by decide +kernel
theorem dX4_tellSquares_58 : decode cX4_tellSquares 58 = .ok (.aload_n 0, 1) := by decide +kernel
theorem dX4_tellSquares_59 : decode cX4_tellSquares 59 = .ok (.getfield 33, 3) := by decide +kernel
theorem dX4_tellSquares_62 : decode cX4_tellSquares 62 = .ok (.aload_n 0, 1) := by decide +kernel
theorem dX4_tellSquares_63 : decode cX4_tellSquares 63 = .ok (.getfield 15, 3) := by decide +kernel
theorem dX4_tellSquares_66 : decode cX4_tellSquares 66 = .ok (.iload 4, 2) := by decide +kernel
theorem dX4_tellSquares_68 : decode cX4_tellSquares 68 = .ok (.iload 6, 2) := by decide +kernel
theorem dX4_tellSquares_70 : decode cX4_tellSquares 70 = .ok (.imul, 1) := by decide +kernel
theorem dX4_tellSquares_71 : decode cX4_tellSquares 71 = .ok (.aload_n 0, 1) := by decide +kernel
theorem dX4_tellSquares_72 : decode cX4_tellSquares 72 = .ok (.getfield 18, 3) := by decide +kernel
theorem dX4_tellSquares_75 : decode cX4_tellSquares 75 = .ok (.iload_n 3, 1) := by decide +kernel
theorem dX4_tellSquares_76 : decode cX4_tellSquares 76 = .ok (.iload 5, 2) := by decide +kernel
theorem dX4_tellSquares_78 : decode cX4_tellSquares 78 = .ok (.imul, 1) := by decide +kernel
theorem dX4_tellSquares_79 : decode cX4_tellSquares 79 = .ok (.iload 7, 2) := by decide +kernel
theorem dX4_tellSquares_81 : decode cX4_tellSquares 81 = .ok (.imul, 1) := by decide +kernel
theorem dX4_tellSquares_82 : decode cX4_tellSquares 82 = .ok (.invokevirtual 119, 3) := by decide +kernel
theorem dX4_tellSquares_85 : decode cX4_tellSquares 85 = .ok (.aload_n 1, 1) := by decide +kernel
theorem dX4_tellSquares_86 : decode cX4_tellSquares 86 = .ok (.aload_n 0, 1) := by decide +kernel
theorem dX4_tellSquares_87 : decode cX4_tellSquares 87 = .ok (.getfield 33, 3) := by decide +kernel
theorem dX4_tellSquares_90 : decode cX4_tellSquares 90 = .ok (.aload_n 0, 1) := by decide +kernel
theorem dX4_tellSquares_91 : decode cX4_tellSquares 91 = .ok (.getfield 43, 3) := by decide +kernel
theorem dX4_tellSquares_94 : decode cX4_tellSquares 94 = .ok (.i2l, 1) := by decide +kernel
theorem dX4_tellSquares_95 : decode cX4_tellSquares 95 = .ok (.invokestatic 99, 3) := by decide +kernel
theorem dX4_tellSquares_98 : decode cX4_tellSquares 98 = .ok (.return_, 1) := by decide +kernel
set_option maxRecDepth 20000 in
theorem ggX4_squareLine_X1_set : GoodIn wsX4_squareLine wsX1_set := goodIn_r _ [6] rfl rfl
set_option maxRecDepth 20000 in
theorem gX4_squareLine_X1_set : GoodIn wsX4_squareLine (va_wsS RX4 46 yX1_set wsX1_set) := goodIn_app (goodIn_r _ [3, 4, 5] rfl rfl) ggX4_squareLine_X1_set
set_option maxRecDepth 20000 in
theorem ggX4_squareLine_X1_gain : GoodIn wsX4_squareLine wsX1_gain := goodIn_r _ [9, 10] rfl rfl
set_option maxRecDepth 20000 in
theorem gX4_squareLine_X1_gain : GoodIn wsX4_squareLine (va_wsS RX4 99 yX1_gain wsX1_gain) := goodIn_app (goodIn_r _ [7, 8, 5] rfl rfl) ggX4_squareLine_X1_gain
set_option maxRecDepth 20000 in
theorem ggX4_squareLine_X1_putSize : GoodIn wsX4_squareLine wsX1_putSize := goodIn_r _ [13, 14, 15, 16, 5, 17, 18, 19, 20] rfl rfl
set_option maxRecDepth 20000 in
theorem gX4_squareLine_X1_putSize : GoodIn wsX4_squareLine (va_wsS RX4 77 yX1_putSize wsX1_putSize) := goodIn_app (goodIn_r _ [11, 12, 5] rfl rfl) ggX4_squareLine_X1_putSize
set_option maxRecDepth 20000 in
theorem ggX4_squareLine_X1_multiply : GoodIn wsX4_squareLine wsX1_multiply := goodIn_r _ [23, 24, 4, 5, 6, 25, 26, 27, 10] rfl rfl
set_option maxRecDepth 20000 in
theorem gX4_squareLine_X1_multiply : GoodIn wsX4_squareLine (va_wsS RX4 123 yX1_multiply wsX1_multiply) := goodIn_app (goodIn_r _ [21, 22, 5] rfl rfl) ggX4_squareLine_X1_multiply
theorem dX4_squareLine_0 : decode cX4_squareLine 0 = .ok (.aload_n 0, 1) := by decide +kernel
theorem dX4_squareLine_1 : decode cX4_squareLine 1 = .ok (.getfield 30, 3) := by decide +kernel
theorem dX4_squareLine_4 : decode cX4_squareLine 4 = .ok (.iconst 0, 1) := by decide +kernel
theorem dX4_squareLine_5 : decode cX4_squareLine 5 = .ok (.invokestatic 46, 3) := by decide +kernel
theorem dX4_squareLine_8 : decode cX4_squareLine 8 = .ok (.aload_n 0, 1) := by decide +kernel
theorem dX4_squareLine_9 : decode cX4_squareLine 9 = .ok (.getfield 30, 3) := by decide +kernel
theorem dX4_squareLine_12 : decode cX4_squareLine 12 = .ok (.aload_n 2, 1) := by decide +kernel
theorem dX4_squareLine_13 : decode cX4_squareLine 13 = .ok (.iload_n 3, 1) := by decide +kernel
theorem dX4_squareLine_14 : decode cX4_squareLine 14 = .ok (.i2l, 1) := by decide +kernel
theorem dX4_squareLine_15 : decode cX4_squareLine 15 = .ok (.invokestatic 99, 3) := by decide +kernel
theorem dX4_squareLine_18 : decode cX4_squareLine 18 = .ok (.aload_n 0, 1) := by decide +kernel
theorem dX4_squareLine_19 : decode cX4_squareLine 19 = .ok (.getfield 30, 3) := by decide +kernel
theorem dX4_squareLine_22 : decode cX4_squareLine 22 = .ok (.aload 4, 2) := by decide +kernel
theorem dX4_squareLine_24 : decode cX4_squareLine 24 = .ok (.iload 5, 2) := by decide +kernel
theorem dX4_squareLine_26 : decode cX4_squareLine 26 = .ok (.i2l, 1) := by decide +kernel
theorem dX4_squareLine_27 : decode cX4_squareLine 27 = .ok (.invokestatic 99, 3) := by decide +kernel
theorem dX4_squareLine_30 : decode cX4_squareLine 30 = .ok (.aload_n 0, 1) := by decide +kernel
theorem dX4_squareLine_31 : decode cX4_squareLine 31 = .ok (.getfield 27, 3) := by decide +kernel
theorem dX4_squareLine_34 : decode cX4_squareLine 34 = .ok (.aload_n 0, 1) := by decide +kernel
theorem dX4_squareLine_35 : decode cX4_squareLine 35 = .ok (.getfield 30, 3) := by decide +kernel
theorem dX4_squareLine_38 : decode cX4_squareLine 38 = .ok (.invokestatic 77, 3) := by decide +kernel
theorem dX4_squareLine_41 : decode cX4_squareLine 41 = .ok (.aload_n 1, 1) := by decide +kernel
theorem dX4_squareLine_42 : decode cX4_squareLine 42 = .ok (.aload_n 0, 1) := by decide +kernel
theorem dX4_squareLine_43 : decode cX4_squareLine 43 = .ok (.getfield 27, 3) := by decide +kernel
theorem dX4_squareLine_46 : decode cX4_squareLine 46 = .ok (.aload_n 0, 1) := by decide +kernel
theorem dX4_squareLine_47 : decode cX4_squareLine 47 = .ok (.getfield 27, 3) := by decide +kernel
theorem dX4_squareLine_50 : decode cX4_squareLine 50 = .ok (.invokestatic 123, 3) := by decide +kernel
theorem dX4_squareLine_53 : decode cX4_squareLine 53 = .ok (.return_, 1) := by decide +kernel
theorem dJ6_numberOfTrailingZeros_0f7a4_0 : decode cJ6_numberOfTrailingZeros_0f7a4 0 = .ok (.iload_n 0, 1) := by decide +kernel
theorem dJ6_numberOfTrailingZeros_0f7a4_1 : decode cJ6_numberOfTrailingZeros_0f7a4 1 = .ok (.iconst (-1), 1) := by decide +kernel
theorem dJ6_numberOfTrailingZeros_0f7a4_2 : decode cJ6_numberOfTrailingZeros_0f7a4 2 = .ok (.ixor, 1) := by decide +kernel
theorem dJ6_numberOfTrailingZeros_0f7a4_3 : decode cJ6_numberOfTrailingZeros_0f7a4 3 = .ok (.iload_n 0, 1) := by decide +kernel
theorem dJ6_numberOfTrailingZeros_0f7a4_4 : decode cJ6_numberOfTrailingZeros_0f7a4 4 = .ok (.iconst 1, 1) := by decide +kernel
theorem dJ6_numberOfTrailingZeros_0f7a4_5 : decode cJ6_numberOfTrailingZeros_0f7a4 5 = .ok (.isub, 1) := by decide +kernel
theorem dJ6_numberOfTrailingZeros_0f7a4_6 : decode cJ6_numberOfTrailingZeros_0f7a4 6 = .ok (.iand, 1) := by decide +kernel
theorem dJ6_numberOfTrailingZeros_0f7a4_7 : decode cJ6_numberOfTrailingZeros_0f7a4 7 = .ok (.istore_n 0, 1) := by decide +kernel
theorem dJ6_numberOfTrailingZeros_0f7a4_8 : decode cJ6_numberOfTrailingZeros_0f7a4 8 = .ok (.iload_n 0, 1) := by decide +kernel
theorem dJ6_numberOfTrailingZeros_0f7a4_9 : decode cJ6_numberOfTrailingZeros_0f7a4 9 = .ok (.ifCond .gt 8, 3) := by decide +kernel
theorem dJ6_numberOfTrailingZeros_0f7a4_12 : decode cJ6_numberOfTrailingZeros_0f7a4 12 = .ok (.iload_n 0, 1) := by decide +kernel
theorem dJ6_numberOfTrailingZeros_0f7a4_13 : decode cJ6_numberOfTrailingZeros_0f7a4 13 = .ok (.bipush 32, 2) := by decide +kernel
theorem dJ6_numberOfTrailingZeros_0f7a4_15 : decode cJ6_numberOfTrailingZeros_0f7a4 15 = .ok (.iand, 1) := by decide +kernel
theorem dJ6_numberOfTrailingZeros_0f7a4_16 : decode cJ6_numberOfTrailingZeros_0f7a4 16 = .ok (.ireturn, 1) := by decide +kernel
theorem dJ6_numberOfTrailingZeros_0f7a4_17 : decode cJ6_numberOfTrailingZeros_0f7a4 17 = .ok (.iconst 1, 1) := by decide +kernel
theorem dJ6_numberOfTrailingZeros_0f7a4_18 : decode cJ6_numberOfTrailingZeros_0f7a4 18 = .ok (.istore_n 1, 1) := by decide +kernel
theorem dJ6_numberOfTrailingZeros_0f7a4_19 : decode cJ6_numberOfTrailingZeros_0f7a4 19 = .ok (.iload_n 0, 1) := by decide +kernel
theorem dJ6_numberOfTrailingZeros_0f7a4_20 : decode cJ6_numberOfTrailingZeros_0f7a4 20 = .ok (.ldc_w 264, 3) := by decide +kernel
theorem dJ6_numberOfTrailingZeros_0f7a4_23 : decode cJ6_numberOfTrailingZeros_0f7a4 23 = .ok (.if_icmp .le 11, 3) := by decide +kernel
theorem dJ6_numberOfTrailingZeros_0f7a4_26 : decode cJ6_numberOfTrailingZeros_0f7a4 26 = .ok (.iinc 1 16, 3) := by decide +kernel
theorem dJ6_numberOfTrailingZeros_0f7a4_29 : decode cJ6_numberOfTrailingZeros_0f7a4 29 = .ok (.iload_n 0, 1) := by decide +kernel
theorem dJ6_numberOfTrailingZeros_0f7a4_30 : decode cJ6_numberOfTrailingZeros_0f7a4 30 = .ok (.bipush 16, 2) := by decide +kernel
theorem dJ6_numberOfTrailingZeros_0f7a4_32 : decode cJ6_numberOfTrailingZeros_0f7a4 32 = .ok (.iushr, 1) := by decide +kernel
theorem dJ6_numberOfTrailingZeros_0f7a4_33 : decode cJ6_numberOfTrailingZeros_0f7a4 33 = .ok (.istore_n 0, 1) := by decide +kernel
theorem dJ6_numberOfTrailingZeros_0f7a4_34 : decode cJ6_numberOfTrailingZeros_0f7a4 34 = .ok (.iload_n 0, 1) := by decide +kernel
theorem dJ6_numberOfTrailingZeros_0f7a4_35 : decode cJ6_numberOfTrailingZeros_0f7a4 35 = .ok (.sipush 256, 3) := by decide +kernel
theorem dJ6_numberOfTrailingZeros_0f7a4_38 : decode cJ6_numberOfTrailingZeros_0f7a4 38 = .ok (.if_icmp .le 11, 3) := by decide +kernel
theorem dJ6_numberOfTrailingZeros_0f7a4_41 : decode cJ6_numberOfTrailingZeros_0f7a4 41 = .ok (.iinc 1 8, 3) := by decide +kernel
theorem dJ6_numberOfTrailingZeros_0f7a4_44 : decode cJ6_numberOfTrailingZeros_0f7a4 44 = .ok (.iload_n 0, 1) := by decide +kernel
theorem dJ6_numberOfTrailingZeros_0f7a4_45 : decode cJ6_numberOfTrailingZeros_0f7a4 45 = .ok (.bipush 8, 2) := by decide +kernel
theorem dJ6_numberOfTrailingZeros_0f7a4_47 : decode cJ6_numberOfTrailingZeros_0f7a4 47 = .ok (.iushr, 1) := by decide +kernel
theorem dJ6_numberOfTrailingZeros_0f7a4_48 : decode cJ6_numberOfTrailingZeros_0f7a4 48 = .ok (.istore_n 0, 1) := by decide +kernel
theorem dJ6_numberOfTrailingZeros_0f7a4_49 : decode cJ6_numberOfTrailingZeros_0f7a4 49 = .ok (.iload_n 0, 1) := by decide +kernel
theorem dJ6_numberOfTrailingZeros_0f7a4_50 : decode cJ6_numberOfTrailingZeros_0f7a4 50 = .ok (.bipush 16, 2) := by decide +kernel
theorem dJ6_numberOfTrailingZeros_0f7a4_52 : decode cJ6_numberOfTrailingZeros_0f7a4 52 = .ok (.if_icmp .le 10, 3) := by decide +kernel
theorem dJ6_numberOfTrailingZeros_0f7a4_55 : decode cJ6_numberOfTrailingZeros_0f7a4 55 = .ok (.iinc 1 4, 3) := by decide +kernel
theorem dJ6_numberOfTrailingZeros_0f7a4_58 : decode cJ6_numberOfTrailingZeros_0f7a4 58 = .ok (.iload_n 0, 1) := by decide +kernel
theorem dJ6_numberOfTrailingZeros_0f7a4_59 : decode cJ6_numberOfTrailingZeros_0f7a4 59 = .ok (.iconst 4, 1) := by decide +kernel
theorem dJ6_numberOfTrailingZeros_0f7a4_60 : decode cJ6_numberOfTrailingZeros_0f7a4 60 = .ok (.iushr, 1) := by decide +kernel
theorem dJ6_numberOfTrailingZeros_0f7a4_61 : decode cJ6_numberOfTrailingZeros_0f7a4 61 = .ok (.istore_n 0, 1) := by decide +kernel
theorem dJ6_numberOfTrailingZeros_0f7a4_62 : decode cJ6_numberOfTrailingZeros_0f7a4 62 = .ok (.iload_n 0, 1) := by decide +kernel
theorem dJ6_numberOfTrailingZeros_0f7a4_63 : decode cJ6_numberOfTrailingZeros_0f7a4 63 = .ok (.iconst 4, 1) := by decide +kernel
theorem dJ6_numberOfTrailingZeros_0f7a4_64 : decode cJ6_numberOfTrailingZeros_0f7a4 64 = .ok (.if_icmp .le 10, 3) := by decide +kernel
theorem dJ6_numberOfTrailingZeros_0f7a4_67 : decode cJ6_numberOfTrailingZeros_0f7a4 67 = .ok (.iinc 1 2, 3) := by decide +kernel
theorem dJ6_numberOfTrailingZeros_0f7a4_70 : decode cJ6_numberOfTrailingZeros_0f7a4 70 = .ok (.iload_n 0, 1) := by decide +kernel
theorem dJ6_numberOfTrailingZeros_0f7a4_71 : decode cJ6_numberOfTrailingZeros_0f7a4 71 = .ok (.iconst 2, 1) := by decide +kernel
theorem dJ6_numberOfTrailingZeros_0f7a4_72 : decode cJ6_numberOfTrailingZeros_0f7a4 72 = .ok (.iushr, 1) := by decide +kernel
theorem dJ6_numberOfTrailingZeros_0f7a4_73 : decode cJ6_numberOfTrailingZeros_0f7a4 73 = .ok (.istore_n 0, 1) := by decide +kernel
theorem dJ6_numberOfTrailingZeros_0f7a4_74 : decode cJ6_numberOfTrailingZeros_0f7a4 74 = .ok (.iload_n 1, 1) := by decide +kernel
theorem dJ6_numberOfTrailingZeros_0f7a4_75 : decode cJ6_numberOfTrailingZeros_0f7a4 75 = .ok (.iload_n 0, 1) := by decide +kernel
theorem dJ6_numberOfTrailingZeros_0f7a4_76 : decode cJ6_numberOfTrailingZeros_0f7a4 76 = .ok (.iconst 1, 1) := by decide +kernel
theorem dJ6_numberOfTrailingZeros_0f7a4_77 : decode cJ6_numberOfTrailingZeros_0f7a4 77 = .ok (.iushr, 1) := by decide +kernel
theorem dJ6_numberOfTrailingZeros_0f7a4_78 : decode cJ6_numberOfTrailingZeros_0f7a4 78 = .ok (.iadd, 1) := by decide +kernel
theorem dJ6_numberOfTrailingZeros_0f7a4_79 : decode cJ6_numberOfTrailingZeros_0f7a4 79 = .ok (.ireturn, 1) := by decide +kernel
theorem dJ9_min_7cf53_0 : decode cJ9_min_7cf53 0 = .ok (.iload_n 0, 1) := by decide +kernel
theorem dJ9_min_7cf53_1 : decode cJ9_min_7cf53 1 = .ok (.iload_n 1, 1) := by decide +kernel
theorem dJ9_min_7cf53_2 : decode cJ9_min_7cf53 2 = .ok (.if_icmp .gt 7, 3) := by decide +kernel
theorem dJ9_min_7cf53_5 : decode cJ9_min_7cf53 5 = .ok (.iload_n 0, 1) := by decide +kernel
theorem dJ9_min_7cf53_6 : decode cJ9_min_7cf53 6 = .ok (.goto 4, 3) := by decide +kernel
theorem dJ9_min_7cf53_9 : decode cJ9_min_7cf53 9 = .ok (.iload_n 1, 1) := by decide +kernel
theorem dJ9_min_7cf53_10 : decode cJ9_min_7cf53 10 = .ok (.ireturn, 1) := by decide +kernel
