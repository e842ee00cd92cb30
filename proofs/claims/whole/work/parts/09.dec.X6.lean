theorem dX6_same_41 : decode cX6_same 41 = .ok (.aload_n 0, 1) := by decide +kernel
theorem dX6_same_42 : decode cX6_same 42 = .ok (.getfield 16, 3) := by decide +kernel
theorem dX6_same_45 : decode cX6_same 45 = .ok (.iconst 1, 1) := by decide +kernel
theorem dX6_same_46 : decode cX6_same 46 = .ok (.iaload, 1) := by decide +kernel
theorem dX6_same_47 : decode cX6_same 47 = .ok (.if_icmp .ne 22, 3) := by decide +kernel
theorem dX6_same_50 : decode cX6_same 50 = .ok (.aload_n 0, 1) := by decide +kernel
theorem dX6_same_51 : decode cX6_same 51 = .ok (.getfield 19, 3) := by decide +kernel
theorem dX6_same_54 : decode cX6_same 54 = .ok (.iconst 0, 1) := by decide +kernel
theorem dX6_same_55 : decode cX6_same 55 = .ok (.iaload, 1) := by decide +kernel
theorem dX6_same_56 : decode cX6_same 56 = .ok (.aload_n 0, 1) := by decide +kernel
theorem dX6_same_57 : decode cX6_same 57 = .ok (.getfield 19, 3) := by decide +kernel
theorem dX6_same_60 : decode cX6_same 60 = .ok (.iconst 1, 1) := by decide +kernel
theorem dX6_same_61 : decode cX6_same 61 = .ok (.iaload, 1) := by decide +kernel
theorem dX6_same_62 : decode cX6_same 62 = .ok (.if_icmp .ne 7, 3) := by decide +kernel
theorem dX6_same_65 : decode cX6_same 65 = .ok (.iconst 1, 1) := by decide +kernel
theorem dX6_same_66 : decode cX6_same 66 = .ok (.goto 4, 3) := by decide +kernel
theorem dX6_same_69 : decode cX6_same 69 = .ok (.iconst 0, 1) := by decide +kernel
theorem dX6_same_70 : decode cX6_same 70 = .ok (.istore_n 1, 1) := by decide +kernel
theorem dX6_same_71 : decode cX6_same 71 = .ok (.bipush (-49), 2) := by decide +kernel
theorem dX6_same_73 : decode cX6_same 73 = .ok (.istore_n 2, 1) := by decide +kernel
theorem dX6_same_74 : decode cX6_same 74 = .ok (.iload_n 2, 1) := by decide +kernel
theorem dX6_same_75 : decode cX6_same 75 = .ok (.bipush 49, 2) := by decide +kernel
theorem dX6_same_77 : decode cX6_same 77 = .ok (.if_icmp .gt 62, 3) := by decide +kernel
theorem dX6_same_80 : decode cX6_same 80 = .ok (.iload_n 1, 1) := by decide +kernel
theorem dX6_same_81 : decode cX6_same 81 = .ok (.ifCond .eq 58, 3) := by decide +kernel
theorem dX6_same_84 : decode cX6_same 84 = .ok (.aload_n 0, 1) := by decide +kernel
theorem dX6_same_85 : decode cX6_same 85 = .ok (.iconst 0, 1) := by decide +kernel
theorem dX6_same_86 : decode cX6_same 86 = .ok (.iload_n 2, 1) := by decide +kernel
theorem dX6_same_87 : decode cX6_same 87 = .ok (.bipush 49, 2) := by decide +kernel
theorem dX6_same_89 : decode cX6_same 89 = .ok (.invokevirtual 171, 3) := by decide +kernel
theorem dX6_same_92 : decode cX6_same 92 = .ok (.aload_n 0, 1) := by decide +kernel
theorem dX6_same_93 : decode cX6_same 93 = .ok (.bipush 24, 2) := by decide +kernel
theorem dX6_same_95 : decode cX6_same 95 = .ok (.bipush 14, 2) := by decide +kernel
theorem dX6_same_97 : decode cX6_same 97 = .ok (.invokevirtual 81, 3) := by decide +kernel
theorem dX6_same_100 : decode cX6_same 100 = .ok (.aload_n 0, 1) := by decide +kernel
theorem dX6_same_101 : decode cX6_same 101 = .ok (.bipush 25, 2) := by decide +kernel
theorem dX6_same_103 : decode cX6_same 103 = .ok (.bipush 15, 2) := by decide +kernel
theorem dX6_same_105 : decode cX6_same 105 = .ok (.invokevirtual 81, 3) := by decide +kernel
theorem dX6_same_108 : decode cX6_same 108 = .ok (.aload_n 0, 1) := by decide +kernel
theorem dX6_same_109 : decode cX6_same 109 = .ok (.iconst 1, 1) := by decide +kernel
theorem dX6_same_110 : decode cX6_same 110 = .ok (.iload_n 2, 1) := by decide +kernel
theorem dX6_same_111 : decode cX6_same 111 = .ok (.bipush 49, 2) := by decide +kernel
theorem dX6_same_113 : decode cX6_same 113 = .ok (.invokevirtual 171, 3) := by decide +kernel
theorem dX6_same_116 : decode cX6_same 116 = .ok (.aload_n 0, 1) := by decide +kernel
theorem dX6_same_117 : decode cX6_same 117 = .ok (.bipush 24, 2) := by decide +kernel
theorem dX6_same_119 : decode cX6_same 119 = .ok (.bipush 25, 2) := by decide +kernel
theorem dX6_same_121 : decode cX6_same 121 = .ok (.invokevirtual 180, 3) := by decide +kernel
theorem dX6_same_124 : decode cX6_same 124 = .ok (.ifCond .ne 7, 3) := by decide +kernel
theorem dX6_same_127 : decode cX6_same 127 = .ok (.iconst 1, 1) := by decide +kernel
theorem dX6_same_128 : decode cX6_same 128 = .ok (.goto 4, 3) := by decide +kernel
theorem dX6_same_131 : decode cX6_same 131 = .ok (.iconst 0, 1) := by decide +kernel
theorem dX6_same_132 : decode cX6_same 132 = .ok (.istore_n 1, 1) := by decide +kernel
theorem dX6_same_133 : decode cX6_same 133 = .ok (.iinc 2 1, 3) := by decide +kernel
theorem dX6_same_136 : decode cX6_same 136 = .ok (.goto (-62), 3) := by decide +kernel
theorem dX6_same_139 : decode cX6_same 139 = .ok (.iload_n 1, 1) := by decide +kernel
theorem dX6_same_140 : decode cX6_same 140 = .ok (.ireturn, 1) := by decide +kernel
set_option maxRecDepth 20000 in
theorem ggX6_list_X6_isIndex : GoodIn wsX6_list wsX6_isIndex := goodIn_r _ [8] rfl rfl
set_option maxRecDepth 20000 in
theorem gX6_list_X6_isIndex : GoodIn wsX6_list (va_wsS RX6 149 yX6_isIndex wsX6_isIndex) := goodIn_app (goodIn_r _ [5, 6, 7] rfl rfl) ggX6_list_X6_isIndex
set_option maxRecDepth 20000 in
theorem ggX6_list_X6_right : GoodIn wsX6_list wsX6_right := goodIn_r _ [12, 1, 16, 17, 18, 19, 20, 21, 22, 23, 24, 25, 26, 27, 28, 29, 30, 31, 32, 33, 34, 35, 36, 37] rfl rfl
set_option maxRecDepth 20000 in
theorem gX6_list_X6_right : GoodIn wsX6_list (wsV RX6 68 RX6 yX6_right wsX6_right) := goodIn_app (goodIn_r _ [9, 10, 11, 7] rfl rfl) ggX6_list_X6_right
set_option maxRecDepth 20000 in
theorem ggX6_list_X6_shared : GoodIn wsX6_list wsX6_shared := goodIn_r _ [15] rfl rfl
set_option maxRecDepth 20000 in
theorem gX6_list_X6_shared : GoodIn wsX6_list (va_wsS RX6 153 yX6_shared wsX6_shared) := goodIn_app (goodIn_r _ [13, 14, 7] rfl rfl) ggX6_list_X6_shared
theorem dX6_list_0 : decode cX6_list 0 = .ok (.aload_n 0, 1) := by decide +kernel
theorem dX6_list_1 : decode cX6_list 1 = .ok (.iconst 0, 1) := by decide +kernel
theorem dX6_list_2 : decode cX6_list 2 = .ok (.putfield 65, 3) := by decide +kernel
theorem dX6_list_5 : decode cX6_list 5 = .ok (.aload_n 0, 1) := by decide +kernel
theorem dX6_list_6 : decode cX6_list 6 = .ok (.iload_n 1, 1) := by decide +kernel
theorem dX6_list_7 : decode cX6_list 7 = .ok (.iload_n 2, 1) := by decide +kernel
theorem dX6_list_8 : decode cX6_list 8 = .ok (.invokestatic 149, 3) := by decide +kernel
theorem dX6_list_11 : decode cX6_list 11 = .ok (.iconst 1, 1) := by decide +kernel
theorem dX6_list_12 : decode cX6_list 12 = .ok (.invokevirtual 68, 3) := by decide +kernel
theorem dX6_list_15 : decode cX6_list 15 = .ok (.ifCond .ne 5, 3) := by decide +kernel
theorem dX6_list_18 : decode cX6_list 18 = .ok (.iconst 0, 1) := by decide +kernel
theorem dX6_list_19 : decode cX6_list 19 = .ok (.ireturn, 1) := by decide +kernel
theorem dX6_list_20 : decode cX6_list 20 = .ok (.iload_n 1, 1) := by decide +kernel
theorem dX6_list_21 : decode cX6_list 21 = .ok (.iload_n 2, 1) := by decide +kernel
theorem dX6_list_22 : decode cX6_list 22 = .ok (.invokestatic 153, 3) := by decide +kernel
theorem dX6_list_25 : decode cX6_list 25 = .ok (.istore_n 3, 1) := by decide +kernel
theorem dX6_list_26 : decode cX6_list 26 = .ok (.iconst 0, 1) := by decide +kernel
theorem dX6_list_27 : decode cX6_list 27 = .ok (.istore 4, 2) := by decide +kernel
theorem dX6_list_29 : decode cX6_list 29 = .ok (.iload 4, 2) := by decide +kernel
theorem dX6_list_31 : decode cX6_list 31 = .ok (.aload_n 0, 1) := by decide +kernel
theorem dX6_list_32 : decode cX6_list 32 = .ok (.getfield 183, 3) := by decide +kernel
theorem dX6_list_35 : decode cX6_list 35 = .ok (.if_icmp .ge 37, 3) := by decide +kernel
theorem dX6_list_38 : decode cX6_list 38 = .ok (.aload_n 0, 1) := by decide +kernel
theorem dX6_list_39 : decode cX6_list 39 = .ok (.getfield 38, 3) := by decide +kernel
theorem dX6_list_42 : decode cX6_list 42 = .ok (.iload 4, 2) := by decide +kernel
theorem dX6_list_44 : decode cX6_list 44 = .ok (.iaload, 1) := by decide +kernel
theorem dX6_list_45 : decode cX6_list 45 = .ok (.iload_n 1, 1) := by decide +kernel
theorem dX6_list_46 : decode cX6_list 46 = .ok (.iload_n 3, 1) := by decide +kernel
theorem dX6_list_47 : decode cX6_list 47 = .ok (.idiv, 1) := by decide +kernel
theorem dX6_list_48 : decode cX6_list 48 = .ok (.if_icmp .ne 18, 3) := by decide +kernel
theorem dX6_list_51 : decode cX6_list 51 = .ok (.aload_n 0, 1) := by decide +kernel
theorem dX6_list_52 : decode cX6_list 52 = .ok (.getfield 41, 3) := by decide +kernel
theorem dX6_list_55 : decode cX6_list 55 = .ok (.iload 4, 2) := by decide +kernel
theorem dX6_list_57 : decode cX6_list 57 = .ok (.iaload, 1) := by decide +kernel
theorem dX6_list_58 : decode cX6_list 58 = .ok (.iload_n 2, 1) := by decide +kernel
theorem dX6_list_59 : decode cX6_list 59 = .ok (.iload_n 3, 1) := by decide +kernel
theorem dX6_list_60 : decode cX6_list 60 = .ok (.idiv, 1) := by decide +kernel
theorem dX6_list_61 : decode cX6_list 61 = .ok (.if_icmp .ne 5, 3) := by decide +kernel
theorem dX6_list_64 : decode cX6_list 64 = .ok (.iconst (-1), 1) := by decide +kernel
theorem dX6_list_65 : decode cX6_list 65 = .ok (.ireturn, 1) := by decide +kernel
theorem dX6_list_66 : decode cX6_list 66 = .ok (.iinc 4 1, 3) := by decide +kernel
theorem dX6_list_69 : decode cX6_list 69 = .ok (.goto (-40), 3) := by decide +kernel
theorem dX6_list_72 : decode cX6_list 72 = .ok (.aload_n 0, 1) := by decide +kernel
theorem dX6_list_73 : decode cX6_list 73 = .ok (.getfield 183, 3) := by decide +kernel
theorem dX6_list_76 : decode cX6_list 76 = .ok (.bipush 6, 2) := by decide +kernel
theorem dX6_list_78 : decode cX6_list 78 = .ok (.if_icmp .ne 5, 3) := by decide +kernel
theorem dX6_list_81 : decode cX6_list 81 = .ok (.iconst (-1), 1) := by decide +kernel
theorem dX6_list_82 : decode cX6_list 82 = .ok (.ireturn, 1) := by decide +kernel
theorem dX6_list_83 : decode cX6_list 83 = .ok (.aload_n 0, 1) := by decide +kernel
theorem dX6_list_84 : decode cX6_list 84 = .ok (.getfield 38, 3) := by decide +kernel
theorem dX6_list_87 : decode cX6_list 87 = .ok (.aload_n 0, 1) := by decide +kernel
theorem dX6_list_88 : decode cX6_list 88 = .ok (.getfield 183, 3) := by decide +kernel
theorem dX6_list_91 : decode cX6_list 91 = .ok (.iload_n 1, 1) := by decide +kernel
theorem dX6_list_92 : decode cX6_list 92 = .ok (.iload_n 3, 1) := by decide +kernel
theorem dX6_list_93 : decode cX6_list 93 = .ok (.idiv, 1) := by decide +kernel
theorem dX6_list_94 : decode cX6_list 94 = .ok (.iastore, 1) := by decide +kernel
theorem dX6_list_95 : decode cX6_list 95 = .ok (.aload_n 0, 1) := by decide +kernel
theorem dX6_list_96 : decode cX6_list 96 = .ok (.getfield 41, 3) := by decide +kernel
theorem dX6_list_99 : decode cX6_list 99 = .ok (.aload_n 0, 1) := by decide +kernel
theorem dX6_list_100 : decode cX6_list 100 = .ok (.getfield 183, 3) := by decide +kernel
theorem dX6_list_103 : decode cX6_list 103 = .ok (.iload_n 2, 1) := by decide +kernel
theorem dX6_list_104 : decode cX6_list 104 = .ok (.iload_n 3, 1) := by decide +kernel
theorem dX6_list_105 : decode cX6_list 105 = .ok (.idiv, 1) := by decide +kernel
theorem dX6_list_106 : decode cX6_list 106 = .ok (.iastore, 1) := by decide +kernel
theorem dX6_list_107 : decode cX6_list 107 = .ok (.aload_n 0, 1) := by decide +kernel
theorem dX6_list_108 : decode cX6_list 108 = .ok (.dup, 1) := by decide +kernel
theorem dX6_list_109 : decode cX6_list 109 = .ok (.getfield 183, 3) := by decide +kernel
theorem dX6_list_112 : decode cX6_list 112 = .ok (.iconst 1, 1) := by decide +kernel
theorem dX6_list_113 : decode cX6_list 113 = .ok (.iadd, 1) := by decide +kernel
theorem dX6_list_114 : decode cX6_list 114 = .ok (.putfield 183, 3) := by decide +kernel
theorem dX6_list_117 : decode cX6_list 117 = .ok (.aload_n 0, 1) := by decide +kernel
theorem dX6_list_118 : decode cX6_list 118 = .ok (.getfield 183, 3) := by decide +kernel
theorem dX6_list_121 : decode cX6_list 121 = .ok (.ireturn, 1) := by decide +kernel
theorem dX6_unlist_0 : decode cX6_unlist 0 = .ok (.aload_n 0, 1) := by decide +kernel
theorem dX6_unlist_1 : decode cX6_unlist 1 = .ok (.iconst 0, 1) := by decide +kernel
theorem dX6_unlist_2 : decode cX6_unlist 2 = .ok (.putfield 65, 3) := by decide +kernel
theorem dX6_unlist_5 : decode cX6_unlist 5 = .ok (.aload_n 0, 1) := by decide +kernel
theorem dX6_unlist_6 : decode cX6_unlist 6 = .ok (.iconst 0, 1) := by decide +kernel
theorem dX6_unlist_7 : decode cX6_unlist 7 = .ok (.putfield 183, 3) := by decide +kernel
theorem dX6_unlist_10 : decode cX6_unlist 10 = .ok (.return_, 1) := by decide +kernel
theorem dX6_lay_0 : decode cX6_lay 0 = .ok (.iload_n 3, 1) := by decide +kernel
theorem dX6_lay_1 : decode cX6_lay 1 = .ok (.istore 4, 2) := by decide +kernel
theorem dX6_lay_3 : decode cX6_lay 3 = .ok (.aload_n 0, 1) := by decide +kernel
theorem dX6_lay_4 : decode cX6_lay 4 = .ok (.getfield 22, 3) := by decide +kernel
theorem dX6_lay_7 : decode cX6_lay 7 = .ok (.iload_n 1, 1) := by decide +kernel
theorem dX6_lay_8 : decode cX6_lay 8 = .ok (.iload_n 2, 1) := by decide +kernel
theorem dX6_lay_9 : decode cX6_lay 9 = .ok (.iastore, 1) := by decide +kernel
theorem dX6_lay_10 : decode cX6_lay 10 = .ok (.iload_n 2, 1) := by decide +kernel
theorem dX6_lay_11 : decode cX6_lay 11 = .ok (.iconst 1, 1) := by decide +kernel
theorem dX6_lay_12 : decode cX6_lay 12 = .ok (.isub, 1) := by decide +kernel
theorem dX6_lay_13 : decode cX6_lay 13 = .ok (.istore 5, 2) := by decide +kernel
theorem dX6_lay_15 : decode cX6_lay 15 = .ok (.iload 5, 2) := by decide +kernel
theorem dX6_lay_17 : decode cX6_lay 17 = .ok (.ifCond .lt 79, 3) := by decide +kernel
theorem dX6_lay_20 : decode cX6_lay 20 = .ok (.aload_n 0, 1) := by decide +kernel
theorem dX6_lay_21 : decode cX6_lay 21 = .ok (.getfield 25, 3) := by decide +kernel
theorem dX6_lay_24 : decode cX6_lay 24 = .ok (.bipush 6, 2) := by decide +kernel
theorem dX6_lay_26 : decode cX6_lay 26 = .ok (.iload_n 1, 1) := by decide +kernel
theorem dX6_lay_27 : decode cX6_lay 27 = .ok (.imul, 1) := by decide +kernel
theorem dX6_lay_28 : decode cX6_lay 28 = .ok (.iload 5, 2) := by decide +kernel
theorem dX6_lay_30 : decode cX6_lay 30 = .ok (.iadd, 1) := by decide +kernel
theorem dX6_lay_31 : decode cX6_lay 31 = .ok (.aload_n 0, 1) := by decide +kernel
theorem dX6_lay_32 : decode cX6_lay 32 = .ok (.getfield 38, 3) := by decide +kernel
theorem dX6_lay_35 : decode cX6_lay 35 = .ok (.iload 4, 2) := by decide +kernel
theorem dX6_lay_37 : decode cX6_lay 37 = .ok (.aload_n 0, 1) := by decide +kernel
theorem dX6_lay_38 : decode cX6_lay 38 = .ok (.getfield 183, 3) := by decide +kernel
theorem dX6_lay_41 : decode cX6_lay 41 = .ok (.irem, 1) := by decide +kernel
theorem dX6_lay_42 : decode cX6_lay 42 = .ok (.iaload, 1) := by decide +kernel
theorem dX6_lay_43 : decode cX6_lay 43 = .ok (.iastore, 1) := by decide +kernel
theorem dX6_lay_44 : decode cX6_lay 44 = .ok (.aload_n 0, 1) := by decide +kernel
theorem dX6_lay_45 : decode cX6_lay 45 = .ok (.getfield 28, 3) := by decide +kernel
theorem dX6_lay_48 : decode cX6_lay 48 = .ok (.bipush 6, 2) := by decide +kernel
theorem dX6_lay_50 : decode cX6_lay 50 = .ok (.iload_n 1, 1) := by decide +kernel
theorem dX6_lay_51 : decode cX6_lay 51 = .ok (.imul, 1) := by decide +kernel
theorem dX6_lay_52 : decode cX6_lay 52 = .ok (.iload 5, 2) := by decide +kernel
theorem dX6_lay_54 : decode cX6_lay 54 = .ok (.iadd, 1) := by decide +kernel
theorem dX6_lay_55 : decode cX6_lay 55 = .ok (.aload_n 0, 1) := by decide +kernel
theorem dX6_lay_56 : decode cX6_lay 56 = .ok (.getfield 41, 3) := by decide +kernel
theorem dX6_lay_59 : decode cX6_lay 59 = .ok (.iload 4, 2) := by decide +kernel
theorem dX6_lay_61 : decode cX6_lay 61 = .ok (.aload_n 0, 1) := by decide +kernel
theorem dX6_lay_62 : decode cX6_lay 62 = .ok (.getfield 183, 3) := by decide +kernel
theorem dX6_lay_65 : decode cX6_lay 65 = .ok (.irem, 1) := by decide +kernel
theorem dX6_lay_66 : decode cX6_lay 66 = .ok (.iaload, 1) := by decide +kernel
theorem dX6_lay_67 : decode cX6_lay 67 = .ok (.iastore, 1) := by decide +kernel
theorem dX6_lay_68 : decode cX6_lay 68 = .ok (.aload_n 0, 1) := by decide +kernel
theorem dX6_lay_69 : decode cX6_lay 69 = .ok (.getfield 31, 3) := by decide +kernel
theorem dX6_lay_72 : decode cX6_lay 72 = .ok (.bipush 6, 2) := by decide +kernel
theorem dX6_lay_74 : decode cX6_lay 74 = .ok (.iload_n 1, 1) := by decide +kernel
theorem dX6_lay_75 : decode cX6_lay 75 = .ok (.imul, 1) := by decide +kernel
theorem dX6_lay_76 : decode cX6_lay 76 = .ok (.iload 5, 2) := by decide +kernel
theorem dX6_lay_78 : decode cX6_lay 78 = .ok (.iadd, 1) := by decide +kernel
theorem dX6_lay_79 : decode cX6_lay 79 = .ok (.iconst 1, 1) := by decide +kernel
theorem dX6_lay_80 : decode cX6_lay 80 = .ok (.iastore, 1) := by decide +kernel
theorem dX6_lay_81 : decode cX6_lay 81 = .ok (.iload 4, 2) := by decide +kernel
theorem dX6_lay_83 : decode cX6_lay 83 = .ok (.aload_n 0, 1) := by decide +kernel
theorem dX6_lay_84 : decode cX6_lay 84 = .ok (.getfield 183, 3) := by decide +kernel
theorem dX6_lay_87 : decode cX6_lay 87 = .ok (.idiv, 1) := by decide +kernel
theorem dX6_lay_88 : decode cX6_lay 88 = .ok (.istore 4, 2) := by decide +kernel
theorem dX6_lay_90 : decode cX6_lay 90 = .ok (.iinc 5 (-1), 3) := by decide +kernel
theorem dX6_lay_93 : decode cX6_lay 93 = .ok (.goto (-78), 3) := by decide +kernel
theorem dX6_lay_96 : decode cX6_lay 96 = .ok (.return_, 1) := by decide +kernel
set_option maxRecDepth 20000 in
theorem ggX6_choose_X6_isStack : GoodIn wsX6_choose wsX6_isStack := goodIn_r _ [9, 10, 11, 12, 13, 8, 14, 106, 107, 108, 109, 110, 111, 112, 113, 114, 115, 116, 117, 118, 119, 120, 121, 122, 123, 124, 125, 126, 127] rfl rfl
set_option maxRecDepth 20000 in
theorem gX6_choose_X6_isStack : GoodIn wsX6_choose (wsV RX6 146 RX6 yX6_isStack wsX6_isStack) := goodIn_app (goodIn_r _ [5, 6, 7, 8] rfl rfl) ggX6_choose_X6_isStack
set_option maxRecDepth 20000 in
theorem ggX6_choose_X6_right : GoodIn wsX6_choose wsX6_right := goodIn_r _ [14, 10, 106, 107, 108, 109, 110, 111, 112, 113, 114, 115, 116, 117, 118, 119, 120, 121, 122, 123, 124, 125, 126, 127] rfl rfl
set_option maxRecDepth 20000 in
theorem gX6_choose_X6_right : GoodIn wsX6_choose (wsV RX6 68 RX6 yX6_right wsX6_right) := goodIn_app (goodIn_r _ [11, 12, 13, 8] rfl rfl) ggX6_choose_X6_right
set_option maxRecDepth 20000 in
theorem ggX6_choose_X6_power : GoodIn wsX6_choose wsX6_power := goodIn_r _ [17] rfl rfl
set_option maxRecDepth 20000 in
theorem gX6_choose_X6_power : GoodIn wsX6_choose (va_wsS RX6 136 yX6_power wsX6_power) := goodIn_app (goodIn_r _ [15, 16, 8] rfl rfl) ggX6_choose_X6_power
set_option maxRecDepth 20000 in
theorem ggX6_choose_X6_lay : GoodIn wsX6_choose wsX6_lay := goodIn_r _ [21, 1, 22, 23, 2, 24, 25, 26, 106, 107, 108, 109, 110, 111, 112, 113, 114, 115, 116, 117, 118, 119, 120, 121, 122, 123, 124, 125, 126, 127] rfl rfl
set_option maxRecDepth 20000 in
theorem gX6_choose_X6_lay : GoodIn wsX6_choose (wsV RX6 186 RX6 yX6_lay wsX6_lay) := goodIn_app (goodIn_r _ [18, 19, 20, 8] rfl rfl) ggX6_choose_X6_lay
set_option maxRecDepth 20000 in
theorem ggX6_choose_X6_backOf : GoodIn wsX6_choose wsX6_backOf := goodIn_r _ [30, 31, 32, 33, 34, 35, 36, 37, 8, 38, 1, 22, 24, 26, 39, 40, 41, 42, 43, 44, 45, 46, 47, 48, 49, 50, 51, 52, 53, 54, 55, 56, 57, 58, 59, 60, 61, 62, 63, 64, 65, 66, 67, 68, 69, 70, 71, 72, 73, 74, 75, 76, 77, 78, 79, 80, 81, 82, 83, 84, 85, 86, 87, 88, 89, 90, 91, 92, 93, 15, 16, 17, 94, 95, 96, 97, 106, 107, 108, 109, 110, 111, 112, 113, 114, 115, 116, 117, 118, 119, 120, 121, 122, 123, 124, 125, 126, 127] rfl rfl
set_option maxRecDepth 20000 in
theorem gX6_choose_X6_backOf : GoodIn wsX6_choose (wsV RX6 171 RX6 yX6_backOf wsX6_backOf) := goodIn_app (goodIn_r _ [27, 28, 29, 8] rfl rfl) ggX6_choose_X6_backOf
set_option maxRecDepth 20000 in
theorem ggX6_choose_X6_against : GoodIn wsX6_choose wsX6_against := goodIn_r _ [101, 58, 59, 60, 8, 61, 44, 45, 46, 43, 62, 63, 64, 65, 66, 67, 68, 69, 102, 103, 104, 105, 86, 87, 88, 89, 106, 107, 108, 109, 110, 111, 112, 113, 114, 115, 116, 117, 118, 119, 120, 121, 122, 123, 124, 125, 126, 127] rfl rfl
set_option maxRecDepth 20000 in
theorem gX6_choose_X6_against : GoodIn wsX6_choose (wsV RX6 180 RX6 yX6_against wsX6_against) := goodIn_app (goodIn_r _ [98, 99, 100, 8] rfl rfl) ggX6_choose_X6_against
set_option maxRecDepth 20000 in
theorem ggX6_choose_X6_copy : GoodIn wsX6_choose wsX6_copy := goodIn_r _ [77, 44, 45, 43, 106, 107, 108, 109, 110, 111, 112, 113, 114, 115, 116, 117, 118, 119, 120, 121, 122, 123, 124, 125, 126, 127] rfl rfl
set_option maxRecDepth 20000 in
theorem gX6_choose_X6_copy : GoodIn wsX6_choose (wsV RX6 81 RX6 yX6_copy wsX6_copy) := goodIn_app (goodIn_r _ [74, 75, 76, 8] rfl rfl) ggX6_choose_X6_copy
theorem dX6_choose_0 : decode cX6_choose 0 = .ok (.aload_n 0, 1) := by decide +kernel
theorem dX6_choose_1 : decode cX6_choose 1 = .ok (.iload_n 1, 1) := by decide +kernel
theorem dX6_choose_2 : decode cX6_choose 2 = .ok (.invokevirtual 146, 3) := by decide +kernel
theorem dX6_choose_5 : decode cX6_choose 5 = .ok (.ifCond .eq 25, 3) := by decide +kernel
theorem dX6_choose_8 : decode cX6_choose 8 = .ok (.aload_n 0, 1) := by decide +kernel
theorem dX6_choose_9 : decode cX6_choose 9 = .ok (.iload_n 2, 1) := by decide +kernel
theorem dX6_choose_10 : decode cX6_choose 10 = .ok (.ifCond .lt 12, 3) := by decide +kernel
theorem dX6_choose_13 : decode cX6_choose 13 = .ok (.iload_n 2, 1) := by decide +kernel
theorem dX6_choose_14 : decode cX6_choose 14 = .ok (.iconst 3, 1) := by decide +kernel
theorem dX6_choose_15 : decode cX6_choose 15 = .ok (.if_icmp .gt 7, 3) := by decide +kernel
theorem dX6_choose_18 : decode cX6_choose 18 = .ok (.iconst 1, 1) := by decide +kernel
theorem dX6_choose_19 : decode cX6_choose 19 = .ok (.goto 4, 3) := by decide +kernel
theorem dX6_choose_22 : decode cX6_choose 22 = .ok (.iconst 0, 1) := by decide +kernel
theorem dX6_choose_23 : decode cX6_choose 23 = .ok (.iconst 2, 1) := by decide +kernel
theorem dX6_choose_24 : decode cX6_choose 24 = .ok (.invokevirtual 68, 3) := by decide +kernel
theorem dX6_choose_27 : decode cX6_choose 27 = .ok (.ifCond .ne 5, 3) := by decide +kernel
theorem dX6_choose_30 : decode cX6_choose 30 = .ok (.iconst 0, 1) := by decide +kernel
theorem dX6_choose_31 : decode cX6_choose 31 = .ok (.ireturn, 1) := by decide +kernel
theorem dX6_choose_32 : decode cX6_choose 32 = .ok (.iload_n 2, 1) := by decide +kernel
theorem dX6_choose_33 : decode cX6_choose 33 = .ok (.ifCond .ne 12, 3) := by decide +kernel
theorem dX6_choose_36 : decode cX6_choose 36 = .ok (.aload_n 0, 1) := by decide +kernel
theorem dX6_choose_37 : decode cX6_choose 37 = .ok (.getfield 22, 3) := by decide +kernel
theorem dX6_choose_40 : decode cX6_choose 40 = .ok (.iload_n 1, 1) := by decide +kernel
theorem dX6_choose_41 : decode cX6_choose 41 = .ok (.iconst 0, 1) := by decide +kernel
theorem dX6_choose_42 : decode cX6_choose 42 = .ok (.iastore, 1) := by decide +kernel
theorem dX6_choose_43 : decode cX6_choose 43 = .ok (.iconst 1, 1) := by decide +kernel
theorem dX6_choose_44 : decode cX6_choose 44 = .ok (.ireturn, 1) := by decide +kernel
theorem dX6_choose_45 : decode cX6_choose 45 = .ok (.aload_n 0, 1) := by decide +kernel
theorem dX6_choose_46 : decode cX6_choose 46 = .ok (.getfield 183, 3) := by decide +kernel
theorem dX6_choose_49 : decode cX6_choose 49 = .ok (.ifCond .ne 5, 3) := by decide +kernel
theorem dX6_choose_52 : decode cX6_choose 52 = .ok (.iconst (-1), 1) := by decide +kernel
theorem dX6_choose_53 : decode cX6_choose 53 = .ok (.ireturn, 1) := by decide +kernel
theorem dX6_choose_54 : decode cX6_choose 54 = .ok (.aload_n 0, 1) := by decide +kernel
theorem dX6_choose_55 : decode cX6_choose 55 = .ok (.getfield 183, 3) := by decide +kernel
theorem dX6_choose_58 : decode cX6_choose 58 = .ok (.i2l, 1) := by decide +kernel
theorem dX6_choose_59 : decode cX6_choose 59 = .ok (.iload_n 2, 1) := by decide +kernel
theorem dX6_choose_60 : decode cX6_choose 60 = .ok (.invokestatic 136, 3) := by decide +kernel
theorem dX6_choose_63 : decode cX6_choose 63 = .ok (.l2i, 1) := by decide +kernel
theorem dX6_choose_64 : decode cX6_choose 64 = .ok (.istore_n 3, 1) := by decide +kernel
theorem dX6_choose_65 : decode cX6_choose 65 = .ok (.iconst 0, 1) := by decide +kernel
theorem dX6_choose_66 : decode cX6_choose 66 = .ok (.istore 4, 2) := by decide +kernel
theorem dX6_choose_68 : decode cX6_choose 68 = .ok (.iconst 0, 1) := by decide +kernel
theorem dX6_choose_69 : decode cX6_choose 69 = .ok (.istore 5, 2) := by decide +kernel
theorem dX6_choose_71 : decode cX6_choose 71 = .ok (.iload 5, 2) := by decide +kernel
theorem dX6_choose_73 : decode cX6_choose 73 = .ok (.iload_n 3, 1) := by decide +kernel
theorem dX6_choose_74 : decode cX6_choose 74 = .ok (.if_icmp .ge 69, 3) := by decide +kernel
theorem dX6_choose_77 : decode cX6_choose 77 = .ok (.aload_n 0, 1) := by decide +kernel
theorem dX6_choose_78 : decode cX6_choose 78 = .ok (.iload_n 1, 1) := by decide +kernel
theorem dX6_choose_79 : decode cX6_choose 79 = .ok (.iload_n 2, 1) := by decide +kernel
theorem dX6_choose_80 : decode cX6_choose 80 = .ok (.iload 5, 2) := by decide +kernel
theorem dX6_choose_82 : decode cX6_choose 82 = .ok (.invokevirtual 186, 3) := by decide +kernel
theorem dX6_choose_85 : decode cX6_choose 85 = .ok (.aload_n 0, 1) := by decide +kernel
theorem dX6_choose_86 : decode cX6_choose 86 = .ok (.iload_n 1, 1) := by decide +kernel
theorem dX6_choose_87 : decode cX6_choose 87 = .ok (.aload_n 0, 1) := by decide +kernel
theorem dX6_choose_88 : decode cX6_choose 88 = .ok (.getfield 159, 3) := by decide +kernel
theorem dX6_choose_91 : decode cX6_choose 91 = .ok (.aload_n 0, 1) := by decide +kernel
theorem dX6_choose_92 : decode cX6_choose 92 = .ok (.getfield 34, 3) := by decide +kernel
theorem dX6_choose_95 : decode cX6_choose 95 = .ok (.invokevirtual 171, 3) := by decide +kernel
theorem dX6_choose_98 : decode cX6_choose 98 = .ok (.iload 5, 2) := by decide +kernel
theorem dX6_choose_100 : decode cX6_choose 100 = .ok (.ifCond .le 17, 3) := by decide +kernel
theorem dX6_choose_103 : decode cX6_choose 103 = .ok (.aload_n 0, 1) := by decide +kernel
theorem dX6_choose_104 : decode cX6_choose 104 = .ok (.bipush 16, 2) := by decide +kernel
theorem dX6_choose_106 : decode cX6_choose 106 = .ok (.bipush 17, 2) := by decide +kernel
theorem dX6_choose_108 : decode cX6_choose 108 = .ok (.invokevirtual 180, 3) := by decide +kernel
theorem dX6_choose_111 : decode cX6_choose 111 = .ok (.ifCond .lt 6, 3) := by decide +kernel
theorem dX6_choose_114 : decode cX6_choose 114 = .ok (.goto 23, 3) := by decide +kernel
theorem dX6_choose_117 : decode cX6_choose 117 = .ok (.iload 5, 2) := by decide +kernel
theorem dX6_choose_119 : decode cX6_choose 119 = .ok (.istore 4, 2) := by decide +kernel
theorem dX6_choose_121 : decode cX6_choose 121 = .ok (.aload_n 0, 1) := by decide +kernel
theorem dX6_choose_122 : decode cX6_choose 122 = .ok (.bipush 16, 2) := by decide +kernel
theorem dX6_choose_124 : decode cX6_choose 124 = .ok (.bipush 14, 2) := by decide +kernel
theorem dX6_choose_126 : decode cX6_choose 126 = .ok (.invokevirtual 81, 3) := by decide +kernel
theorem dX6_choose_129 : decode cX6_choose 129 = .ok (.aload_n 0, 1) := by decide +kernel
theorem dX6_choose_130 : decode cX6_choose 130 = .ok (.bipush 17, 2) := by decide +kernel
theorem dX6_choose_132 : decode cX6_choose 132 = .ok (.bipush 15, 2) := by decide +kernel
theorem dX6_choose_134 : decode cX6_choose 134 = .ok (.invokevirtual 81, 3) := by decide +kernel
theorem dX6_choose_137 : decode cX6_choose 137 = .ok (.iinc 5 1, 3) := by decide +kernel
theorem dX6_choose_140 : decode cX6_choose 140 = .ok (.goto (-69), 3) := by decide +kernel
theorem dX6_choose_143 : decode cX6_choose 143 = .ok (.aload_n 0, 1) := by decide +kernel
theorem dX6_choose_144 : decode cX6_choose 144 = .ok (.iload_n 1, 1) := by decide +kernel
theorem dX6_choose_145 : decode cX6_choose 145 = .ok (.iload_n 2, 1) := by decide +kernel
theorem dX6_choose_146 : decode cX6_choose 146 = .ok (.iload 4, 2) := by decide +kernel
theorem dX6_choose_148 : decode cX6_choose 148 = .ok (.invokevirtual 186, 3) := by decide +kernel
theorem dX6_choose_151 : decode cX6_choose 151 = .ok (.iload_n 3, 1) := by decide +kernel
theorem dX6_choose_152 : decode cX6_choose 152 = .ok (.ireturn, 1) := by decide +kernel
set_option maxRecDepth 20000 in
theorem ggX6_pane_X6_right : GoodIn wsX6_pane wsX6_right := goodIn_r _ [11, 1, 12, 13, 14, 15, 16, 17, 18, 19, 20, 21, 22, 23, 24, 25, 26, 27, 28, 29, 30, 31, 32, 33] rfl rfl
set_option maxRecDepth 20000 in
theorem gX6_pane_X6_right : GoodIn wsX6_pane (wsV RX6 68 RX6 yX6_right wsX6_right) := goodIn_app (goodIn_r _ [7, 8, 9, 10] rfl rfl) ggX6_pane_X6_right
theorem dX6_pane_0 : decode cX6_pane 0 = .ok (.aload_n 0, 1) := by decide +kernel
theorem dX6_pane_1 : decode cX6_pane 1 = .ok (.iconst 0, 1) := by decide +kernel
theorem dX6_pane_2 : decode cX6_pane 2 = .ok (.putfield 65, 3) := by decide +kernel
theorem dX6_pane_5 : decode cX6_pane 5 = .ok (.iload_n 1, 1) := by decide +kernel
theorem dX6_pane_6 : decode cX6_pane 6 = .ok (.ifCond .lt 47, 3) := by decide +kernel
theorem dX6_pane_9 : decode cX6_pane 9 = .ok (.iload_n 1, 1) := by decide +kernel
theorem dX6_pane_10 : decode cX6_pane 10 = .ok (.bipush 100, 2) := by decide +kernel
theorem dX6_pane_12 : decode cX6_pane 12 = .ok (.if_icmp .gt 41, 3) := by decide +kernel
theorem dX6_pane_15 : decode cX6_pane 15 = .ok (.iload_n 3, 1) := by decide +kernel
theorem dX6_pane_16 : decode cX6_pane 16 = .ok (.ifCond .lt 37, 3) := by decide +kernel
theorem dX6_pane_19 : decode cX6_pane 19 = .ok (.iload_n 3, 1) := by decide +kernel
theorem dX6_pane_20 : decode cX6_pane 20 = .ok (.bipush 100, 2) := by decide +kernel
theorem dX6_pane_22 : decode cX6_pane 22 = .ok (.if_icmp .gt 31, 3) := by decide +kernel
theorem dX6_pane_25 : decode cX6_pane 25 = .ok (.iload_n 2, 1) := by decide +kernel
theorem dX6_pane_26 : decode cX6_pane 26 = .ok (.iconst 1, 1) := by decide +kernel
theorem dX6_pane_27 : decode cX6_pane 27 = .ok (.if_icmp .lt 26, 3) := by decide +kernel
theorem dX6_pane_30 : decode cX6_pane 30 = .ok (.iload_n 2, 1) := by decide +kernel
theorem dX6_pane_31 : decode cX6_pane 31 = .ok (.bipush 100, 2) := by decide +kernel
theorem dX6_pane_33 : decode cX6_pane 33 = .ok (.if_icmp .gt 20, 3) := by decide +kernel
theorem dX6_pane_36 : decode cX6_pane 36 = .ok (.iload 4, 2) := by decide +kernel
theorem dX6_pane_38 : decode cX6_pane 38 = .ok (.iconst 1, 1) := by decide +kernel
theorem dX6_pane_39 : decode cX6_pane 39 = .ok (.if_icmp .lt 14, 3) := by decide +kernel
theorem dX6_pane_42 : decode cX6_pane 42 = .ok (.iload 4, 2) := by decide +kernel
theorem dX6_pane_44 : decode cX6_pane 44 = .ok (.bipush 100, 2) := by decide +kernel
theorem dX6_pane_46 : decode cX6_pane 46 = .ok (.if_icmp .gt 7, 3) := by decide +kernel
theorem dX6_pane_49 : decode cX6_pane 49 = .ok (.iconst 1, 1) := by decide +kernel
theorem dX6_pane_50 : decode cX6_pane 50 = .ok (.goto 4, 3) := by decide +kernel
theorem dX6_pane_53 : decode cX6_pane 53 = .ok (.iconst 0, 1) := by decide +kernel
theorem dX6_pane_54 : decode cX6_pane 54 = .ok (.istore 5, 2) := by decide +kernel
theorem dX6_pane_56 : decode cX6_pane 56 = .ok (.aload_n 0, 1) := by decide +kernel
theorem dX6_pane_57 : decode cX6_pane 57 = .ok (.iload 5, 2) := by decide +kernel
theorem dX6_pane_59 : decode cX6_pane 59 = .ok (.ifCond .eq 22, 3) := by decide +kernel
theorem dX6_pane_62 : decode cX6_pane 62 = .ok (.iload_n 1, 1) := by decide +kernel
theorem dX6_pane_63 : decode cX6_pane 63 = .ok (.iload 4, 2) := by decide +kernel
theorem dX6_pane_65 : decode cX6_pane 65 = .ok (.imul, 1) := by decide +kernel
theorem dX6_pane_66 : decode cX6_pane 66 = .ok (.iload_n 3, 1) := by decide +kernel
theorem dX6_pane_67 : decode cX6_pane 67 = .ok (.iload_n 2, 1) := by decide +kernel
theorem dX6_pane_68 : decode cX6_pane 68 = .ok (.imul, 1) := by decide +kernel
theorem dX6_pane_69 : decode cX6_pane 69 = .ok (.iadd, 1) := by decide +kernel
theorem dX6_pane_70 : decode cX6_pane 70 = .ok (.iload_n 2, 1) := by decide +kernel
theorem dX6_pane_71 : decode cX6_pane 71 = .ok (.iload 4, 2) := by decide +kernel
theorem dX6_pane_73 : decode cX6_pane 73 = .ok (.imul, 1) := by decide +kernel
theorem dX6_pane_74 : decode cX6_pane 74 = .ok (.if_icmp .gt 7, 3) := by decide +kernel
theorem dX6_pane_77 : decode cX6_pane 77 = .ok (.iconst 1, 1) := by decide +kernel
theorem dX6_pane_78 : decode cX6_pane 78 = .ok (.goto 4, 3) := by decide +kernel
theorem dX6_pane_81 : decode cX6_pane 81 = .ok (.iconst 0, 1) := by decide +kernel
theorem dX6_pane_82 : decode cX6_pane 82 = .ok (.iconst 1, 1) := by decide +kernel
theorem dX6_pane_83 : decode cX6_pane 83 = .ok (.invokevirtual 68, 3) := by decide +kernel
theorem dX6_pane_86 : decode cX6_pane 86 = .ok (.ifCond .ne 5, 3) := by decide +kernel
theorem dX6_pane_89 : decode cX6_pane 89 = .ok (.iconst 0, 1) := by decide +kernel
theorem dX6_pane_90 : decode cX6_pane 90 = .ok (.ireturn, 1) := by decide +kernel
theorem dX6_pane_91 : decode cX6_pane 91 = .ok (.aload_n 0, 1) := by decide +kernel
theorem dX6_pane_92 : decode cX6_pane 92 = .ok (.getfield 189, 3) := by decide +kernel
theorem dX6_pane_95 : decode cX6_pane 95 = .ok (.bipush 8, 2) := by decide +kernel
theorem dX6_pane_97 : decode cX6_pane 97 = .ok (.if_icmp .ne 5, 3) := by decide +kernel
theorem dX6_pane_100 : decode cX6_pane 100 = .ok (.iconst (-1), 1) := by decide +kernel
theorem dX6_pane_101 : decode cX6_pane 101 = .ok (.ireturn, 1) := by decide +kernel
theorem dX6_pane_102 : decode cX6_pane 102 = .ok (.aload_n 0, 1) := by decide +kernel
theorem dX6_pane_103 : decode cX6_pane 103 = .ok (.getfield 44, 3) := by decide +kernel
theorem dX6_pane_106 : decode cX6_pane 106 = .ok (.aload_n 0, 1) := by decide +kernel
theorem dX6_pane_107 : decode cX6_pane 107 = .ok (.getfield 189, 3) := by decide +kernel
theorem dX6_pane_110 : decode cX6_pane 110 = .ok (.iload_n 1, 1) := by decide +kernel
theorem dX6_pane_111 : decode cX6_pane 111 = .ok (.iastore, 1) := by decide +kernel
theorem dX6_pane_112 : decode cX6_pane 112 = .ok (.aload_n 0, 1) := by decide +kernel
theorem dX6_pane_113 : decode cX6_pane 113 = .ok (.getfield 47, 3) := by decide +kernel
theorem dX6_pane_116 : decode cX6_pane 116 = .ok (.aload_n 0, 1) := by decide +kernel
theorem dX6_pane_117 : decode cX6_pane 117 = .ok (.getfield 189, 3) := by decide +kernel
theorem dX6_pane_120 : decode cX6_pane 120 = .ok (.iload_n 2, 1) := by decide +kernel
theorem dX6_pane_121 : decode cX6_pane 121 = .ok (.iastore, 1) := by decide +kernel
theorem dX6_pane_122 : decode cX6_pane 122 = .ok (.aload_n 0, 1) := by decide +kernel
theorem dX6_pane_123 : decode cX6_pane 123 = .ok (.getfield 50, 3) := by decide +kernel
theorem dX6_pane_126 : decode cX6_pane 126 = .ok (.aload_n 0, 1) := by decide +kernel
theorem dX6_pane_127 : decode cX6_pane 127 = .ok (.getfield 189, 3) := by decide +kernel
theorem dX6_pane_130 : decode cX6_pane 130 = .ok (.iload_n 3, 1) := by decide +kernel
theorem dX6_pane_131 : decode cX6_pane 131 = .ok (.iastore, 1) := by decide +kernel
theorem dX6_pane_132 : decode cX6_pane 132 = .ok (.aload_n 0, 1) := by decide +kernel
theorem dX6_pane_133 : decode cX6_pane 133 = .ok (.getfield 53, 3) := by decide +kernel
theorem dX6_pane_136 : decode cX6_pane 136 = .ok (.aload_n 0, 1) := by decide +kernel
theorem dX6_pane_137 : decode cX6_pane 137 = .ok (.getfield 189, 3) := by decide +kernel
theorem dX6_pane_140 : decode cX6_pane 140 = .ok (.iload 4, 2) := by decide +kernel
theorem dX6_pane_142 : decode cX6_pane 142 = .ok (.iastore, 1) := by decide +kernel
theorem dX6_pane_143 : decode cX6_pane 143 = .ok (.aload_n 0, 1) := by decide +kernel
theorem dX6_pane_144 : decode cX6_pane 144 = .ok (.dup, 1) := by decide +kernel
theorem dX6_pane_145 : decode cX6_pane 145 = .ok (.getfield 189, 3) := by decide +kernel
theorem dX6_pane_148 : decode cX6_pane 148 = .ok (.iconst 1, 1) := by decide +kernel
theorem dX6_pane_149 : decode cX6_pane 149 = .ok (.iadd, 1) := by decide +kernel
theorem dX6_pane_150 : decode cX6_pane 150 = .ok (.putfield 189, 3) := by decide +kernel
theorem dX6_pane_153 : decode cX6_pane 153 = .ok (.aload_n 0, 1) := by decide +kernel
theorem dX6_pane_154 : decode cX6_pane 154 = .ok (.getfield 189, 3) := by decide +kernel
theorem dX6_pane_157 : decode cX6_pane 157 = .ok (.ireturn, 1) := by decide +kernel
theorem dX6_clear_0 : decode cX6_clear 0 = .ok (.aload_n 0, 1) := by decide +kernel
theorem dX6_clear_1 : decode cX6_clear 1 = .ok (.iconst 0, 1) := by decide +kernel
theorem dX6_clear_2 : decode cX6_clear 2 = .ok (.putfield 65, 3) := by decide +kernel
theorem dX6_clear_5 : decode cX6_clear 5 = .ok (.aload_n 0, 1) := by decide +kernel
theorem dX6_clear_6 : decode cX6_clear 6 = .ok (.getfield 189, 3) := by decide +kernel
theorem dX6_clear_9 : decode cX6_clear 9 = .ok (.istore_n 1, 1) := by decide +kernel
theorem dX6_clear_10 : decode cX6_clear 10 = .ok (.aload_n 0, 1) := by decide +kernel
theorem dX6_clear_11 : decode cX6_clear 11 = .ok (.iconst 0, 1) := by decide +kernel
theorem dX6_clear_12 : decode cX6_clear 12 = .ok (.putfield 189, 3) := by decide +kernel
theorem dX6_clear_15 : decode cX6_clear 15 = .ok (.iload_n 1, 1) := by decide +kernel
theorem dX6_clear_16 : decode cX6_clear 16 = .ok (.ireturn, 1) := by decide +kernel
set_option maxRecDepth 20000 in
theorem ggX6_paneOn_X6_copy : GoodIn wsX6_paneOn wsX6_copy := goodIn_r _ [10, 11, 12, 5, 70, 71, 72, 73, 74, 75, 76, 77, 78, 79, 80, 81, 82, 83, 84, 85, 86, 87, 88, 89, 90, 91] rfl rfl
set_option maxRecDepth 20000 in
theorem gX6_paneOn_X6_copy : GoodIn wsX6_paneOn (wsV RX6 81 RX6 yX6_copy wsX6_copy) := goodIn_app (goodIn_r _ [6, 7, 8, 9] rfl rfl) ggX6_paneOn_X6_copy
set_option maxRecDepth 20000 in
theorem ggX6_paneOn_X6_by : GoodIn wsX6_paneOn wsX6_by := goodIn_r _ [16, 17, 18, 19, 9, 20, 5, 11, 12, 21, 22, 23, 24, 25, 26, 27, 28, 29, 30, 31, 32, 33, 6, 7, 8, 10, 70, 71, 72, 73, 74, 75, 76, 77, 78, 79, 80, 81, 82, 83, 84, 85, 86, 87, 88, 89, 90, 91] rfl rfl
set_option maxRecDepth 20000 in
theorem gX6_paneOn_X6_by : GoodIn wsX6_paneOn (wsV RX6 133 RX6 yX6_by wsX6_by) := goodIn_app (goodIn_r _ [13, 14, 15, 9] rfl rfl) ggX6_paneOn_X6_by
set_option maxRecDepth 20000 in
theorem ggX6_paneOn_X6_minus : GoodIn wsX6_paneOn wsX6_minus := goodIn_r _ [37, 5, 38, 39, 40, 9, 41, 11, 12, 6, 7, 8, 10, 26, 27, 28, 29, 30, 31, 32, 33, 42, 43, 44, 45, 70, 71, 72, 73, 74, 75, 76, 77, 78, 79, 80, 81, 82, 83, 84, 85, 86, 87, 88, 89, 90, 91] rfl rfl
set_option maxRecDepth 20000 in
theorem gX6_paneOn_X6_minus : GoodIn wsX6_paneOn (wsV RX6 108 RX6 yX6_minus wsX6_minus) := goodIn_app (goodIn_r _ [34, 35, 36, 9] rfl rfl) ggX6_paneOn_X6_minus
set_option maxRecDepth 20000 in
theorem ggX6_paneOn_X6_set : GoodIn wsX6_paneOn wsX6_set := goodIn_r _ [20, 5, 11, 12, 21, 70, 71, 72, 73, 74, 75, 76, 77, 78, 79, 80, 81, 82, 83, 84, 85, 86, 87, 88, 89, 90, 91] rfl rfl
set_option maxRecDepth 20000 in
theorem gX6_paneOn_X6_set : GoodIn wsX6_paneOn (wsV RX6 92 RX6 yX6_set wsX6_set) := goodIn_app (goodIn_r _ [17, 18, 19, 9] rfl rfl) ggX6_paneOn_X6_set
set_option maxRecDepth 20000 in
theorem ggX6_paneOn_X6_times : GoodIn wsX6_paneOn wsX6_times := goodIn_r _ [25, 11, 12, 21, 5, 26, 27, 28, 9, 29, 30, 31, 32, 33, 70, 71, 72, 73, 74, 75, 76, 77, 78, 79, 80, 81, 82, 83, 84, 85, 86, 87, 88, 89, 90, 91] rfl rfl
set_option maxRecDepth 20000 in
theorem gX6_paneOn_X6_times : GoodIn wsX6_paneOn (wsV RX6 96 RX6 yX6_times wsX6_times) := goodIn_app (goodIn_r _ [22, 23, 24, 9] rfl rfl) ggX6_paneOn_X6_times
set_option maxRecDepth 20000 in
theorem ggX6_paneOn_X6_plus : GoodIn wsX6_paneOn wsX6_plus := goodIn_r _ [49, 5, 38, 39, 40, 9, 41, 11, 12, 6, 7, 8, 10, 26, 27, 28, 29, 30, 31, 32, 33, 42, 43, 44, 45, 70, 71, 72, 73, 74, 75, 76, 77, 78, 79, 80, 81, 82, 83, 84, 85, 86, 87, 88, 89, 90, 91] rfl rfl
set_option maxRecDepth 20000 in
theorem gX6_paneOn_X6_plus : GoodIn wsX6_paneOn (wsV RX6 111 RX6 yX6_plus wsX6_plus) := goodIn_app (goodIn_r _ [46, 47, 48, 9] rfl rfl) ggX6_paneOn_X6_plus
set_option maxRecDepth 20000 in
theorem ggX6_paneOn_X6_shorten : GoodIn wsX6_paneOn wsX6_shorten := goodIn_r _ [53, 5, 17, 18, 19, 9, 20, 11, 12, 21, 54, 55, 56, 57, 6, 7, 8, 10, 58, 59, 60, 61, 26, 27, 28, 29, 62, 63, 64, 65, 30, 31, 32, 33, 42, 43, 44, 45, 34, 35, 36, 37, 38, 39, 40, 41, 46, 47, 48, 49, 66, 67, 68, 69, 70, 71, 72, 73, 74, 75, 76, 77, 78, 79, 80, 81, 82, 83, 84, 85, 86, 87, 88, 89, 90, 91] rfl rfl
set_option maxRecDepth 20000 in
theorem gX6_paneOn_X6_shorten : GoodIn wsX6_paneOn (wsV RX6 162 RX6 yX6_shorten wsX6_shorten) := goodIn_app (goodIn_r _ [50, 51, 52, 9] rfl rfl) ggX6_paneOn_X6_shorten
theorem dX6_paneOn_0 : decode cX6_paneOn 0 = .ok (.aload_n 0, 1) := by decide +kernel
theorem dX6_paneOn_1 : decode cX6_paneOn 1 = .ok (.getfield 44, 3) := by decide +kernel
theorem dX6_paneOn_4 : decode cX6_paneOn 4 = .ok (.iload_n 1, 1) := by decide +kernel
theorem dX6_paneOn_5 : decode cX6_paneOn 5 = .ok (.iaload, 1) := by decide +kernel
theorem dX6_paneOn_6 : decode cX6_paneOn 6 = .ok (.i2l, 1) := by decide +kernel
theorem dX6_paneOn_7 : decode cX6_paneOn 7 = .ok (.lstore_n 2, 1) := by decide +kernel
theorem dX6_paneOn_8 : decode cX6_paneOn 8 = .ok (.aload_n 0, 1) := by decide +kernel
theorem dX6_paneOn_9 : decode cX6_paneOn 9 = .ok (.getfield 47, 3) := by decide +kernel
theorem dX6_paneOn_12 : decode cX6_paneOn 12 = .ok (.iload_n 1, 1) := by decide +kernel
theorem dX6_paneOn_13 : decode cX6_paneOn 13 = .ok (.iaload, 1) := by decide +kernel
theorem dX6_paneOn_14 : decode cX6_paneOn 14 = .ok (.i2l, 1) := by decide +kernel
theorem dX6_paneOn_15 : decode cX6_paneOn 15 = .ok (.lstore 4, 2) := by decide +kernel
theorem dX6_paneOn_17 : decode cX6_paneOn 17 = .ok (.aload_n 0, 1) := by decide +kernel
theorem dX6_paneOn_18 : decode cX6_paneOn 18 = .ok (.getfield 50, 3) := by decide +kernel
theorem dX6_paneOn_21 : decode cX6_paneOn 21 = .ok (.iload_n 1, 1) := by decide +kernel
theorem dX6_paneOn_22 : decode cX6_paneOn 22 = .ok (.iaload, 1) := by decide +kernel
theorem dX6_paneOn_23 : decode cX6_paneOn 23 = .ok (.i2l, 1) := by decide +kernel
theorem dX6_paneOn_24 : decode cX6_paneOn 24 = .ok (.lstore 6, 2) := by decide +kernel
theorem dX6_paneOn_26 : decode cX6_paneOn 26 = .ok (.aload_n 0, 1) := by decide +kernel
theorem dX6_paneOn_27 : decode cX6_paneOn 27 = .ok (.getfield 53, 3) := by decide +kernel
theorem dX6_paneOn_30 : decode cX6_paneOn 30 = .ok (.iload_n 1, 1) := by decide +kernel
theorem dX6_paneOn_31 : decode cX6_paneOn 31 = .ok (.iaload, 1) := by decide +kernel
theorem dX6_paneOn_32 : decode cX6_paneOn 32 = .ok (.i2l, 1) := by decide +kernel
theorem dX6_paneOn_33 : decode cX6_paneOn 33 = .ok (.lstore 8, 2) := by decide +kernel
theorem dX6_paneOn_35 : decode cX6_paneOn 35 = .ok (.aload_n 0, 1) := by decide +kernel
theorem dX6_paneOn_36 : decode cX6_paneOn 36 = .ok (.bipush 32, 2) := by decide +kernel
theorem dX6_paneOn_38 : decode cX6_paneOn 38 = .ok (.bipush 29, 2) := by decide +kernel
theorem dX6_paneOn_40 : decode cX6_paneOn 40 = .ok (.invokevirtual 81, 3) := by decide +kernel
theorem dX6_paneOn_43 : decode cX6_paneOn 43 = .ok (.aload_n 0, 1) := by decide +kernel
theorem dX6_paneOn_44 : decode cX6_paneOn 44 = .ok (.bipush 32, 2) := by decide +kernel
theorem dX6_paneOn_46 : decode cX6_paneOn 46 = .ok (.lload 4, 2) := by decide +kernel
theorem dX6_paneOn_48 : decode cX6_paneOn 48 = .ok (.invokevirtual 133, 3) := by decide +kernel
theorem dX6_paneOn_51 : decode cX6_paneOn 51 = .ok (.aload_n 0, 1) := by decide +kernel
theorem dX6_paneOn_52 : decode cX6_paneOn 52 = .ok (.bipush 33, 2) := by decide +kernel
theorem dX6_paneOn_54 : decode cX6_paneOn 54 = .ok (.bipush 28, 2) := by decide +kernel
theorem dX6_paneOn_56 : decode cX6_paneOn 56 = .ok (.invokevirtual 81, 3) := by decide +kernel
theorem dX6_paneOn_59 : decode cX6_paneOn 59 = .ok (.aload_n 0, 1) := by decide +kernel
theorem dX6_paneOn_60 : decode cX6_paneOn 60 = .ok (.bipush 33, 2) := by decide +kernel
theorem dX6_paneOn_62 : decode cX6_paneOn 62 = .ok (.lload_n 2, 1) := by decide +kernel
theorem dX6_paneOn_63 : decode cX6_paneOn 63 = .ok (.invokevirtual 133, 3) := by decide +kernel
theorem dX6_paneOn_66 : decode cX6_paneOn 66 = .ok (.aload_n 0, 1) := by decide +kernel
theorem dX6_paneOn_67 : decode cX6_paneOn 67 = .ok (.bipush 32, 2) := by decide +kernel
theorem dX6_paneOn_69 : decode cX6_paneOn 69 = .ok (.bipush 32, 2) := by decide +kernel
theorem dX6_paneOn_71 : decode cX6_paneOn 71 = .ok (.bipush 33, 2) := by decide +kernel
theorem dX6_paneOn_73 : decode cX6_paneOn 73 = .ok (.invokevirtual 108, 3) := by decide +kernel
theorem dX6_paneOn_76 : decode cX6_paneOn 76 = .ok (.aload_n 0, 1) := by decide +kernel
theorem dX6_paneOn_77 : decode cX6_paneOn 77 = .ok (.getfield 62, 3) := by decide +kernel
theorem dX6_paneOn_80 : decode cX6_paneOn 80 = .ok (.bipush 32, 2) := by decide +kernel
theorem dX6_paneOn_82 : decode cX6_paneOn 82 = .ok (.iaload, 1) := by decide +kernel
theorem dX6_paneOn_83 : decode cX6_paneOn 83 = .ok (.ifCond .ne 33, 3) := by decide +kernel
theorem dX6_paneOn_86 : decode cX6_paneOn 86 = .ok (.aload_n 0, 1) := by decide +kernel
theorem dX6_paneOn_87 : decode cX6_paneOn 87 = .ok (.bipush 28, 2) := by decide +kernel
theorem dX6_paneOn_89 : decode cX6_paneOn 89 = .ok (.lload_n 2, 1) := by decide +kernel
theorem dX6_paneOn_90 : decode cX6_paneOn 90 = .ok (.invokevirtual 92, 3) := by decide +kernel
theorem dX6_paneOn_93 : decode cX6_paneOn 93 = .ok (.aload_n 0, 1) := by decide +kernel
theorem dX6_paneOn_94 : decode cX6_paneOn 94 = .ok (.bipush 29, 2) := by decide +kernel
theorem dX6_paneOn_96 : decode cX6_paneOn 96 = .ok (.lload 4, 2) := by decide +kernel
theorem dX6_paneOn_98 : decode cX6_paneOn 98 = .ok (.invokevirtual 92, 3) := by decide +kernel
theorem dX6_paneOn_101 : decode cX6_paneOn 101 = .ok (.aload_n 0, 1) := by decide +kernel
theorem dX6_paneOn_102 : decode cX6_paneOn 102 = .ok (.bipush 30, 2) := by decide +kernel
theorem dX6_paneOn_104 : decode cX6_paneOn 104 = .ok (.lconst 0, 1) := by decide +kernel
theorem dX6_paneOn_105 : decode cX6_paneOn 105 = .ok (.invokevirtual 92, 3) := by decide +kernel
theorem dX6_paneOn_108 : decode cX6_paneOn 108 = .ok (.aload_n 0, 1) := by decide +kernel
theorem dX6_paneOn_109 : decode cX6_paneOn 109 = .ok (.bipush 31, 2) := by decide +kernel
theorem dX6_paneOn_111 : decode cX6_paneOn 111 = .ok (.lconst 1, 1) := by decide +kernel
theorem dX6_paneOn_112 : decode cX6_paneOn 112 = .ok (.invokevirtual 92, 3) := by decide +kernel
theorem dX6_paneOn_115 : decode cX6_paneOn 115 = .ok (.return_, 1) := by decide +kernel
theorem dX6_paneOn_116 : decode cX6_paneOn 116 = .ok (.aload_n 0, 1) := by decide +kernel
theorem dX6_paneOn_117 : decode cX6_paneOn 117 = .ok (.bipush 10, 2) := by decide +kernel
theorem dX6_paneOn_119 : decode cX6_paneOn 119 = .ok (.bipush 30, 2) := by decide +kernel
theorem dX6_paneOn_121 : decode cX6_paneOn 121 = .ok (.bipush 30, 2) := by decide +kernel
theorem dX6_paneOn_123 : decode cX6_paneOn 123 = .ok (.invokevirtual 96, 3) := by decide +kernel
theorem dX6_paneOn_126 : decode cX6_paneOn 126 = .ok (.aload_n 0, 1) := by decide +kernel
theorem dX6_paneOn_127 : decode cX6_paneOn 127 = .ok (.bipush 10, 2) := by decide +kernel
theorem dX6_paneOn_129 : decode cX6_paneOn 129 = .ok (.lload_n 2, 1) := by decide +kernel
theorem dX6_paneOn_130 : decode cX6_paneOn 130 = .ok (.invokevirtual 133, 3) := by decide +kernel
theorem dX6_paneOn_133 : decode cX6_paneOn 133 = .ok (.aload_n 0, 1) := by decide +kernel
theorem dX6_paneOn_134 : decode cX6_paneOn 134 = .ok (.bipush 11, 2) := by decide +kernel
theorem dX6_paneOn_136 : decode cX6_paneOn 136 = .ok (.bipush 10, 2) := by decide +kernel
theorem dX6_paneOn_138 : decode cX6_paneOn 138 = .ok (.bipush 29, 2) := by decide +kernel
theorem dX6_paneOn_140 : decode cX6_paneOn 140 = .ok (.invokevirtual 96, 3) := by decide +kernel
theorem dX6_paneOn_143 : decode cX6_paneOn 143 = .ok (.aload_n 0, 1) := by decide +kernel
theorem dX6_paneOn_144 : decode cX6_paneOn 144 = .ok (.bipush 10, 2) := by decide +kernel
theorem dX6_paneOn_146 : decode cX6_paneOn 146 = .ok (.bipush 31, 2) := by decide +kernel
theorem dX6_paneOn_148 : decode cX6_paneOn 148 = .ok (.bipush 31, 2) := by decide +kernel
theorem dX6_paneOn_150 : decode cX6_paneOn 150 = .ok (.invokevirtual 96, 3) := by decide +kernel
theorem dX6_paneOn_153 : decode cX6_paneOn 153 = .ok (.aload_n 0, 1) := by decide +kernel
theorem dX6_paneOn_154 : decode cX6_paneOn 154 = .ok (.bipush 12, 2) := by decide +kernel
theorem dX6_paneOn_156 : decode cX6_paneOn 156 = .ok (.bipush 10, 2) := by decide +kernel
theorem dX6_paneOn_158 : decode cX6_paneOn 158 = .ok (.bipush 32, 2) := by decide +kernel
theorem dX6_paneOn_160 : decode cX6_paneOn 160 = .ok (.invokevirtual 96, 3) := by decide +kernel
theorem dX6_paneOn_163 : decode cX6_paneOn 163 = .ok (.aload_n 0, 1) := by decide +kernel
theorem dX6_paneOn_164 : decode cX6_paneOn 164 = .ok (.bipush 10, 2) := by decide +kernel
theorem dX6_paneOn_166 : decode cX6_paneOn 166 = .ok (.bipush 26, 2) := by decide +kernel
theorem dX6_paneOn_168 : decode cX6_paneOn 168 = .ok (.bipush 12, 2) := by decide +kernel
theorem dX6_paneOn_170 : decode cX6_paneOn 170 = .ok (.invokevirtual 96, 3) := by decide +kernel
theorem dX6_paneOn_173 : decode cX6_paneOn 173 = .ok (.aload_n 0, 1) := by decide +kernel
theorem dX6_paneOn_174 : decode cX6_paneOn 174 = .ok (.bipush 13, 2) := by decide +kernel
theorem dX6_paneOn_176 : decode cX6_paneOn 176 = .ok (.bipush 11, 2) := by decide +kernel
theorem dX6_paneOn_178 : decode cX6_paneOn 178 = .ok (.bipush 27, 2) := by decide +kernel
theorem dX6_paneOn_180 : decode cX6_paneOn 180 = .ok (.invokevirtual 96, 3) := by decide +kernel
theorem dX6_paneOn_183 : decode cX6_paneOn 183 = .ok (.aload_n 0, 1) := by decide +kernel
theorem dX6_paneOn_184 : decode cX6_paneOn 184 = .ok (.bipush 35, 2) := by decide +kernel
theorem dX6_paneOn_186 : decode cX6_paneOn 186 = .ok (.bipush 10, 2) := by decide +kernel
theorem dX6_paneOn_188 : decode cX6_paneOn 188 = .ok (.bipush 13, 2) := by decide +kernel
theorem dX6_paneOn_190 : decode cX6_paneOn 190 = .ok (.invokevirtual 111, 3) := by decide +kernel
theorem dX6_paneOn_193 : decode cX6_paneOn 193 = .ok (.aload_n 0, 1) := by decide +kernel
theorem dX6_paneOn_194 : decode cX6_paneOn 194 = .ok (.bipush 36, 2) := by decide +kernel
theorem dX6_paneOn_196 : decode cX6_paneOn 196 = .ok (.bipush 27, 2) := by decide +kernel
theorem dX6_paneOn_198 : decode cX6_paneOn 198 = .ok (.bipush 12, 2) := by decide +kernel
theorem dX6_paneOn_200 : decode cX6_paneOn 200 = .ok (.invokevirtual 96, 3) := by decide +kernel
theorem dX6_paneOn_203 : decode cX6_paneOn 203 = .ok (.aload_n 0, 1) := by decide +kernel
theorem dX6_paneOn_204 : decode cX6_paneOn 204 = .ok (.bipush 26, 2) := by decide +kernel
theorem dX6_paneOn_206 : decode cX6_paneOn 206 = .ok (.bipush 35, 2) := by decide +kernel
theorem dX6_paneOn_208 : decode cX6_paneOn 208 = .ok (.invokevirtual 81, 3) := by decide +kernel
theorem dX6_paneOn_211 : decode cX6_paneOn 211 = .ok (.aload_n 0, 1) := by decide +kernel
theorem dX6_paneOn_212 : decode cX6_paneOn 212 = .ok (.bipush 27, 2) := by decide +kernel
theorem dX6_paneOn_214 : decode cX6_paneOn 214 = .ok (.bipush 36, 2) := by decide +kernel
theorem dX6_paneOn_216 : decode cX6_paneOn 216 = .ok (.invokevirtual 81, 3) := by decide +kernel
theorem dX6_paneOn_219 : decode cX6_paneOn 219 = .ok (.aload_n 0, 1) := by decide +kernel
theorem dX6_paneOn_220 : decode cX6_paneOn 220 = .ok (.bipush 26, 2) := by decide +kernel
theorem dX6_paneOn_222 : decode cX6_paneOn 222 = .ok (.bipush 27, 2) := by decide +kernel
theorem dX6_paneOn_224 : decode cX6_paneOn 224 = .ok (.invokevirtual 162, 3) := by decide +kernel
theorem dX6_paneOn_227 : decode cX6_paneOn 227 = .ok (.aload_n 0, 1) := by decide +kernel
theorem dX6_paneOn_228 : decode cX6_paneOn 228 = .ok (.bipush 10, 2) := by decide +kernel
theorem dX6_paneOn_230 : decode cX6_paneOn 230 = .ok (.bipush 30, 2) := by decide +kernel
theorem dX6_paneOn_232 : decode cX6_paneOn 232 = .ok (.bipush 29, 2) := by decide +kernel
theorem dX6_paneOn_234 : decode cX6_paneOn 234 = .ok (.invokevirtual 96, 3) := by decide +kernel
theorem dX6_paneOn_237 : decode cX6_paneOn 237 = .ok (.aload_n 0, 1) := by decide +kernel
theorem dX6_paneOn_238 : decode cX6_paneOn 238 = .ok (.bipush 10, 2) := by decide +kernel
theorem dX6_paneOn_240 : decode cX6_paneOn 240 = .ok (.lload 6, 2) := by decide +kernel
theorem dX6_paneOn_242 : decode cX6_paneOn 242 = .ok (.lload 4, 2) := by decide +kernel
theorem dX6_paneOn_244 : decode cX6_paneOn 244 = .ok (.lmul, 1) := by decide +kernel
theorem dX6_paneOn_245 : decode cX6_paneOn 245 = .ok (.invokevirtual 133, 3) := by decide +kernel
theorem dX6_paneOn_248 : decode cX6_paneOn 248 = .ok (.aload_n 0, 1) := by decide +kernel
theorem dX6_paneOn_249 : decode cX6_paneOn 249 = .ok (.bipush 11, 2) := by decide +kernel
theorem dX6_paneOn_251 : decode cX6_paneOn 251 = .ok (.bipush 31, 2) := by decide +kernel
theorem dX6_paneOn_253 : decode cX6_paneOn 253 = .ok (.bipush 32, 2) := by decide +kernel
theorem dX6_paneOn_255 : decode cX6_paneOn 255 = .ok (.invokevirtual 96, 3) := by decide +kernel
theorem dX6_paneOn_258 : decode cX6_paneOn 258 = .ok (.aload_n 0, 1) := by decide +kernel
theorem dX6_paneOn_259 : decode cX6_paneOn 259 = .ok (.bipush 11, 2) := by decide +kernel
theorem dX6_paneOn_261 : decode cX6_paneOn 261 = .ok (.lload 8, 2) := by decide +kernel
theorem dX6_paneOn_263 : decode cX6_paneOn 263 = .ok (.invokevirtual 133, 3) := by decide +kernel
theorem dX6_paneOn_266 : decode cX6_paneOn 266 = .ok (.aload_n 0, 1) := by decide +kernel
theorem dX6_paneOn_267 : decode cX6_paneOn 267 = .ok (.bipush 30, 2) := by decide +kernel
theorem dX6_paneOn_269 : decode cX6_paneOn 269 = .ok (.bipush 10, 2) := by decide +kernel
theorem dX6_paneOn_271 : decode cX6_paneOn 271 = .ok (.invokevirtual 81, 3) := by decide +kernel
theorem dX6_paneOn_274 : decode cX6_paneOn 274 = .ok (.aload_n 0, 1) := by decide +kernel
theorem dX6_paneOn_275 : decode cX6_paneOn 275 = .ok (.bipush 31, 2) := by decide +kernel
theorem dX6_paneOn_277 : decode cX6_paneOn 277 = .ok (.bipush 11, 2) := by decide +kernel
theorem dX6_paneOn_279 : decode cX6_paneOn 279 = .ok (.invokevirtual 81, 3) := by decide +kernel
theorem dX6_paneOn_282 : decode cX6_paneOn 282 = .ok (.aload_n 0, 1) := by decide +kernel
theorem dX6_paneOn_283 : decode cX6_paneOn 283 = .ok (.bipush 30, 2) := by decide +kernel
theorem dX6_paneOn_285 : decode cX6_paneOn 285 = .ok (.bipush 31, 2) := by decide +kernel
theorem dX6_paneOn_287 : decode cX6_paneOn 287 = .ok (.invokevirtual 162, 3) := by decide +kernel
theorem dX6_paneOn_290 : decode cX6_paneOn 290 = .ok (.aload_n 0, 1) := by decide +kernel
theorem dX6_paneOn_291 : decode cX6_paneOn 291 = .ok (.bipush 10, 2) := by decide +kernel
theorem dX6_paneOn_293 : decode cX6_paneOn 293 = .ok (.bipush 28, 2) := by decide +kernel
theorem dX6_paneOn_295 : decode cX6_paneOn 295 = .ok (.invokevirtual 81, 3) := by decide +kernel
theorem dX6_paneOn_298 : decode cX6_paneOn 298 = .ok (.aload_n 0, 1) := by decide +kernel
theorem dX6_paneOn_299 : decode cX6_paneOn 299 = .ok (.bipush 10, 2) := by decide +kernel
theorem dX6_paneOn_301 : decode cX6_paneOn 301 = .ok (.lload 6, 2) := by decide +kernel
theorem dX6_paneOn_303 : decode cX6_paneOn 303 = .ok (.lload 6, 2) := by decide +kernel
theorem dX6_paneOn_305 : decode cX6_paneOn 305 = .ok (.lmul, 1) := by decide +kernel
theorem dX6_paneOn_306 : decode cX6_paneOn 306 = .ok (.lload 4, 2) := by decide +kernel
theorem dX6_paneOn_308 : decode cX6_paneOn 308 = .ok (.lmul, 1) := by decide +kernel
theorem dX6_paneOn_309 : decode cX6_paneOn 309 = .ok (.lload 4, 2) := by decide +kernel
theorem dX6_paneOn_311 : decode cX6_paneOn 311 = .ok (.lmul, 1) := by decide +kernel
theorem dX6_paneOn_312 : decode cX6_paneOn 312 = .ok (.invokevirtual 133, 3) := by decide +kernel
theorem dX6_paneOn_315 : decode cX6_paneOn 315 = .ok (.aload_n 0, 1) := by decide +kernel
theorem dX6_paneOn_316 : decode cX6_paneOn 316 = .ok (.bipush 11, 2) := by decide +kernel
theorem dX6_paneOn_318 : decode cX6_paneOn 318 = .ok (.bipush 32, 2) := by decide +kernel
theorem dX6_paneOn_320 : decode cX6_paneOn 320 = .ok (.invokevirtual 81, 3) := by decide +kernel
theorem dX6_paneOn_323 : decode cX6_paneOn 323 = .ok (.aload_n 0, 1) := by decide +kernel
theorem dX6_paneOn_324 : decode cX6_paneOn 324 = .ok (.bipush 11, 2) := by decide +kernel
theorem dX6_paneOn_326 : decode cX6_paneOn 326 = .ok (.lload_n 2, 1) := by decide +kernel
theorem dX6_paneOn_327 : decode cX6_paneOn 327 = .ok (.lload 8, 2) := by decide +kernel
theorem dX6_paneOn_329 : decode cX6_paneOn 329 = .ok (.lmul, 1) := by decide +kernel
theorem dX6_paneOn_330 : decode cX6_paneOn 330 = .ok (.lload 8, 2) := by decide +kernel
theorem dX6_paneOn_332 : decode cX6_paneOn 332 = .ok (.lmul, 1) := by decide +kernel
theorem dX6_paneOn_333 : decode cX6_paneOn 333 = .ok (.invokevirtual 133, 3) := by decide +kernel
theorem dX6_paneOn_336 : decode cX6_paneOn 336 = .ok (.aload_n 0, 1) := by decide +kernel
theorem dX6_paneOn_337 : decode cX6_paneOn 337 = .ok (.bipush 28, 2) := by decide +kernel
theorem dX6_paneOn_339 : decode cX6_paneOn 339 = .ok (.bipush 10, 2) := by decide +kernel
theorem dX6_paneOn_341 : decode cX6_paneOn 341 = .ok (.bipush 11, 2) := by decide +kernel
theorem dX6_paneOn_343 : decode cX6_paneOn 343 = .ok (.invokevirtual 111, 3) := by decide +kernel
theorem dX6_paneOn_346 : decode cX6_paneOn 346 = .ok (.aload_n 0, 1) := by decide +kernel
theorem dX6_paneOn_347 : decode cX6_paneOn 347 = .ok (.bipush 29, 2) := by decide +kernel
theorem dX6_paneOn_349 : decode cX6_paneOn 349 = .ok (.bipush 32, 2) := by decide +kernel
theorem dX6_paneOn_351 : decode cX6_paneOn 351 = .ok (.invokevirtual 81, 3) := by decide +kernel
theorem dX6_paneOn_354 : decode cX6_paneOn 354 = .ok (.aload_n 0, 1) := by decide +kernel
theorem dX6_paneOn_355 : decode cX6_paneOn 355 = .ok (.bipush 29, 2) := by decide +kernel
theorem dX6_paneOn_357 : decode cX6_paneOn 357 = .ok (.lload 4, 2) := by decide +kernel
theorem dX6_paneOn_359 : decode cX6_paneOn 359 = .ok (.lload 8, 2) := by decide +kernel
theorem dX6_paneOn_361 : decode cX6_paneOn 361 = .ok (.lmul, 1) := by decide +kernel
theorem dX6_paneOn_362 : decode cX6_paneOn 362 = .ok (.lload 8, 2) := by decide +kernel
theorem dX6_paneOn_364 : decode cX6_paneOn 364 = .ok (.lmul, 1) := by decide +kernel
theorem dX6_paneOn_365 : decode cX6_paneOn 365 = .ok (.invokevirtual 133, 3) := by decide +kernel
theorem dX6_paneOn_368 : decode cX6_paneOn 368 = .ok (.aload_n 0, 1) := by decide +kernel
theorem dX6_paneOn_369 : decode cX6_paneOn 369 = .ok (.bipush 28, 2) := by decide +kernel
theorem dX6_paneOn_371 : decode cX6_paneOn 371 = .ok (.bipush 29, 2) := by decide +kernel
theorem dX6_paneOn_373 : decode cX6_paneOn 373 = .ok (.invokevirtual 162, 3) := by decide +kernel
theorem dX6_paneOn_376 : decode cX6_paneOn 376 = .ok (.return_, 1) := by decide +kernel
set_option maxRecDepth 20000 in
theorem ggX6_shares_X6_set : GoodIn wsX6_shares wsX6_set := goodIn_r _ [6, 7, 8, 9, 10, 75, 76, 77, 78, 79, 80, 81, 82, 83, 84, 85, 86, 87, 88, 89, 90, 91, 92, 93, 94, 95, 96] rfl rfl
set_option maxRecDepth 20000 in
theorem gX6_shares_X6_set : GoodIn wsX6_shares (wsV RX6 92 RX6 yX6_set wsX6_set) := goodIn_app (goodIn_r _ [2, 3, 4, 5] rfl rfl) ggX6_shares_X6_set
set_option maxRecDepth 20000 in
theorem ggX6_shares_X6_paneOn : GoodIn wsX6_shares wsX6_paneOn := goodIn_r _ [14, 15, 16, 17, 18, 7, 19, 20, 21, 5, 22, 8, 9, 23, 24, 25, 26, 2, 3, 4, 6, 10, 27, 28, 29, 30, 31, 32, 33, 34, 35, 36, 37, 38, 39, 40, 41, 42, 43, 44, 45, 46, 47, 48, 49, 50, 51, 52, 53, 54, 55, 56, 57, 58, 59, 60, 61, 62, 63, 64, 65, 66, 67, 68, 69, 70, 71, 72, 73, 74, 75, 76, 77, 78, 79, 80, 81, 82, 83, 84, 85, 86, 87, 88, 89, 90, 91, 92, 93, 94, 95, 96] rfl rfl
set_option maxRecDepth 20000 in
theorem gX6_shares_X6_paneOn : GoodIn wsX6_shares (wsV RX6 192 RX6 yX6_paneOn wsX6_paneOn) := goodIn_app (goodIn_r _ [11, 12, 13, 5] rfl rfl) ggX6_shares_X6_paneOn
theorem dX6_shares_0 : decode cX6_shares 0 = .ok (.aload_n 0, 1) := by decide +kernel
theorem dX6_shares_1 : decode cX6_shares 1 = .ok (.bipush 26, 2) := by decide +kernel
theorem dX6_shares_3 : decode cX6_shares 3 = .ok (.lconst 0, 1) := by decide +kernel
theorem dX6_shares_4 : decode cX6_shares 4 = .ok (.invokevirtual 92, 3) := by decide +kernel
theorem dX6_shares_7 : decode cX6_shares 7 = .ok (.aload_n 0, 1) := by decide +kernel
theorem dX6_shares_8 : decode cX6_shares 8 = .ok (.bipush 27, 2) := by decide +kernel
theorem dX6_shares_10 : decode cX6_shares 10 = .ok (.lconst 1, 1) := by decide +kernel
theorem dX6_shares_11 : decode cX6_shares 11 = .ok (.invokevirtual 92, 3) := by decide +kernel
theorem dX6_shares_14 : decode cX6_shares 14 = .ok (.aload_n 0, 1) := by decide +kernel
theorem dX6_shares_15 : decode cX6_shares 15 = .ok (.bipush 28, 2) := by decide +kernel
theorem dX6_shares_17 : decode cX6_shares 17 = .ok (.lconst 0, 1) := by decide +kernel
theorem dX6_shares_18 : decode cX6_shares 18 = .ok (.invokevirtual 92, 3) := by decide +kernel
theorem dX6_shares_21 : decode cX6_shares 21 = .ok (.aload_n 0, 1) := by decide +kernel
theorem dX6_shares_22 : decode cX6_shares 22 = .ok (.bipush 29, 2) := by decide +kernel
theorem dX6_shares_24 : decode cX6_shares 24 = .ok (.lconst 1, 1) := by decide +kernel
theorem dX6_shares_25 : decode cX6_shares 25 = .ok (.invokevirtual 92, 3) := by decide +kernel
theorem dX6_shares_28 : decode cX6_shares 28 = .ok (.aload_n 0, 1) := by decide +kernel
theorem dX6_shares_29 : decode cX6_shares 29 = .ok (.bipush 30, 2) := by decide +kernel
theorem dX6_shares_31 : decode cX6_shares 31 = .ok (.lconst 1, 1) := by decide +kernel
theorem dX6_shares_32 : decode cX6_shares 32 = .ok (.invokevirtual 92, 3) := by decide +kernel
theorem dX6_shares_35 : decode cX6_shares 35 = .ok (.aload_n 0, 1) := by decide +kernel
theorem dX6_shares_36 : decode cX6_shares 36 = .ok (.bipush 31, 2) := by decide +kernel
theorem dX6_shares_38 : decode cX6_shares 38 = .ok (.lconst 1, 1) := by decide +kernel
theorem dX6_shares_39 : decode cX6_shares 39 = .ok (.invokevirtual 92, 3) := by decide +kernel
theorem dX6_shares_42 : decode cX6_shares 42 = .ok (.iconst 0, 1) := by decide +kernel
theorem dX6_shares_43 : decode cX6_shares 43 = .ok (.istore_n 1, 1) := by decide +kernel
theorem dX6_shares_44 : decode cX6_shares 44 = .ok (.iload_n 1, 1) := by decide +kernel
theorem dX6_shares_45 : decode cX6_shares 45 = .ok (.aload_n 0, 1) := by decide +kernel
theorem dX6_shares_46 : decode cX6_shares 46 = .ok (.getfield 189, 3) := by decide +kernel
theorem dX6_shares_49 : decode cX6_shares 49 = .ok (.if_icmp .ge 14, 3) := by decide +kernel
theorem dX6_shares_52 : decode cX6_shares 52 = .ok (.aload_n 0, 1) := by decide +kernel
theorem dX6_shares_53 : decode cX6_shares 53 = .ok (.iload_n 1, 1) := by decide +kernel
theorem dX6_shares_54 : decode cX6_shares 54 = .ok (.invokevirtual 192, 3) := by decide +kernel
theorem dX6_shares_57 : decode cX6_shares 57 = .ok (.iinc 1 1, 3) := by decide +kernel
theorem dX6_shares_60 : decode cX6_shares 60 = .ok (.goto (-16), 3) := by decide +kernel
theorem dX6_shares_63 : decode cX6_shares 63 = .ok (.return_, 1) := by decide +kernel
set_option maxRecDepth 20000 in
theorem ggX6_share_X6_isPart : GoodIn wsX6_share wsX6_isPart := goodIn_r _ [5] rfl rfl
set_option maxRecDepth 20000 in
theorem gX6_share_X6_isPart : GoodIn wsX6_share (va_wsS RX6 168 yX6_isPart wsX6_isPart) := goodIn_app (goodIn_r _ [2, 3, 4] rfl rfl) ggX6_share_X6_isPart
set_option maxRecDepth 20000 in
theorem ggX6_share_X6_right : GoodIn wsX6_share wsX6_right := goodIn_r _ [9, 1, 95, 96, 97, 98, 99, 100, 101, 102, 103, 104, 105, 106, 107, 108, 109, 110, 111, 112, 113, 114, 115, 116] rfl rfl
set_option maxRecDepth 20000 in
theorem gX6_share_X6_right : GoodIn wsX6_share (wsV RX6 68 RX6 yX6_right wsX6_right) := goodIn_app (goodIn_r _ [6, 7, 8, 4] rfl rfl) ggX6_share_X6_right
set_option maxRecDepth 20000 in
theorem ggX6_share_X6_shares : GoodIn wsX6_share wsX6_shares := goodIn_r _ [13, 14, 15, 16, 17, 4, 18, 19, 20, 21, 22, 23, 24, 25, 26, 27, 28, 29, 30, 31, 32, 33, 34, 35, 36, 37, 38, 39, 40, 41, 42, 43, 44, 45, 46, 47, 48, 49, 50, 51, 52, 53, 54, 55, 56, 57, 58, 59, 60, 61, 62, 63, 64, 65, 66, 67, 68, 69, 70, 71, 72, 73, 74, 75, 76, 77, 78, 79, 80, 81, 82, 83, 84, 85, 86, 95, 96, 97, 98, 99, 100, 101, 102, 103, 104, 105, 106, 107, 108, 109, 110, 111, 112, 113, 114, 115, 116] rfl rfl
set_option maxRecDepth 20000 in
theorem gX6_share_X6_shares : GoodIn wsX6_share (wsV RX6 195 RX6 yX6_shares wsX6_shares) := goodIn_app (goodIn_r _ [10, 11, 12, 4] rfl rfl) ggX6_share_X6_shares
set_option maxRecDepth 20000 in
theorem ggX6_share_X6_toldPart : GoodIn wsX6_share wsX6_toldPart := goodIn_r _ [90, 31, 32, 33, 4, 34, 20, 21, 19, 67, 68, 69, 70, 15, 16, 17, 18, 22, 71, 72, 73, 74, 75, 76, 77, 78, 43, 44, 45, 46, 79, 80, 81, 82, 47, 48, 49, 50, 59, 60, 61, 62, 51, 52, 53, 54, 55, 56, 57, 58, 63, 64, 65, 66, 83, 84, 85, 86, 91, 92, 93, 94, 95, 96, 97, 98, 99, 100, 101, 102, 103, 104, 105, 106, 107, 108, 109, 110, 111, 112, 113, 114, 115, 116] rfl rfl
set_option maxRecDepth 20000 in
theorem gX6_share_X6_toldPart : GoodIn wsX6_share (wsV RX6 174 RX6 yX6_toldPart wsX6_toldPart) := goodIn_app (goodIn_r _ [87, 88, 89, 4] rfl rfl) ggX6_share_X6_toldPart
set_option maxRecDepth 20000 in
theorem ggX6_share_X6_times : GoodIn wsX6_share wsX6_times := goodIn_r _ [42, 20, 21, 22, 19, 43, 44, 45, 4, 46, 47, 48, 49, 50, 95, 96, 97, 98, 99, 100, 101, 102, 103, 104, 105, 106, 107, 108, 109, 110, 111, 112, 113, 114, 115, 116] rfl rfl
set_option maxRecDepth 20000 in
theorem gX6_share_X6_times : GoodIn wsX6_share (wsV RX6 96 RX6 yX6_times wsX6_times) := goodIn_app (goodIn_r _ [39, 40, 41, 4] rfl rfl) ggX6_share_X6_times
set_option maxRecDepth 20000 in
theorem ggX6_share_X6_minus : GoodIn wsX6_share wsX6_minus := goodIn_r _ [54, 19, 55, 56, 57, 4, 58, 20, 21, 31, 32, 33, 34, 43, 44, 45, 46, 47, 48, 49, 50, 59, 60, 61, 62, 95, 96, 97, 98, 99, 100, 101, 102, 103, 104, 105, 106, 107, 108, 109, 110, 111, 112, 113, 114, 115, 116] rfl rfl
set_option maxRecDepth 20000 in
theorem gX6_share_X6_minus : GoodIn wsX6_share (wsV RX6 108 RX6 yX6_minus wsX6_minus) := goodIn_app (goodIn_r _ [51, 52, 53, 4] rfl rfl) ggX6_share_X6_minus
theorem dX6_share_0 : decode cX6_share 0 = .ok (.aload_n 0, 1) := by decide +kernel
theorem dX6_share_1 : decode cX6_share 1 = .ok (.iconst 0, 1) := by decide +kernel
theorem dX6_share_2 : decode cX6_share 2 = .ok (.putfield 65, 3) := by decide +kernel
theorem dX6_share_5 : decode cX6_share 5 = .ok (.aload_n 0, 1) := by decide +kernel
theorem dX6_share_6 : decode cX6_share 6 = .ok (.iload_n 1, 1) := by decide +kernel
theorem dX6_share_7 : decode cX6_share 7 = .ok (.ifCond .lt 19, 3) := by decide +kernel
theorem dX6_share_10 : decode cX6_share 10 = .ok (.iload_n 1, 1) := by decide +kernel
theorem dX6_share_11 : decode cX6_share 11 = .ok (.iconst 3, 1) := by decide +kernel
theorem dX6_share_12 : decode cX6_share 12 = .ok (.if_icmp .gt 14, 3) := by decide +kernel
theorem dX6_share_15 : decode cX6_share 15 = .ok (.iload_n 3, 1) := by decide +kernel
theorem dX6_share_16 : decode cX6_share 16 = .ok (.invokestatic 168, 3) := by decide +kernel
theorem dX6_share_19 : decode cX6_share 19 = .ok (.ifCond .eq 7, 3) := by decide +kernel
theorem dX6_share_22 : decode cX6_share 22 = .ok (.iconst 1, 1) := by decide +kernel
theorem dX6_share_23 : decode cX6_share 23 = .ok (.goto 4, 3) := by decide +kernel
theorem dX6_share_26 : decode cX6_share 26 = .ok (.iconst 0, 1) := by decide +kernel
theorem dX6_share_27 : decode cX6_share 27 = .ok (.iconst 1, 1) := by decide +kernel
theorem dX6_share_28 : decode cX6_share 28 = .ok (.invokevirtual 68, 3) := by decide +kernel
theorem dX6_share_31 : decode cX6_share 31 = .ok (.ifCond .ne 5, 3) := by decide +kernel
theorem dX6_share_34 : decode cX6_share 34 = .ok (.iconst 0, 1) := by decide +kernel
theorem dX6_share_35 : decode cX6_share 35 = .ok (.ireturn, 1) := by decide +kernel
theorem dX6_share_36 : decode cX6_share 36 = .ok (.aload_n 0, 1) := by decide +kernel
theorem dX6_share_37 : decode cX6_share 37 = .ok (.invokevirtual 195, 3) := by decide +kernel
theorem dX6_share_40 : decode cX6_share 40 = .ok (.iload_n 1, 1) := by decide +kernel
theorem dX6_share_41 : decode cX6_share 41 = .ok (.ifCond .ne 14, 3) := by decide +kernel
theorem dX6_share_44 : decode cX6_share 44 = .ok (.aload_n 0, 1) := by decide +kernel
theorem dX6_share_45 : decode cX6_share 45 = .ok (.bipush 26, 2) := by decide +kernel
theorem dX6_share_47 : decode cX6_share 47 = .ok (.bipush 27, 2) := by decide +kernel
theorem dX6_share_49 : decode cX6_share 49 = .ok (.iload_n 2, 1) := by decide +kernel
theorem dX6_share_50 : decode cX6_share 50 = .ok (.iload_n 3, 1) := by decide +kernel
theorem dX6_share_51 : decode cX6_share 51 = .ok (.invokevirtual 174, 3) := by decide +kernel
theorem dX6_share_54 : decode cX6_share 54 = .ok (.ireturn, 1) := by decide +kernel
theorem dX6_share_55 : decode cX6_share 55 = .ok (.iload_n 1, 1) := by decide +kernel
theorem dX6_share_56 : decode cX6_share 56 = .ok (.iconst 1, 1) := by decide +kernel
theorem dX6_share_57 : decode cX6_share 57 = .ok (.if_icmp .ne 14, 3) := by decide +kernel
theorem dX6_share_60 : decode cX6_share 60 = .ok (.aload_n 0, 1) := by decide +kernel
theorem dX6_share_61 : decode cX6_share 61 = .ok (.bipush 28, 2) := by decide +kernel
theorem dX6_share_63 : decode cX6_share 63 = .ok (.bipush 29, 2) := by decide +kernel
theorem dX6_share_65 : decode cX6_share 65 = .ok (.iload_n 2, 1) := by decide +kernel
theorem dX6_share_66 : decode cX6_share 66 = .ok (.iload_n 3, 1) := by decide +kernel
theorem dX6_share_67 : decode cX6_share 67 = .ok (.invokevirtual 174, 3) := by decide +kernel
theorem dX6_share_70 : decode cX6_share 70 = .ok (.ireturn, 1) := by decide +kernel
theorem dX6_share_71 : decode cX6_share 71 = .ok (.iload_n 1, 1) := by decide +kernel
theorem dX6_share_72 : decode cX6_share 72 = .ok (.iconst 2, 1) := by decide +kernel
theorem dX6_share_73 : decode cX6_share 73 = .ok (.if_icmp .ne 14, 3) := by decide +kernel
theorem dX6_share_76 : decode cX6_share 76 = .ok (.aload_n 0, 1) := by decide +kernel
theorem dX6_share_77 : decode cX6_share 77 = .ok (.bipush 30, 2) := by decide +kernel
theorem dX6_share_79 : decode cX6_share 79 = .ok (.bipush 31, 2) := by decide +kernel
theorem dX6_share_81 : decode cX6_share 81 = .ok (.iload_n 2, 1) := by decide +kernel
theorem dX6_share_82 : decode cX6_share 82 = .ok (.iload_n 3, 1) := by decide +kernel
theorem dX6_share_83 : decode cX6_share 83 = .ok (.invokevirtual 174, 3) := by decide +kernel
theorem dX6_share_86 : decode cX6_share 86 = .ok (.ireturn, 1) := by decide +kernel
theorem dX6_share_87 : decode cX6_share 87 = .ok (.aload_n 0, 1) := by decide +kernel
theorem dX6_share_88 : decode cX6_share 88 = .ok (.bipush 36, 2) := by decide +kernel
theorem dX6_share_90 : decode cX6_share 90 = .ok (.bipush 27, 2) := by decide +kernel
theorem dX6_share_92 : decode cX6_share 92 = .ok (.bipush 31, 2) := by decide +kernel
theorem dX6_share_94 : decode cX6_share 94 = .ok (.invokevirtual 96, 3) := by decide +kernel
theorem dX6_share_97 : decode cX6_share 97 = .ok (.aload_n 0, 1) := by decide +kernel
theorem dX6_share_98 : decode cX6_share 98 = .ok (.bipush 10, 2) := by decide +kernel
theorem dX6_share_100 : decode cX6_share 100 = .ok (.bipush 26, 2) := by decide +kernel
theorem dX6_share_102 : decode cX6_share 102 = .ok (.bipush 31, 2) := by decide +kernel
theorem dX6_share_104 : decode cX6_share 104 = .ok (.invokevirtual 96, 3) := by decide +kernel
theorem dX6_share_107 : decode cX6_share 107 = .ok (.aload_n 0, 1) := by decide +kernel
theorem dX6_share_108 : decode cX6_share 108 = .ok (.bipush 35, 2) := by decide +kernel
theorem dX6_share_110 : decode cX6_share 110 = .ok (.bipush 36, 2) := by decide +kernel
theorem dX6_share_112 : decode cX6_share 112 = .ok (.bipush 10, 2) := by decide +kernel
theorem dX6_share_114 : decode cX6_share 114 = .ok (.invokevirtual 108, 3) := by decide +kernel
theorem dX6_share_117 : decode cX6_share 117 = .ok (.aload_n 0, 1) := by decide +kernel
theorem dX6_share_118 : decode cX6_share 118 = .ok (.bipush 10, 2) := by decide +kernel
theorem dX6_share_120 : decode cX6_share 120 = .ok (.bipush 30, 2) := by decide +kernel
theorem dX6_share_122 : decode cX6_share 122 = .ok (.bipush 27, 2) := by decide +kernel
theorem dX6_share_124 : decode cX6_share 124 = .ok (.invokevirtual 96, 3) := by decide +kernel
theorem dX6_share_127 : decode cX6_share 127 = .ok (.aload_n 0, 1) := by decide +kernel
theorem dX6_share_128 : decode cX6_share 128 = .ok (.bipush 35, 2) := by decide +kernel
theorem dX6_share_130 : decode cX6_share 130 = .ok (.bipush 35, 2) := by decide +kernel
theorem dX6_share_132 : decode cX6_share 132 = .ok (.bipush 10, 2) := by decide +kernel
theorem dX6_share_134 : decode cX6_share 134 = .ok (.invokevirtual 108, 3) := by decide +kernel
theorem dX6_share_137 : decode cX6_share 137 = .ok (.aload_n 0, 1) := by decide +kernel
theorem dX6_share_138 : decode cX6_share 138 = .ok (.bipush 35, 2) := by decide +kernel
theorem dX6_share_140 : decode cX6_share 140 = .ok (.bipush 36, 2) := by decide +kernel
theorem dX6_share_142 : decode cX6_share 142 = .ok (.iload_n 2, 1) := by decide +kernel
theorem dX6_share_143 : decode cX6_share 143 = .ok (.iload_n 3, 1) := by decide +kernel
theorem dX6_share_144 : decode cX6_share 144 = .ok (.invokevirtual 174, 3) := by decide +kernel
theorem dX6_share_147 : decode cX6_share 147 = .ok (.ireturn, 1) := by decide +kernel
