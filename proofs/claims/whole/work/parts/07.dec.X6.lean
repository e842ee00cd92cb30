theorem dX6_init_0 : decode cX6_init 0 = .ok (.aload_n 0, 1) := by decide +kernel
theorem dX6_init_1 : decode cX6_init 1 = .ok (.invokespecial 1, 3) := by decide +kernel
theorem dX6_init_4 : decode cX6_init 4 = .ok (.aload_n 0, 1) := by decide +kernel
theorem dX6_init_5 : decode cX6_init 5 = .ok (.iconst 2, 1) := by decide +kernel
theorem dX6_init_6 : decode cX6_init 6 = .ok (.newarray .int, 2) := by decide +kernel
theorem dX6_init_8 : decode cX6_init 8 = .ok (.dup, 1) := by decide +kernel
theorem dX6_init_9 : decode cX6_init 9 = .ok (.iconst 0, 1) := by decide +kernel
theorem dX6_init_10 : decode cX6_init 10 = .ok (.iconst 1, 1) := by decide +kernel
theorem dX6_init_11 : decode cX6_init 11 = .ok (.iastore, 1) := by decide +kernel
theorem dX6_init_12 : decode cX6_init 12 = .ok (.dup, 1) := by decide +kernel
theorem dX6_init_13 : decode cX6_init 13 = .ok (.iconst 1, 1) := by decide +kernel
theorem dX6_init_14 : decode cX6_init 14 = .ok (.iconst 1, 1) := by decide +kernel
theorem dX6_init_15 : decode cX6_init 15 = .ok (.iastore, 1) := by decide +kernel
theorem dX6_init_16 : decode cX6_init 16 = .ok (.putfield 7, 3) := by decide +kernel
theorem dX6_init_19 : decode cX6_init 19 = .ok (.aload_n 0, 1) := by decide +kernel
theorem dX6_init_20 : decode cX6_init 20 = .ok (.iconst 2, 1) := by decide +kernel
theorem dX6_init_21 : decode cX6_init 21 = .ok (.newarray .int, 2) := by decide +kernel
theorem dX6_init_23 : decode cX6_init 23 = .ok (.dup, 1) := by decide +kernel
theorem dX6_init_24 : decode cX6_init 24 = .ok (.iconst 0, 1) := by decide +kernel
theorem dX6_init_25 : decode cX6_init 25 = .ok (.iconst 1, 1) := by decide +kernel
theorem dX6_init_26 : decode cX6_init 26 = .ok (.iastore, 1) := by decide +kernel
theorem dX6_init_27 : decode cX6_init 27 = .ok (.dup, 1) := by decide +kernel
theorem dX6_init_28 : decode cX6_init 28 = .ok (.iconst 1, 1) := by decide +kernel
theorem dX6_init_29 : decode cX6_init 29 = .ok (.iconst 1, 1) := by decide +kernel
theorem dX6_init_30 : decode cX6_init 30 = .ok (.iastore, 1) := by decide +kernel
theorem dX6_init_31 : decode cX6_init 31 = .ok (.putfield 13, 3) := by decide +kernel
theorem dX6_init_34 : decode cX6_init 34 = .ok (.aload_n 0, 1) := by decide +kernel
theorem dX6_init_35 : decode cX6_init 35 = .ok (.iconst 2, 1) := by decide +kernel
theorem dX6_init_36 : decode cX6_init 36 = .ok (.newarray .int, 2) := by decide +kernel
theorem dX6_init_38 : decode cX6_init 38 = .ok (.dup, 1) := by decide +kernel
theorem dX6_init_39 : decode cX6_init 39 = .ok (.iconst 0, 1) := by decide +kernel
theorem dX6_init_40 : decode cX6_init 40 = .ok (.iconst 1, 1) := by decide +kernel
theorem dX6_init_41 : decode cX6_init 41 = .ok (.iastore, 1) := by decide +kernel
theorem dX6_init_42 : decode cX6_init 42 = .ok (.dup, 1) := by decide +kernel
theorem dX6_init_43 : decode cX6_init 43 = .ok (.iconst 1, 1) := by decide +kernel
theorem dX6_init_44 : decode cX6_init 44 = .ok (.iconst 1, 1) := by decide +kernel
theorem dX6_init_45 : decode cX6_init 45 = .ok (.iastore, 1) := by decide +kernel
theorem dX6_init_46 : decode cX6_init 46 = .ok (.putfield 16, 3) := by decide +kernel
theorem dX6_init_49 : decode cX6_init 49 = .ok (.aload_n 0, 1) := by decide +kernel
theorem dX6_init_50 : decode cX6_init 50 = .ok (.iconst 2, 1) := by decide +kernel
theorem dX6_init_51 : decode cX6_init 51 = .ok (.newarray .int, 2) := by decide +kernel
theorem dX6_init_53 : decode cX6_init 53 = .ok (.dup, 1) := by decide +kernel
theorem dX6_init_54 : decode cX6_init 54 = .ok (.iconst 0, 1) := by decide +kernel
theorem dX6_init_55 : decode cX6_init 55 = .ok (.iconst 1, 1) := by decide +kernel
theorem dX6_init_56 : decode cX6_init 56 = .ok (.iastore, 1) := by decide +kernel
theorem dX6_init_57 : decode cX6_init 57 = .ok (.dup, 1) := by decide +kernel
theorem dX6_init_58 : decode cX6_init 58 = .ok (.iconst 1, 1) := by decide +kernel
theorem dX6_init_59 : decode cX6_init 59 = .ok (.iconst 1, 1) := by decide +kernel
theorem dX6_init_60 : decode cX6_init 60 = .ok (.iastore, 1) := by decide +kernel
theorem dX6_init_61 : decode cX6_init 61 = .ok (.putfield 19, 3) := by decide +kernel
theorem dX6_init_64 : decode cX6_init 64 = .ok (.aload_n 0, 1) := by decide +kernel
theorem dX6_init_65 : decode cX6_init 65 = .ok (.iconst 2, 1) := by decide +kernel
theorem dX6_init_66 : decode cX6_init 66 = .ok (.newarray .int, 2) := by decide +kernel
theorem dX6_init_68 : decode cX6_init 68 = .ok (.putfield 22, 3) := by decide +kernel
theorem dX6_init_71 : decode cX6_init 71 = .ok (.aload_n 0, 1) := by decide +kernel
theorem dX6_init_72 : decode cX6_init 72 = .ok (.bipush 12, 2) := by decide +kernel
theorem dX6_init_74 : decode cX6_init 74 = .ok (.newarray .int, 2) := by decide +kernel
theorem dX6_init_76 : decode cX6_init 76 = .ok (.putfield 25, 3) := by decide +kernel
theorem dX6_init_79 : decode cX6_init 79 = .ok (.aload_n 0, 1) := by decide +kernel
theorem dX6_init_80 : decode cX6_init 80 = .ok (.bipush 12, 2) := by decide +kernel
theorem dX6_init_82 : decode cX6_init 82 = .ok (.newarray .int, 2) := by decide +kernel
theorem dX6_init_84 : decode cX6_init 84 = .ok (.putfield 28, 3) := by decide +kernel
theorem dX6_init_87 : decode cX6_init 87 = .ok (.aload_n 0, 1) := by decide +kernel
theorem dX6_init_88 : decode cX6_init 88 = .ok (.bipush 12, 2) := by decide +kernel
theorem dX6_init_90 : decode cX6_init 90 = .ok (.newarray .int, 2) := by decide +kernel
theorem dX6_init_92 : decode cX6_init 92 = .ok (.putfield 31, 3) := by decide +kernel
theorem dX6_init_95 : decode cX6_init 95 = .ok (.aload_n 0, 1) := by decide +kernel
theorem dX6_init_96 : decode cX6_init 96 = .ok (.iconst 1, 1) := by decide +kernel
theorem dX6_init_97 : decode cX6_init 97 = .ok (.putfield 34, 3) := by decide +kernel
theorem dX6_init_100 : decode cX6_init 100 = .ok (.aload_n 0, 1) := by decide +kernel
theorem dX6_init_101 : decode cX6_init 101 = .ok (.bipush 6, 2) := by decide +kernel
theorem dX6_init_103 : decode cX6_init 103 = .ok (.newarray .int, 2) := by decide +kernel
theorem dX6_init_105 : decode cX6_init 105 = .ok (.putfield 38, 3) := by decide +kernel
theorem dX6_init_108 : decode cX6_init 108 = .ok (.aload_n 0, 1) := by decide +kernel
theorem dX6_init_109 : decode cX6_init 109 = .ok (.bipush 6, 2) := by decide +kernel
theorem dX6_init_111 : decode cX6_init 111 = .ok (.newarray .int, 2) := by decide +kernel
theorem dX6_init_113 : decode cX6_init 113 = .ok (.putfield 41, 3) := by decide +kernel
theorem dX6_init_116 : decode cX6_init 116 = .ok (.aload_n 0, 1) := by decide +kernel
theorem dX6_init_117 : decode cX6_init 117 = .ok (.bipush 8, 2) := by decide +kernel
theorem dX6_init_119 : decode cX6_init 119 = .ok (.newarray .int, 2) := by decide +kernel
theorem dX6_init_121 : decode cX6_init 121 = .ok (.putfield 44, 3) := by decide +kernel
theorem dX6_init_124 : decode cX6_init 124 = .ok (.aload_n 0, 1) := by decide +kernel
theorem dX6_init_125 : decode cX6_init 125 = .ok (.bipush 8, 2) := by decide +kernel
theorem dX6_init_127 : decode cX6_init 127 = .ok (.newarray .int, 2) := by decide +kernel
theorem dX6_init_129 : decode cX6_init 129 = .ok (.putfield 47, 3) := by decide +kernel
theorem dX6_init_132 : decode cX6_init 132 = .ok (.aload_n 0, 1) := by decide +kernel
theorem dX6_init_133 : decode cX6_init 133 = .ok (.bipush 8, 2) := by decide +kernel
theorem dX6_init_135 : decode cX6_init 135 = .ok (.newarray .int, 2) := by decide +kernel
theorem dX6_init_137 : decode cX6_init 137 = .ok (.putfield 50, 3) := by decide +kernel
theorem dX6_init_140 : decode cX6_init 140 = .ok (.aload_n 0, 1) := by decide +kernel
theorem dX6_init_141 : decode cX6_init 141 = .ok (.bipush 8, 2) := by decide +kernel
theorem dX6_init_143 : decode cX6_init 143 = .ok (.newarray .int, 2) := by decide +kernel
theorem dX6_init_145 : decode cX6_init 145 = .ok (.putfield 53, 3) := by decide +kernel
theorem dX6_init_148 : decode cX6_init 148 = .ok (.aload_n 0, 1) := by decide +kernel
theorem dX6_init_149 : decode cX6_init 149 = .ok (.sipush 12000, 3) := by decide +kernel
theorem dX6_init_152 : decode cX6_init 152 = .ok (.newarray .int, 2) := by decide +kernel
theorem dX6_init_154 : decode cX6_init 154 = .ok (.putfield 56, 3) := by decide +kernel
theorem dX6_init_157 : decode cX6_init 157 = .ok (.aload_n 0, 1) := by decide +kernel
theorem dX6_init_158 : decode cX6_init 158 = .ok (.bipush 60, 2) := by decide +kernel
theorem dX6_init_160 : decode cX6_init 160 = .ok (.newarray .int, 2) := by decide +kernel
theorem dX6_init_162 : decode cX6_init 162 = .ok (.putfield 59, 3) := by decide +kernel
theorem dX6_init_165 : decode cX6_init 165 = .ok (.aload_n 0, 1) := by decide +kernel
theorem dX6_init_166 : decode cX6_init 166 = .ok (.bipush 60, 2) := by decide +kernel
theorem dX6_init_168 : decode cX6_init 168 = .ok (.newarray .int, 2) := by decide +kernel
theorem dX6_init_170 : decode cX6_init 170 = .ok (.putfield 62, 3) := by decide +kernel
theorem dX6_init_173 : decode cX6_init 173 = .ok (.return_, 1) := by decide +kernel
theorem dX6_thrown_0 : decode cX6_thrown 0 = .ok (.aload_n 0, 1) := by decide +kernel
theorem dX6_thrown_1 : decode cX6_thrown 1 = .ok (.getfield 65, 3) := by decide +kernel
theorem dX6_thrown_4 : decode cX6_thrown 4 = .ok (.ireturn, 1) := by decide +kernel
theorem dX6_right_0 : decode cX6_right 0 = .ok (.aload_n 0, 1) := by decide +kernel
theorem dX6_right_1 : decode cX6_right 1 = .ok (.getfield 65, 3) := by decide +kernel
theorem dX6_right_4 : decode cX6_right 4 = .ok (.ifCond .ne 12, 3) := by decide +kernel
theorem dX6_right_7 : decode cX6_right 7 = .ok (.iload_n 1, 1) := by decide +kernel
theorem dX6_right_8 : decode cX6_right 8 = .ok (.ifCond .ne 8, 3) := by decide +kernel
theorem dX6_right_11 : decode cX6_right 11 = .ok (.aload_n 0, 1) := by decide +kernel
theorem dX6_right_12 : decode cX6_right 12 = .ok (.iload_n 2, 1) := by decide +kernel
theorem dX6_right_13 : decode cX6_right 13 = .ok (.putfield 65, 3) := by decide +kernel
theorem dX6_right_16 : decode cX6_right 16 = .ok (.aload_n 0, 1) := by decide +kernel
theorem dX6_right_17 : decode cX6_right 17 = .ok (.getfield 65, 3) := by decide +kernel
theorem dX6_right_20 : decode cX6_right 20 = .ok (.ifCond .ne 7, 3) := by decide +kernel
theorem dX6_right_23 : decode cX6_right 23 = .ok (.iconst 1, 1) := by decide +kernel
theorem dX6_right_24 : decode cX6_right 24 = .ok (.goto 4, 3) := by decide +kernel
theorem dX6_right_27 : decode cX6_right 27 = .ok (.iconst 0, 1) := by decide +kernel
theorem dX6_right_28 : decode cX6_right 28 = .ok (.ireturn, 1) := by decide +kernel
set_option maxRecDepth 20000 in
theorem ggX6_isStack_X6_right : GoodIn wsX6_isStack wsX6_right := goodIn_r _ [6, 1, 7, 8, 9, 10, 11, 12, 13, 14, 15, 16, 17, 18, 19, 20, 21, 22, 23, 24, 25, 26, 27, 28] rfl rfl
set_option maxRecDepth 20000 in
theorem gX6_isStack_X6_right : GoodIn wsX6_isStack (wsV RX6 68 RX6 yX6_right wsX6_right) := goodIn_app (goodIn_r _ [2, 3, 4, 5] rfl rfl) ggX6_isStack_X6_right
theorem dX6_isStack_0 : decode cX6_isStack 0 = .ok (.aload_n 0, 1) := by decide +kernel
theorem dX6_isStack_1 : decode cX6_isStack 1 = .ok (.iconst 0, 1) := by decide +kernel
theorem dX6_isStack_2 : decode cX6_isStack 2 = .ok (.putfield 65, 3) := by decide +kernel
theorem dX6_isStack_5 : decode cX6_isStack 5 = .ok (.aload_n 0, 1) := by decide +kernel
theorem dX6_isStack_6 : decode cX6_isStack 6 = .ok (.iload_n 1, 1) := by decide +kernel
theorem dX6_isStack_7 : decode cX6_isStack 7 = .ok (.ifCond .eq 8, 3) := by decide +kernel
theorem dX6_isStack_10 : decode cX6_isStack 10 = .ok (.iload_n 1, 1) := by decide +kernel
theorem dX6_isStack_11 : decode cX6_isStack 11 = .ok (.iconst 1, 1) := by decide +kernel
theorem dX6_isStack_12 : decode cX6_isStack 12 = .ok (.if_icmp .ne 7, 3) := by decide +kernel
theorem dX6_isStack_15 : decode cX6_isStack 15 = .ok (.iconst 1, 1) := by decide +kernel
theorem dX6_isStack_16 : decode cX6_isStack 16 = .ok (.goto 4, 3) := by decide +kernel
theorem dX6_isStack_19 : decode cX6_isStack 19 = .ok (.iconst 0, 1) := by decide +kernel
theorem dX6_isStack_20 : decode cX6_isStack 20 = .ok (.iconst 1, 1) := by decide +kernel
theorem dX6_isStack_21 : decode cX6_isStack 21 = .ok (.invokevirtual 68, 3) := by decide +kernel
theorem dX6_isStack_24 : decode cX6_isStack 24 = .ok (.ireturn, 1) := by decide +kernel
theorem dX6_set_0 : decode cX6_set 0 = .ok (.lload_n 2, 1) := by decide +kernel
theorem dX6_set_1 : decode cX6_set 1 = .ok (.lconst 0, 1) := by decide +kernel
theorem dX6_set_2 : decode cX6_set 2 = .ok (.lcmp, 1) := by decide +kernel
theorem dX6_set_3 : decode cX6_set 3 = .ok (.ifCond .ge 8, 3) := by decide +kernel
theorem dX6_set_6 : decode cX6_set 6 = .ok (.lload_n 2, 1) := by decide +kernel
theorem dX6_set_7 : decode cX6_set 7 = .ok (.lneg, 1) := by decide +kernel
theorem dX6_set_8 : decode cX6_set 8 = .ok (.goto 4, 3) := by decide +kernel
theorem dX6_set_11 : decode cX6_set 11 = .ok (.lload_n 2, 1) := by decide +kernel
theorem dX6_set_12 : decode cX6_set 12 = .ok (.lstore 4, 2) := by decide +kernel
theorem dX6_set_14 : decode cX6_set 14 = .ok (.aload_n 0, 1) := by decide +kernel
theorem dX6_set_15 : decode cX6_set 15 = .ok (.getfield 62, 3) := by decide +kernel
theorem dX6_set_18 : decode cX6_set 18 = .ok (.iload_n 1, 1) := by decide +kernel
theorem dX6_set_19 : decode cX6_set 19 = .ok (.lload_n 2, 1) := by decide +kernel
theorem dX6_set_20 : decode cX6_set 20 = .ok (.lconst 0, 1) := by decide +kernel
theorem dX6_set_21 : decode cX6_set 21 = .ok (.lcmp, 1) := by decide +kernel
theorem dX6_set_22 : decode cX6_set 22 = .ok (.ifCond .ge 7, 3) := by decide +kernel
theorem dX6_set_25 : decode cX6_set 25 = .ok (.iconst (-1), 1) := by decide +kernel
theorem dX6_set_26 : decode cX6_set 26 = .ok (.goto 14, 3) := by decide +kernel
theorem dX6_set_29 : decode cX6_set 29 = .ok (.lload_n 2, 1) := by decide +kernel
theorem dX6_set_30 : decode cX6_set 30 = .ok (.lconst 0, 1) := by decide +kernel
theorem dX6_set_31 : decode cX6_set 31 = .ok (.lcmp, 1) := by decide +kernel
theorem dX6_set_32 : decode cX6_set 32 = .ok (.ifCond .le 7, 3) := by decide +kernel
theorem dX6_set_35 : decode cX6_set 35 = .ok (.iconst 1, 1) := by decide +kernel
theorem dX6_set_36 : decode cX6_set 36 = .ok (.goto 4, 3) := by decide +kernel
theorem dX6_set_39 : decode cX6_set 39 = .ok (.iconst 0, 1) := by decide +kernel
theorem dX6_set_40 : decode cX6_set 40 = .ok (.iastore, 1) := by decide +kernel
theorem dX6_set_41 : decode cX6_set 41 = .ok (.aload_n 0, 1) := by decide +kernel
theorem dX6_set_42 : decode cX6_set 42 = .ok (.getfield 59, 3) := by decide +kernel
theorem dX6_set_45 : decode cX6_set 45 = .ok (.iload_n 1, 1) := by decide +kernel
theorem dX6_set_46 : decode cX6_set 46 = .ok (.iconst 0, 1) := by decide +kernel
theorem dX6_set_47 : decode cX6_set 47 = .ok (.iastore, 1) := by decide +kernel
theorem dX6_set_48 : decode cX6_set 48 = .ok (.lload 4, 2) := by decide +kernel
theorem dX6_set_50 : decode cX6_set 50 = .ok (.lconst 0, 1) := by decide +kernel
theorem dX6_set_51 : decode cX6_set 51 = .ok (.lcmp, 1) := by decide +kernel
theorem dX6_set_52 : decode cX6_set 52 = .ok (.ifCond .le 47, 3) := by decide +kernel
theorem dX6_set_55 : decode cX6_set 55 = .ok (.aload_n 0, 1) := by decide +kernel
theorem dX6_set_56 : decode cX6_set 56 = .ok (.getfield 56, 3) := by decide +kernel
theorem dX6_set_59 : decode cX6_set 59 = .ok (.sipush 200, 3) := by decide +kernel
theorem dX6_set_62 : decode cX6_set 62 = .ok (.iload_n 1, 1) := by decide +kernel
theorem dX6_set_63 : decode cX6_set 63 = .ok (.imul, 1) := by decide +kernel
theorem dX6_set_64 : decode cX6_set 64 = .ok (.aload_n 0, 1) := by decide +kernel
theorem dX6_set_65 : decode cX6_set 65 = .ok (.getfield 59, 3) := by decide +kernel
theorem dX6_set_68 : decode cX6_set 68 = .ok (.iload_n 1, 1) := by decide +kernel
theorem dX6_set_69 : decode cX6_set 69 = .ok (.iaload, 1) := by decide +kernel
theorem dX6_set_70 : decode cX6_set 70 = .ok (.iadd, 1) := by decide +kernel
theorem dX6_set_71 : decode cX6_set 71 = .ok (.lload 4, 2) := by decide +kernel
theorem dX6_set_73 : decode cX6_set 73 = .ok (.ldc2_w 72, 3) := by decide +kernel
theorem dX6_set_76 : decode cX6_set 76 = .ok (.land, 1) := by decide +kernel
theorem dX6_set_77 : decode cX6_set 77 = .ok (.l2i, 1) := by decide +kernel
theorem dX6_set_78 : decode cX6_set 78 = .ok (.iastore, 1) := by decide +kernel
theorem dX6_set_79 : decode cX6_set 79 = .ok (.aload_n 0, 1) := by decide +kernel
theorem dX6_set_80 : decode cX6_set 80 = .ok (.getfield 59, 3) := by decide +kernel
theorem dX6_set_83 : decode cX6_set 83 = .ok (.iload_n 1, 1) := by decide +kernel
theorem dX6_set_84 : decode cX6_set 84 = .ok (.dup2, 1) := by decide +kernel
theorem dX6_set_85 : decode cX6_set 85 = .ok (.iaload, 1) := by decide +kernel
theorem dX6_set_86 : decode cX6_set 86 = .ok (.iconst 1, 1) := by decide +kernel
theorem dX6_set_87 : decode cX6_set 87 = .ok (.iadd, 1) := by decide +kernel
theorem dX6_set_88 : decode cX6_set 88 = .ok (.iastore, 1) := by decide +kernel
theorem dX6_set_89 : decode cX6_set 89 = .ok (.lload 4, 2) := by decide +kernel
theorem dX6_set_91 : decode cX6_set 91 = .ok (.bipush 15, 2) := by decide +kernel
theorem dX6_set_93 : decode cX6_set 93 = .ok (.lshr, 1) := by decide +kernel
theorem dX6_set_94 : decode cX6_set 94 = .ok (.lstore 4, 2) := by decide +kernel
theorem dX6_set_96 : decode cX6_set 96 = .ok (.goto (-48), 3) := by decide +kernel
theorem dX6_set_99 : decode cX6_set 99 = .ok (.return_, 1) := by decide +kernel
theorem dX6_copy_0 : decode cX6_copy 0 = .ok (.iconst 0, 1) := by decide +kernel
theorem dX6_copy_1 : decode cX6_copy 1 = .ok (.istore_n 3, 1) := by decide +kernel
theorem dX6_copy_2 : decode cX6_copy 2 = .ok (.iload_n 3, 1) := by decide +kernel
theorem dX6_copy_3 : decode cX6_copy 3 = .ok (.aload_n 0, 1) := by decide +kernel
theorem dX6_copy_4 : decode cX6_copy 4 = .ok (.getfield 59, 3) := by decide +kernel
theorem dX6_copy_7 : decode cX6_copy 7 = .ok (.iload_n 2, 1) := by decide +kernel
theorem dX6_copy_8 : decode cX6_copy 8 = .ok (.iaload, 1) := by decide +kernel
theorem dX6_copy_9 : decode cX6_copy 9 = .ok (.if_icmp .ge 33, 3) := by decide +kernel
theorem dX6_copy_12 : decode cX6_copy 12 = .ok (.aload_n 0, 1) := by decide +kernel
theorem dX6_copy_13 : decode cX6_copy 13 = .ok (.getfield 56, 3) := by decide +kernel
theorem dX6_copy_16 : decode cX6_copy 16 = .ok (.sipush 200, 3) := by decide +kernel
theorem dX6_copy_19 : decode cX6_copy 19 = .ok (.iload_n 1, 1) := by decide +kernel
theorem dX6_copy_20 : decode cX6_copy 20 = .ok (.imul, 1) := by decide +kernel
theorem dX6_copy_21 : decode cX6_copy 21 = .ok (.iload_n 3, 1) := by decide +kernel
theorem dX6_copy_22 : decode cX6_copy 22 = .ok (.iadd, 1) := by decide +kernel
theorem dX6_copy_23 : decode cX6_copy 23 = .ok (.aload_n 0, 1) := by decide +kernel
theorem dX6_copy_24 : decode cX6_copy 24 = .ok (.getfield 56, 3) := by decide +kernel
theorem dX6_copy_27 : decode cX6_copy 27 = .ok (.sipush 200, 3) := by decide +kernel
theorem dX6_copy_30 : decode cX6_copy 30 = .ok (.iload_n 2, 1) := by decide +kernel
theorem dX6_copy_31 : decode cX6_copy 31 = .ok (.imul, 1) := by decide +kernel
theorem dX6_copy_32 : decode cX6_copy 32 = .ok (.iload_n 3, 1) := by decide +kernel
theorem dX6_copy_33 : decode cX6_copy 33 = .ok (.iadd, 1) := by decide +kernel
theorem dX6_copy_34 : decode cX6_copy 34 = .ok (.iaload, 1) := by decide +kernel
theorem dX6_copy_35 : decode cX6_copy 35 = .ok (.iastore, 1) := by decide +kernel
theorem dX6_copy_36 : decode cX6_copy 36 = .ok (.iinc 3 1, 3) := by decide +kernel
theorem dX6_copy_39 : decode cX6_copy 39 = .ok (.goto (-37), 3) := by decide +kernel
theorem dX6_copy_42 : decode cX6_copy 42 = .ok (.aload_n 0, 1) := by decide +kernel
theorem dX6_copy_43 : decode cX6_copy 43 = .ok (.getfield 59, 3) := by decide +kernel
theorem dX6_copy_46 : decode cX6_copy 46 = .ok (.iload_n 1, 1) := by decide +kernel
theorem dX6_copy_47 : decode cX6_copy 47 = .ok (.aload_n 0, 1) := by decide +kernel
theorem dX6_copy_48 : decode cX6_copy 48 = .ok (.getfield 59, 3) := by decide +kernel
theorem dX6_copy_51 : decode cX6_copy 51 = .ok (.iload_n 2, 1) := by decide +kernel
theorem dX6_copy_52 : decode cX6_copy 52 = .ok (.iaload, 1) := by decide +kernel
theorem dX6_copy_53 : decode cX6_copy 53 = .ok (.iastore, 1) := by decide +kernel
theorem dX6_copy_54 : decode cX6_copy 54 = .ok (.aload_n 0, 1) := by decide +kernel
theorem dX6_copy_55 : decode cX6_copy 55 = .ok (.getfield 62, 3) := by decide +kernel
theorem dX6_copy_58 : decode cX6_copy 58 = .ok (.iload_n 1, 1) := by decide +kernel
theorem dX6_copy_59 : decode cX6_copy 59 = .ok (.aload_n 0, 1) := by decide +kernel
theorem dX6_copy_60 : decode cX6_copy 60 = .ok (.getfield 62, 3) := by decide +kernel
theorem dX6_copy_63 : decode cX6_copy 63 = .ok (.iload_n 2, 1) := by decide +kernel
theorem dX6_copy_64 : decode cX6_copy 64 = .ok (.iaload, 1) := by decide +kernel
theorem dX6_copy_65 : decode cX6_copy 65 = .ok (.iastore, 1) := by decide +kernel
theorem dX6_copy_66 : decode cX6_copy 66 = .ok (.return_, 1) := by decide +kernel
theorem dX6_at_0 : decode cX6_at 0 = .ok (.iload_n 2, 1) := by decide +kernel
theorem dX6_at_1 : decode cX6_at 1 = .ok (.aload_n 0, 1) := by decide +kernel
theorem dX6_at_2 : decode cX6_at 2 = .ok (.getfield 59, 3) := by decide +kernel
theorem dX6_at_5 : decode cX6_at 5 = .ok (.iload_n 1, 1) := by decide +kernel
theorem dX6_at_6 : decode cX6_at 6 = .ok (.iaload, 1) := by decide +kernel
theorem dX6_at_7 : decode cX6_at 7 = .ok (.if_icmp .ge 18, 3) := by decide +kernel
theorem dX6_at_10 : decode cX6_at 10 = .ok (.aload_n 0, 1) := by decide +kernel
theorem dX6_at_11 : decode cX6_at 11 = .ok (.getfield 56, 3) := by decide +kernel
theorem dX6_at_14 : decode cX6_at 14 = .ok (.sipush 200, 3) := by decide +kernel
theorem dX6_at_17 : decode cX6_at 17 = .ok (.iload_n 1, 1) := by decide +kernel
theorem dX6_at_18 : decode cX6_at 18 = .ok (.imul, 1) := by decide +kernel
theorem dX6_at_19 : decode cX6_at 19 = .ok (.iload_n 2, 1) := by decide +kernel
theorem dX6_at_20 : decode cX6_at 20 = .ok (.iadd, 1) := by decide +kernel
theorem dX6_at_21 : decode cX6_at 21 = .ok (.iaload, 1) := by decide +kernel
theorem dX6_at_22 : decode cX6_at 22 = .ok (.goto 4, 3) := by decide +kernel
theorem dX6_at_25 : decode cX6_at 25 = .ok (.iconst 0, 1) := by decide +kernel
theorem dX6_at_26 : decode cX6_at 26 = .ok (.ireturn, 1) := by decide +kernel
theorem dX6_trim_0 : decode cX6_trim 0 = .ok (.aload_n 0, 1) := by decide +kernel
theorem dX6_trim_1 : decode cX6_trim 1 = .ok (.getfield 59, 3) := by decide +kernel
theorem dX6_trim_4 : decode cX6_trim 4 = .ok (.iload_n 1, 1) := by decide +kernel
theorem dX6_trim_5 : decode cX6_trim 5 = .ok (.iload_n 2, 1) := by decide +kernel
theorem dX6_trim_6 : decode cX6_trim 6 = .ok (.iastore, 1) := by decide +kernel
theorem dX6_trim_7 : decode cX6_trim 7 = .ok (.aload_n 0, 1) := by decide +kernel
theorem dX6_trim_8 : decode cX6_trim 8 = .ok (.getfield 59, 3) := by decide +kernel
theorem dX6_trim_11 : decode cX6_trim 11 = .ok (.iload_n 1, 1) := by decide +kernel
theorem dX6_trim_12 : decode cX6_trim 12 = .ok (.iaload, 1) := by decide +kernel
theorem dX6_trim_13 : decode cX6_trim 13 = .ok (.ifCond .le 38, 3) := by decide +kernel
theorem dX6_trim_16 : decode cX6_trim 16 = .ok (.aload_n 0, 1) := by decide +kernel
theorem dX6_trim_17 : decode cX6_trim 17 = .ok (.getfield 56, 3) := by decide +kernel
theorem dX6_trim_20 : decode cX6_trim 20 = .ok (.sipush 200, 3) := by decide +kernel
theorem dX6_trim_23 : decode cX6_trim 23 = .ok (.iload_n 1, 1) := by decide +kernel
theorem dX6_trim_24 : decode cX6_trim 24 = .ok (.imul, 1) := by decide +kernel
theorem dX6_trim_25 : decode cX6_trim 25 = .ok (.aload_n 0, 1) := by decide +kernel
theorem dX6_trim_26 : decode cX6_trim 26 = .ok (.getfield 59, 3) := by decide +kernel
theorem dX6_trim_29 : decode cX6_trim 29 = .ok (.iload_n 1, 1) := by decide +kernel
theorem dX6_trim_30 : decode cX6_trim 30 = .ok (.iaload, 1) := by decide +kernel
theorem dX6_trim_31 : decode cX6_trim 31 = .ok (.iadd, 1) := by decide +kernel
theorem dX6_trim_32 : decode cX6_trim 32 = .ok (.iconst 1, 1) := by decide +kernel
theorem dX6_trim_33 : decode cX6_trim 33 = .ok (.isub, 1) := by decide +kernel
theorem dX6_trim_34 : decode cX6_trim 34 = .ok (.iaload, 1) := by decide +kernel
theorem dX6_trim_35 : decode cX6_trim 35 = .ok (.ifCond .ne 16, 3) := by decide +kernel
theorem dX6_trim_38 : decode cX6_trim 38 = .ok (.aload_n 0, 1) := by decide +kernel
theorem dX6_trim_39 : decode cX6_trim 39 = .ok (.getfield 59, 3) := by decide +kernel
theorem dX6_trim_42 : decode cX6_trim 42 = .ok (.iload_n 1, 1) := by decide +kernel
theorem dX6_trim_43 : decode cX6_trim 43 = .ok (.dup2, 1) := by decide +kernel
theorem dX6_trim_44 : decode cX6_trim 44 = .ok (.iaload, 1) := by decide +kernel
theorem dX6_trim_45 : decode cX6_trim 45 = .ok (.iconst 1, 1) := by decide +kernel
theorem dX6_trim_46 : decode cX6_trim 46 = .ok (.isub, 1) := by decide +kernel
theorem dX6_trim_47 : decode cX6_trim 47 = .ok (.iastore, 1) := by decide +kernel
theorem dX6_trim_48 : decode cX6_trim 48 = .ok (.goto (-41), 3) := by decide +kernel
theorem dX6_trim_51 : decode cX6_trim 51 = .ok (.aload_n 0, 1) := by decide +kernel
theorem dX6_trim_52 : decode cX6_trim 52 = .ok (.getfield 59, 3) := by decide +kernel
theorem dX6_trim_55 : decode cX6_trim 55 = .ok (.iload_n 1, 1) := by decide +kernel
theorem dX6_trim_56 : decode cX6_trim 56 = .ok (.iaload, 1) := by decide +kernel
theorem dX6_trim_57 : decode cX6_trim 57 = .ok (.ifCond .ne 10, 3) := by decide +kernel
theorem dX6_trim_60 : decode cX6_trim 60 = .ok (.aload_n 0, 1) := by decide +kernel
theorem dX6_trim_61 : decode cX6_trim 61 = .ok (.getfield 62, 3) := by decide +kernel
theorem dX6_trim_64 : decode cX6_trim 64 = .ok (.iload_n 1, 1) := by decide +kernel
theorem dX6_trim_65 : decode cX6_trim 65 = .ok (.iconst 0, 1) := by decide +kernel
theorem dX6_trim_66 : decode cX6_trim 66 = .ok (.iastore, 1) := by decide +kernel
theorem dX6_trim_67 : decode cX6_trim 67 = .ok (.return_, 1) := by decide +kernel
set_option maxRecDepth 20000 in
theorem ggX6_compareSizes_X6_at : GoodIn wsX6_compareSizes wsX6_at := goodIn_r _ [6, 1, 7, 8, 9, 10, 11, 12, 13, 14, 15, 16, 17, 18, 19, 20, 21, 22, 23, 24, 25, 26, 27, 28, 29] rfl rfl
set_option maxRecDepth 20000 in
theorem gX6_compareSizes_X6_at : GoodIn wsX6_compareSizes (wsV RX6 74 RX6 yX6_at wsX6_at) := goodIn_app (goodIn_r _ [2, 3, 4, 5] rfl rfl) ggX6_compareSizes_X6_at
theorem dX6_compareSizes_0 : decode cX6_compareSizes 0 = .ok (.aload_n 0, 1) := by decide +kernel
theorem dX6_compareSizes_1 : decode cX6_compareSizes 1 = .ok (.getfield 59, 3) := by decide +kernel
theorem dX6_compareSizes_4 : decode cX6_compareSizes 4 = .ok (.iload_n 1, 1) := by decide +kernel
theorem dX6_compareSizes_5 : decode cX6_compareSizes 5 = .ok (.iaload, 1) := by decide +kernel
theorem dX6_compareSizes_6 : decode cX6_compareSizes 6 = .ok (.aload_n 0, 1) := by decide +kernel
theorem dX6_compareSizes_7 : decode cX6_compareSizes 7 = .ok (.getfield 59, 3) := by decide +kernel
theorem dX6_compareSizes_10 : decode cX6_compareSizes 10 = .ok (.iload_n 2, 1) := by decide +kernel
theorem dX6_compareSizes_11 : decode cX6_compareSizes 11 = .ok (.iaload, 1) := by decide +kernel
theorem dX6_compareSizes_12 : decode cX6_compareSizes 12 = .ok (.if_icmp .eq 24, 3) := by decide +kernel
theorem dX6_compareSizes_15 : decode cX6_compareSizes 15 = .ok (.aload_n 0, 1) := by decide +kernel
theorem dX6_compareSizes_16 : decode cX6_compareSizes 16 = .ok (.getfield 59, 3) := by decide +kernel
theorem dX6_compareSizes_19 : decode cX6_compareSizes 19 = .ok (.iload_n 1, 1) := by decide +kernel
theorem dX6_compareSizes_20 : decode cX6_compareSizes 20 = .ok (.iaload, 1) := by decide +kernel
theorem dX6_compareSizes_21 : decode cX6_compareSizes 21 = .ok (.aload_n 0, 1) := by decide +kernel
theorem dX6_compareSizes_22 : decode cX6_compareSizes 22 = .ok (.getfield 59, 3) := by decide +kernel
theorem dX6_compareSizes_25 : decode cX6_compareSizes 25 = .ok (.iload_n 2, 1) := by decide +kernel
theorem dX6_compareSizes_26 : decode cX6_compareSizes 26 = .ok (.iaload, 1) := by decide +kernel
theorem dX6_compareSizes_27 : decode cX6_compareSizes 27 = .ok (.if_icmp .ge 7, 3) := by decide +kernel
theorem dX6_compareSizes_30 : decode cX6_compareSizes 30 = .ok (.iconst (-1), 1) := by decide +kernel
theorem dX6_compareSizes_31 : decode cX6_compareSizes 31 = .ok (.goto 4, 3) := by decide +kernel
theorem dX6_compareSizes_34 : decode cX6_compareSizes 34 = .ok (.iconst 1, 1) := by decide +kernel
theorem dX6_compareSizes_35 : decode cX6_compareSizes 35 = .ok (.ireturn, 1) := by decide +kernel
theorem dX6_compareSizes_36 : decode cX6_compareSizes 36 = .ok (.aload_n 0, 1) := by decide +kernel
theorem dX6_compareSizes_37 : decode cX6_compareSizes 37 = .ok (.getfield 59, 3) := by decide +kernel
theorem dX6_compareSizes_40 : decode cX6_compareSizes 40 = .ok (.iload_n 1, 1) := by decide +kernel
theorem dX6_compareSizes_41 : decode cX6_compareSizes 41 = .ok (.iaload, 1) := by decide +kernel
theorem dX6_compareSizes_42 : decode cX6_compareSizes 42 = .ok (.iconst 1, 1) := by decide +kernel
theorem dX6_compareSizes_43 : decode cX6_compareSizes 43 = .ok (.isub, 1) := by decide +kernel
theorem dX6_compareSizes_44 : decode cX6_compareSizes 44 = .ok (.istore_n 3, 1) := by decide +kernel
theorem dX6_compareSizes_45 : decode cX6_compareSizes 45 = .ok (.iload_n 3, 1) := by decide +kernel
theorem dX6_compareSizes_46 : decode cX6_compareSizes 46 = .ok (.ifCond .lt 45, 3) := by decide +kernel
theorem dX6_compareSizes_49 : decode cX6_compareSizes 49 = .ok (.aload_n 0, 1) := by decide +kernel
theorem dX6_compareSizes_50 : decode cX6_compareSizes 50 = .ok (.iload_n 1, 1) := by decide +kernel
theorem dX6_compareSizes_51 : decode cX6_compareSizes 51 = .ok (.iload_n 3, 1) := by decide +kernel
theorem dX6_compareSizes_52 : decode cX6_compareSizes 52 = .ok (.invokevirtual 74, 3) := by decide +kernel
theorem dX6_compareSizes_55 : decode cX6_compareSizes 55 = .ok (.aload_n 0, 1) := by decide +kernel
theorem dX6_compareSizes_56 : decode cX6_compareSizes 56 = .ok (.iload_n 2, 1) := by decide +kernel
theorem dX6_compareSizes_57 : decode cX6_compareSizes 57 = .ok (.iload_n 3, 1) := by decide +kernel
theorem dX6_compareSizes_58 : decode cX6_compareSizes 58 = .ok (.invokevirtual 74, 3) := by decide +kernel
theorem dX6_compareSizes_61 : decode cX6_compareSizes 61 = .ok (.if_icmp .eq 24, 3) := by decide +kernel
theorem dX6_compareSizes_64 : decode cX6_compareSizes 64 = .ok (.aload_n 0, 1) := by decide +kernel
theorem dX6_compareSizes_65 : decode cX6_compareSizes 65 = .ok (.iload_n 1, 1) := by decide +kernel
theorem dX6_compareSizes_66 : decode cX6_compareSizes 66 = .ok (.iload_n 3, 1) := by decide +kernel
theorem dX6_compareSizes_67 : decode cX6_compareSizes 67 = .ok (.invokevirtual 74, 3) := by decide +kernel
theorem dX6_compareSizes_70 : decode cX6_compareSizes 70 = .ok (.aload_n 0, 1) := by decide +kernel
theorem dX6_compareSizes_71 : decode cX6_compareSizes 71 = .ok (.iload_n 2, 1) := by decide +kernel
theorem dX6_compareSizes_72 : decode cX6_compareSizes 72 = .ok (.iload_n 3, 1) := by decide +kernel
theorem dX6_compareSizes_73 : decode cX6_compareSizes 73 = .ok (.invokevirtual 74, 3) := by decide +kernel
theorem dX6_compareSizes_76 : decode cX6_compareSizes 76 = .ok (.if_icmp .ge 7, 3) := by decide +kernel
theorem dX6_compareSizes_79 : decode cX6_compareSizes 79 = .ok (.iconst (-1), 1) := by decide +kernel
theorem dX6_compareSizes_80 : decode cX6_compareSizes 80 = .ok (.goto 4, 3) := by decide +kernel
theorem dX6_compareSizes_83 : decode cX6_compareSizes 83 = .ok (.iconst 1, 1) := by decide +kernel
theorem dX6_compareSizes_84 : decode cX6_compareSizes 84 = .ok (.ireturn, 1) := by decide +kernel
theorem dX6_compareSizes_85 : decode cX6_compareSizes 85 = .ok (.iinc 3 (-1), 3) := by decide +kernel
theorem dX6_compareSizes_88 : decode cX6_compareSizes 88 = .ok (.goto (-43), 3) := by decide +kernel
theorem dX6_compareSizes_91 : decode cX6_compareSizes 91 = .ok (.iconst 0, 1) := by decide +kernel
theorem dX6_compareSizes_92 : decode cX6_compareSizes 92 = .ok (.ireturn, 1) := by decide +kernel
set_option maxRecDepth 20000 in
theorem ggX6_compare_X6_compareSizes : GoodIn wsX6_compare wsX6_compareSizes := goodIn_r _ [6, 7, 8, 9, 10, 5, 11, 12, 13, 14, 15, 16, 17, 18, 19, 20, 21, 22, 23, 24, 25, 26, 27, 28, 29, 30, 31, 32, 33, 34] rfl rfl
set_option maxRecDepth 20000 in
theorem gX6_compare_X6_compareSizes : GoodIn wsX6_compare (wsV RX6 78 RX6 yX6_compareSizes wsX6_compareSizes) := goodIn_app (goodIn_r _ [2, 3, 4, 5] rfl rfl) ggX6_compare_X6_compareSizes
theorem dX6_compare_0 : decode cX6_compare 0 = .ok (.aload_n 0, 1) := by decide +kernel
theorem dX6_compare_1 : decode cX6_compare 1 = .ok (.getfield 62, 3) := by decide +kernel
theorem dX6_compare_4 : decode cX6_compare 4 = .ok (.iload_n 1, 1) := by decide +kernel
theorem dX6_compare_5 : decode cX6_compare 5 = .ok (.iaload, 1) := by decide +kernel
theorem dX6_compare_6 : decode cX6_compare 6 = .ok (.aload_n 0, 1) := by decide +kernel
theorem dX6_compare_7 : decode cX6_compare 7 = .ok (.getfield 62, 3) := by decide +kernel
theorem dX6_compare_10 : decode cX6_compare 10 = .ok (.iload_n 2, 1) := by decide +kernel
theorem dX6_compare_11 : decode cX6_compare 11 = .ok (.iaload, 1) := by decide +kernel
theorem dX6_compare_12 : decode cX6_compare 12 = .ok (.if_icmp .eq 24, 3) := by decide +kernel
theorem dX6_compare_15 : decode cX6_compare 15 = .ok (.aload_n 0, 1) := by decide +kernel
theorem dX6_compare_16 : decode cX6_compare 16 = .ok (.getfield 62, 3) := by decide +kernel
theorem dX6_compare_19 : decode cX6_compare 19 = .ok (.iload_n 1, 1) := by decide +kernel
theorem dX6_compare_20 : decode cX6_compare 20 = .ok (.iaload, 1) := by decide +kernel
theorem dX6_compare_21 : decode cX6_compare 21 = .ok (.aload_n 0, 1) := by decide +kernel
theorem dX6_compare_22 : decode cX6_compare 22 = .ok (.getfield 62, 3) := by decide +kernel
theorem dX6_compare_25 : decode cX6_compare 25 = .ok (.iload_n 2, 1) := by decide +kernel
theorem dX6_compare_26 : decode cX6_compare 26 = .ok (.iaload, 1) := by decide +kernel
theorem dX6_compare_27 : decode cX6_compare 27 = .ok (.if_icmp .ge 7, 3) := by decide +kernel
theorem dX6_compare_30 : decode cX6_compare 30 = .ok (.iconst (-1), 1) := by decide +kernel
theorem dX6_compare_31 : decode cX6_compare 31 = .ok (.goto 4, 3) := by decide +kernel
theorem dX6_compare_34 : decode cX6_compare 34 = .ok (.iconst 1, 1) := by decide +kernel
theorem dX6_compare_35 : decode cX6_compare 35 = .ok (.ireturn, 1) := by decide +kernel
theorem dX6_compare_36 : decode cX6_compare 36 = .ok (.aload_n 0, 1) := by decide +kernel
theorem dX6_compare_37 : decode cX6_compare 37 = .ok (.getfield 62, 3) := by decide +kernel
theorem dX6_compare_40 : decode cX6_compare 40 = .ok (.iload_n 1, 1) := by decide +kernel
theorem dX6_compare_41 : decode cX6_compare 41 = .ok (.iaload, 1) := by decide +kernel
theorem dX6_compare_42 : decode cX6_compare 42 = .ok (.ifCond .ge 12, 3) := by decide +kernel
theorem dX6_compare_45 : decode cX6_compare 45 = .ok (.aload_n 0, 1) := by decide +kernel
theorem dX6_compare_46 : decode cX6_compare 46 = .ok (.iload_n 2, 1) := by decide +kernel
theorem dX6_compare_47 : decode cX6_compare 47 = .ok (.iload_n 1, 1) := by decide +kernel
theorem dX6_compare_48 : decode cX6_compare 48 = .ok (.invokevirtual 78, 3) := by decide +kernel
theorem dX6_compare_51 : decode cX6_compare 51 = .ok (.goto 9, 3) := by decide +kernel
theorem dX6_compare_54 : decode cX6_compare 54 = .ok (.aload_n 0, 1) := by decide +kernel
theorem dX6_compare_55 : decode cX6_compare 55 = .ok (.iload_n 1, 1) := by decide +kernel
theorem dX6_compare_56 : decode cX6_compare 56 = .ok (.iload_n 2, 1) := by decide +kernel
theorem dX6_compare_57 : decode cX6_compare 57 = .ok (.invokevirtual 78, 3) := by decide +kernel
theorem dX6_compare_60 : decode cX6_compare 60 = .ok (.ireturn, 1) := by decide +kernel
set_option maxRecDepth 20000 in
theorem ggX6_add_X6_copy : GoodIn wsX6_add wsX6_copy := goodIn_r _ [8, 2, 3, 1, 21, 22, 23, 24, 25, 26, 27, 28, 29, 30, 31, 32, 33, 34, 35, 36, 37, 38, 39, 40, 41, 42] rfl rfl
set_option maxRecDepth 20000 in
theorem gX6_add_X6_copy : GoodIn wsX6_add (wsV RX6 81 RX6 yX6_copy wsX6_copy) := goodIn_app (goodIn_r _ [4, 5, 6, 7] rfl rfl) ggX6_add_X6_copy
set_option maxRecDepth 20000 in
theorem ggX6_add_X6_at : GoodIn wsX6_add wsX6_at := goodIn_r _ [12, 2, 3, 21, 22, 23, 24, 25, 26, 27, 28, 29, 30, 31, 32, 33, 34, 35, 36, 37, 38, 39, 40, 41, 42] rfl rfl
set_option maxRecDepth 20000 in
theorem gX6_add_X6_at : GoodIn wsX6_add (wsV RX6 74 RX6 yX6_at wsX6_at) := goodIn_app (goodIn_r _ [9, 10, 11, 7] rfl rfl) ggX6_add_X6_at
set_option maxRecDepth 20000 in
theorem ggX6_add_X6_trim : GoodIn wsX6_add wsX6_trim := goodIn_r _ [16, 2, 3, 1, 21, 22, 23, 24, 25, 26, 27, 28, 29, 30, 31, 32, 33, 34, 35, 36, 37, 38, 39, 40, 41, 42] rfl rfl
set_option maxRecDepth 20000 in
theorem gX6_add_X6_trim : GoodIn wsX6_add (wsV RX6 85 RX6 yX6_trim wsX6_trim) := goodIn_app (goodIn_r _ [13, 14, 15, 7] rfl rfl) ggX6_add_X6_trim
set_option maxRecDepth 20000 in
theorem ggX6_add_X6_compareSizes : GoodIn wsX6_add wsX6_compareSizes := goodIn_r _ [20, 2, 9, 10, 11, 7, 12, 3, 21, 22, 23, 24, 25, 26, 27, 28, 29, 30, 31, 32, 33, 34, 35, 36, 37, 38, 39, 40, 41, 42] rfl rfl
set_option maxRecDepth 20000 in
theorem gX6_add_X6_compareSizes : GoodIn wsX6_add (wsV RX6 78 RX6 yX6_compareSizes wsX6_compareSizes) := goodIn_app (goodIn_r _ [17, 18, 19, 7] rfl rfl) ggX6_add_X6_compareSizes
theorem dX6_add_0 : decode cX6_add 0 = .ok (.iload 4, 2) := by decide +kernel
theorem dX6_add_2 : decode cX6_add 2 = .ok (.ifCond .ne 15, 3) := by decide +kernel
theorem dX6_add_5 : decode cX6_add 5 = .ok (.iload_n 1, 1) := by decide +kernel
theorem dX6_add_6 : decode cX6_add 6 = .ok (.iload_n 2, 1) := by decide +kernel
theorem dX6_add_7 : decode cX6_add 7 = .ok (.if_icmp .eq 9, 3) := by decide +kernel
theorem dX6_add_10 : decode cX6_add 10 = .ok (.aload_n 0, 1) := by decide +kernel
theorem dX6_add_11 : decode cX6_add 11 = .ok (.iload_n 1, 1) := by decide +kernel
theorem dX6_add_12 : decode cX6_add 12 = .ok (.iload_n 2, 1) := by decide +kernel
theorem dX6_add_13 : decode cX6_add 13 = .ok (.invokevirtual 81, 3) := by decide +kernel
theorem dX6_add_16 : decode cX6_add 16 = .ok (.return_, 1) := by decide +kernel
theorem dX6_add_17 : decode cX6_add 17 = .ok (.aload_n 0, 1) := by decide +kernel
theorem dX6_add_18 : decode cX6_add 18 = .ok (.getfield 62, 3) := by decide +kernel
theorem dX6_add_21 : decode cX6_add 21 = .ok (.iload_n 2, 1) := by decide +kernel
theorem dX6_add_22 : decode cX6_add 22 = .ok (.iaload, 1) := by decide +kernel
theorem dX6_add_23 : decode cX6_add 23 = .ok (.ifCond .ne 8, 3) := by decide +kernel
theorem dX6_add_26 : decode cX6_add 26 = .ok (.iload 4, 2) := by decide +kernel
theorem dX6_add_28 : decode cX6_add 28 = .ok (.goto 9, 3) := by decide +kernel
theorem dX6_add_31 : decode cX6_add 31 = .ok (.aload_n 0, 1) := by decide +kernel
theorem dX6_add_32 : decode cX6_add 32 = .ok (.getfield 62, 3) := by decide +kernel
theorem dX6_add_35 : decode cX6_add 35 = .ok (.iload_n 2, 1) := by decide +kernel
theorem dX6_add_36 : decode cX6_add 36 = .ok (.iaload, 1) := by decide +kernel
theorem dX6_add_37 : decode cX6_add 37 = .ok (.istore 5, 2) := by decide +kernel
theorem dX6_add_39 : decode cX6_add 39 = .ok (.aload_n 0, 1) := by decide +kernel
theorem dX6_add_40 : decode cX6_add 40 = .ok (.getfield 59, 3) := by decide +kernel
theorem dX6_add_43 : decode cX6_add 43 = .ok (.iload_n 2, 1) := by decide +kernel
theorem dX6_add_44 : decode cX6_add 44 = .ok (.iaload, 1) := by decide +kernel
theorem dX6_add_45 : decode cX6_add 45 = .ok (.aload_n 0, 1) := by decide +kernel
theorem dX6_add_46 : decode cX6_add 46 = .ok (.getfield 59, 3) := by decide +kernel
theorem dX6_add_49 : decode cX6_add 49 = .ok (.iload_n 3, 1) := by decide +kernel
theorem dX6_add_50 : decode cX6_add 50 = .ok (.iaload, 1) := by decide +kernel
theorem dX6_add_51 : decode cX6_add 51 = .ok (.if_icmp .le 12, 3) := by decide +kernel
theorem dX6_add_54 : decode cX6_add 54 = .ok (.aload_n 0, 1) := by decide +kernel
theorem dX6_add_55 : decode cX6_add 55 = .ok (.getfield 59, 3) := by decide +kernel
theorem dX6_add_58 : decode cX6_add 58 = .ok (.iload_n 2, 1) := by decide +kernel
theorem dX6_add_59 : decode cX6_add 59 = .ok (.iaload, 1) := by decide +kernel
theorem dX6_add_60 : decode cX6_add 60 = .ok (.goto 9, 3) := by decide +kernel
theorem dX6_add_63 : decode cX6_add 63 = .ok (.aload_n 0, 1) := by decide +kernel
theorem dX6_add_64 : decode cX6_add 64 = .ok (.getfield 59, 3) := by decide +kernel
theorem dX6_add_67 : decode cX6_add 67 = .ok (.iload_n 3, 1) := by decide +kernel
theorem dX6_add_68 : decode cX6_add 68 = .ok (.iaload, 1) := by decide +kernel
theorem dX6_add_69 : decode cX6_add 69 = .ok (.istore 6, 2) := by decide +kernel
theorem dX6_add_71 : decode cX6_add 71 = .ok (.iconst 0, 1) := by decide +kernel
theorem dX6_add_72 : decode cX6_add 72 = .ok (.istore 7, 2) := by decide +kernel
theorem dX6_add_74 : decode cX6_add 74 = .ok (.iload 5, 2) := by decide +kernel
theorem dX6_add_76 : decode cX6_add 76 = .ok (.iload 4, 2) := by decide +kernel
theorem dX6_add_78 : decode cX6_add 78 = .ok (.if_icmp .ne 98, 3) := by decide +kernel
theorem dX6_add_81 : decode cX6_add 81 = .ok (.iconst 0, 1) := by decide +kernel
theorem dX6_add_82 : decode cX6_add 82 = .ok (.istore 8, 2) := by decide +kernel
theorem dX6_add_84 : decode cX6_add 84 = .ok (.iload 8, 2) := by decide +kernel
theorem dX6_add_86 : decode cX6_add 86 = .ok (.iload 6, 2) := by decide +kernel
theorem dX6_add_88 : decode cX6_add 88 = .ok (.if_icmp .ge 55, 3) := by decide +kernel
theorem dX6_add_91 : decode cX6_add 91 = .ok (.aload_n 0, 1) := by decide +kernel
theorem dX6_add_92 : decode cX6_add 92 = .ok (.iload_n 2, 1) := by decide +kernel
theorem dX6_add_93 : decode cX6_add 93 = .ok (.iload 8, 2) := by decide +kernel
theorem dX6_add_95 : decode cX6_add 95 = .ok (.invokevirtual 74, 3) := by decide +kernel
theorem dX6_add_98 : decode cX6_add 98 = .ok (.aload_n 0, 1) := by decide +kernel
theorem dX6_add_99 : decode cX6_add 99 = .ok (.iload_n 3, 1) := by decide +kernel
theorem dX6_add_100 : decode cX6_add 100 = .ok (.iload 8, 2) := by decide +kernel
theorem dX6_add_102 : decode cX6_add 102 = .ok (.invokevirtual 74, 3) := by decide +kernel
theorem dX6_add_105 : decode cX6_add 105 = .ok (.iadd, 1) := by decide +kernel
theorem dX6_add_106 : decode cX6_add 106 = .ok (.iload 7, 2) := by decide +kernel
theorem dX6_add_108 : decode cX6_add 108 = .ok (.iadd, 1) := by decide +kernel
theorem dX6_add_109 : decode cX6_add 109 = .ok (.istore 9, 2) := by decide +kernel
theorem dX6_add_111 : decode cX6_add 111 = .ok (.aload_n 0, 1) := by decide +kernel
theorem dX6_add_112 : decode cX6_add 112 = .ok (.getfield 56, 3) := by decide +kernel
theorem dX6_add_115 : decode cX6_add 115 = .ok (.sipush 200, 3) := by decide +kernel
theorem dX6_add_118 : decode cX6_add 118 = .ok (.iload_n 1, 1) := by decide +kernel
theorem dX6_add_119 : decode cX6_add 119 = .ok (.imul, 1) := by decide +kernel
theorem dX6_add_120 : decode cX6_add 120 = .ok (.iload 8, 2) := by decide +kernel
theorem dX6_add_122 : decode cX6_add 122 = .ok (.iadd, 1) := by decide +kernel
theorem dX6_add_123 : decode cX6_add 123 = .ok (.iload 9, 2) := by decide +kernel
theorem dX6_add_125 : decode cX6_add 125 = .ok (.sipush 32767, 3) := by decide +kernel
theorem dX6_add_128 : decode cX6_add 128 = .ok (.iand, 1) := by decide +kernel
theorem dX6_add_129 : decode cX6_add 129 = .ok (.iastore, 1) := by decide +kernel
theorem dX6_add_130 : decode cX6_add 130 = .ok (.iload 9, 2) := by decide +kernel
theorem dX6_add_132 : decode cX6_add 132 = .ok (.bipush 15, 2) := by decide +kernel
theorem dX6_add_134 : decode cX6_add 134 = .ok (.ishr, 1) := by decide +kernel
theorem dX6_add_135 : decode cX6_add 135 = .ok (.istore 7, 2) := by decide +kernel
theorem dX6_add_137 : decode cX6_add 137 = .ok (.iinc 8 1, 3) := by decide +kernel
theorem dX6_add_140 : decode cX6_add 140 = .ok (.goto (-56), 3) := by decide +kernel
theorem dX6_add_143 : decode cX6_add 143 = .ok (.aload_n 0, 1) := by decide +kernel
theorem dX6_add_144 : decode cX6_add 144 = .ok (.getfield 56, 3) := by decide +kernel
theorem dX6_add_147 : decode cX6_add 147 = .ok (.sipush 200, 3) := by decide +kernel
theorem dX6_add_150 : decode cX6_add 150 = .ok (.iload_n 1, 1) := by decide +kernel
theorem dX6_add_151 : decode cX6_add 151 = .ok (.imul, 1) := by decide +kernel
theorem dX6_add_152 : decode cX6_add 152 = .ok (.iload 6, 2) := by decide +kernel
theorem dX6_add_154 : decode cX6_add 154 = .ok (.iadd, 1) := by decide +kernel
theorem dX6_add_155 : decode cX6_add 155 = .ok (.iload 7, 2) := by decide +kernel
theorem dX6_add_157 : decode cX6_add 157 = .ok (.iastore, 1) := by decide +kernel
theorem dX6_add_158 : decode cX6_add 158 = .ok (.aload_n 0, 1) := by decide +kernel
theorem dX6_add_159 : decode cX6_add 159 = .ok (.getfield 62, 3) := by decide +kernel
theorem dX6_add_162 : decode cX6_add 162 = .ok (.iload_n 1, 1) := by decide +kernel
theorem dX6_add_163 : decode cX6_add 163 = .ok (.iload 5, 2) := by decide +kernel
theorem dX6_add_165 : decode cX6_add 165 = .ok (.iastore, 1) := by decide +kernel
theorem dX6_add_166 : decode cX6_add 166 = .ok (.aload_n 0, 1) := by decide +kernel
theorem dX6_add_167 : decode cX6_add 167 = .ok (.iload_n 1, 1) := by decide +kernel
theorem dX6_add_168 : decode cX6_add 168 = .ok (.iload 6, 2) := by decide +kernel
theorem dX6_add_170 : decode cX6_add 170 = .ok (.iconst 1, 1) := by decide +kernel
theorem dX6_add_171 : decode cX6_add 171 = .ok (.iadd, 1) := by decide +kernel
theorem dX6_add_172 : decode cX6_add 172 = .ok (.invokevirtual 85, 3) := by decide +kernel
theorem dX6_add_175 : decode cX6_add 175 = .ok (.return_, 1) := by decide +kernel
theorem dX6_add_176 : decode cX6_add 176 = .ok (.aload_n 0, 1) := by decide +kernel
theorem dX6_add_177 : decode cX6_add 177 = .ok (.iload_n 2, 1) := by decide +kernel
theorem dX6_add_178 : decode cX6_add 178 = .ok (.iload_n 3, 1) := by decide +kernel
theorem dX6_add_179 : decode cX6_add 179 = .ok (.invokevirtual 78, 3) := by decide +kernel
theorem dX6_add_182 : decode cX6_add 182 = .ok (.ifCond .ge 7, 3) := by decide +kernel
theorem dX6_add_185 : decode cX6_add 185 = .ok (.iconst 1, 1) := by decide +kernel
theorem dX6_add_186 : decode cX6_add 186 = .ok (.goto 4, 3) := by decide +kernel
theorem dX6_add_189 : decode cX6_add 189 = .ok (.iconst 0, 1) := by decide +kernel
theorem dX6_add_190 : decode cX6_add 190 = .ok (.istore 8, 2) := by decide +kernel
theorem dX6_add_192 : decode cX6_add 192 = .ok (.iload 8, 2) := by decide +kernel
theorem dX6_add_194 : decode cX6_add 194 = .ok (.ifCond .eq 7, 3) := by decide +kernel
theorem dX6_add_197 : decode cX6_add 197 = .ok (.iload_n 3, 1) := by decide +kernel
theorem dX6_add_198 : decode cX6_add 198 = .ok (.goto 4, 3) := by decide +kernel
theorem dX6_add_201 : decode cX6_add 201 = .ok (.iload_n 2, 1) := by decide +kernel
theorem dX6_add_202 : decode cX6_add 202 = .ok (.istore 9, 2) := by decide +kernel
theorem dX6_add_204 : decode cX6_add 204 = .ok (.iload 8, 2) := by decide +kernel
theorem dX6_add_206 : decode cX6_add 206 = .ok (.ifCond .eq 7, 3) := by decide +kernel
theorem dX6_add_209 : decode cX6_add 209 = .ok (.iload_n 2, 1) := by decide +kernel
theorem dX6_add_210 : decode cX6_add 210 = .ok (.goto 4, 3) := by decide +kernel
theorem dX6_add_213 : decode cX6_add 213 = .ok (.iload_n 3, 1) := by decide +kernel
theorem dX6_add_214 : decode cX6_add 214 = .ok (.istore 10, 2) := by decide +kernel
theorem dX6_add_216 : decode cX6_add 216 = .ok (.iconst 0, 1) := by decide +kernel
theorem dX6_add_217 : decode cX6_add 217 = .ok (.istore 11, 2) := by decide +kernel
theorem dX6_add_219 : decode cX6_add 219 = .ok (.iload 11, 2) := by decide +kernel
theorem dX6_add_221 : decode cX6_add 221 = .ok (.iload 6, 2) := by decide +kernel
theorem dX6_add_223 : decode cX6_add 223 = .ok (.if_icmp .ge 57, 3) := by decide +kernel
theorem dX6_add_226 : decode cX6_add 226 = .ok (.aload_n 0, 1) := by decide +kernel
theorem dX6_add_227 : decode cX6_add 227 = .ok (.iload 9, 2) := by decide +kernel
theorem dX6_add_229 : decode cX6_add 229 = .ok (.iload 11, 2) := by decide +kernel
theorem dX6_add_231 : decode cX6_add 231 = .ok (.invokevirtual 74, 3) := by decide +kernel
theorem dX6_add_234 : decode cX6_add 234 = .ok (.aload_n 0, 1) := by decide +kernel
theorem dX6_add_235 : decode cX6_add 235 = .ok (.iload 10, 2) := by decide +kernel
theorem dX6_add_237 : decode cX6_add 237 = .ok (.iload 11, 2) := by decide +kernel
theorem dX6_add_239 : decode cX6_add 239 = .ok (.invokevirtual 74, 3) := by decide +kernel
theorem dX6_add_242 : decode cX6_add 242 = .ok (.isub, 1) := by decide +kernel
theorem dX6_add_243 : decode cX6_add 243 = .ok (.iload 7, 2) := by decide +kernel
theorem dX6_add_245 : decode cX6_add 245 = .ok (.iadd, 1) := by decide +kernel
theorem dX6_add_246 : decode cX6_add 246 = .ok (.istore 12, 2) := by decide +kernel
theorem dX6_add_248 : decode cX6_add 248 = .ok (.aload_n 0, 1) := by decide +kernel
theorem dX6_add_249 : decode cX6_add 249 = .ok (.getfield 56, 3) := by decide +kernel
theorem dX6_add_252 : decode cX6_add 252 = .ok (.sipush 200, 3) := by decide +kernel
theorem dX6_add_255 : decode cX6_add 255 = .ok (.iload_n 1, 1) := by decide +kernel
theorem dX6_add_256 : decode cX6_add 256 = .ok (.imul, 1) := by decide +kernel
theorem dX6_add_257 : decode cX6_add 257 = .ok (.iload 11, 2) := by decide +kernel
theorem dX6_add_259 : decode cX6_add 259 = .ok (.iadd, 1) := by decide +kernel
theorem dX6_add_260 : decode cX6_add 260 = .ok (.iload 12, 2) := by decide +kernel
theorem dX6_add_262 : decode cX6_add 262 = .ok (.sipush 32767, 3) := by decide +kernel
theorem dX6_add_265 : decode cX6_add 265 = .ok (.iand, 1) := by decide +kernel
theorem dX6_add_266 : decode cX6_add 266 = .ok (.iastore, 1) := by decide +kernel
theorem dX6_add_267 : decode cX6_add 267 = .ok (.iload 12, 2) := by decide +kernel
theorem dX6_add_269 : decode cX6_add 269 = .ok (.bipush 15, 2) := by decide +kernel
theorem dX6_add_271 : decode cX6_add 271 = .ok (.ishr, 1) := by decide +kernel
theorem dX6_add_272 : decode cX6_add 272 = .ok (.istore 7, 2) := by decide +kernel
theorem dX6_add_274 : decode cX6_add 274 = .ok (.iinc 11 1, 3) := by decide +kernel
theorem dX6_add_277 : decode cX6_add 277 = .ok (.goto (-58), 3) := by decide +kernel
theorem dX6_add_280 : decode cX6_add 280 = .ok (.aload_n 0, 1) := by decide +kernel
theorem dX6_add_281 : decode cX6_add 281 = .ok (.getfield 62, 3) := by decide +kernel
theorem dX6_add_284 : decode cX6_add 284 = .ok (.iload_n 1, 1) := by decide +kernel
theorem dX6_add_285 : decode cX6_add 285 = .ok (.iload 8, 2) := by decide +kernel
theorem dX6_add_287 : decode cX6_add 287 = .ok (.ifCond .eq 8, 3) := by decide +kernel
theorem dX6_add_290 : decode cX6_add 290 = .ok (.iload 4, 2) := by decide +kernel
theorem dX6_add_292 : decode cX6_add 292 = .ok (.goto 5, 3) := by decide +kernel
theorem dX6_add_295 : decode cX6_add 295 = .ok (.iload 5, 2) := by decide +kernel
theorem dX6_add_297 : decode cX6_add 297 = .ok (.iastore, 1) := by decide +kernel
theorem dX6_add_298 : decode cX6_add 298 = .ok (.aload_n 0, 1) := by decide +kernel
theorem dX6_add_299 : decode cX6_add 299 = .ok (.iload_n 1, 1) := by decide +kernel
theorem dX6_add_300 : decode cX6_add 300 = .ok (.iload 6, 2) := by decide +kernel
theorem dX6_add_302 : decode cX6_add 302 = .ok (.invokevirtual 85, 3) := by decide +kernel
theorem dX6_add_305 : decode cX6_add 305 = .ok (.return_, 1) := by decide +kernel
set_option maxRecDepth 20000 in
theorem ggX6_plus_X6_add : GoodIn wsX6_plus wsX6_add := goodIn_r _ [6, 1, 7, 8, 9, 10, 11, 5, 12, 13, 14, 15, 16, 17, 18, 19, 20, 21, 22, 23, 24, 25, 26, 27, 28, 29, 30, 31, 32, 33, 34, 35, 36, 37, 38, 39, 40, 41, 42, 43, 44, 45, 46] rfl rfl
set_option maxRecDepth 20000 in
theorem gX6_plus_X6_add : GoodIn wsX6_plus (wsV RX6 88 RX6 yX6_add wsX6_add) := goodIn_app (goodIn_r _ [2, 3, 4, 5] rfl rfl) ggX6_plus_X6_add
theorem dX6_plus_0 : decode cX6_plus 0 = .ok (.aload_n 0, 1) := by decide +kernel
theorem dX6_plus_1 : decode cX6_plus 1 = .ok (.iload_n 1, 1) := by decide +kernel
theorem dX6_plus_2 : decode cX6_plus 2 = .ok (.iload_n 2, 1) := by decide +kernel
theorem dX6_plus_3 : decode cX6_plus 3 = .ok (.iload_n 3, 1) := by decide +kernel
theorem dX6_plus_4 : decode cX6_plus 4 = .ok (.aload_n 0, 1) := by decide +kernel
theorem dX6_plus_5 : decode cX6_plus 5 = .ok (.getfield 62, 3) := by decide +kernel
theorem dX6_plus_8 : decode cX6_plus 8 = .ok (.iload_n 3, 1) := by decide +kernel
theorem dX6_plus_9 : decode cX6_plus 9 = .ok (.iaload, 1) := by decide +kernel
theorem dX6_plus_10 : decode cX6_plus 10 = .ok (.invokevirtual 88, 3) := by decide +kernel
theorem dX6_plus_13 : decode cX6_plus 13 = .ok (.return_, 1) := by decide +kernel
set_option maxRecDepth 20000 in
theorem ggX6_minus_X6_add : GoodIn wsX6_minus wsX6_add := goodIn_r _ [6, 1, 7, 8, 9, 10, 11, 5, 12, 13, 14, 15, 16, 17, 18, 19, 20, 21, 22, 23, 24, 25, 26, 27, 28, 29, 30, 31, 32, 33, 34, 35, 36, 37, 38, 39, 40, 41, 42, 43, 44, 45, 46] rfl rfl
set_option maxRecDepth 20000 in
theorem gX6_minus_X6_add : GoodIn wsX6_minus (wsV RX6 88 RX6 yX6_add wsX6_add) := goodIn_app (goodIn_r _ [2, 3, 4, 5] rfl rfl) ggX6_minus_X6_add
theorem dX6_minus_0 : decode cX6_minus 0 = .ok (.aload_n 0, 1) := by decide +kernel
theorem dX6_minus_1 : decode cX6_minus 1 = .ok (.iload_n 1, 1) := by decide +kernel
theorem dX6_minus_2 : decode cX6_minus 2 = .ok (.iload_n 2, 1) := by decide +kernel
theorem dX6_minus_3 : decode cX6_minus 3 = .ok (.iload_n 3, 1) := by decide +kernel
theorem dX6_minus_4 : decode cX6_minus 4 = .ok (.aload_n 0, 1) := by decide +kernel
theorem dX6_minus_5 : decode cX6_minus 5 = .ok (.getfield 62, 3) := by decide +kernel
theorem dX6_minus_8 : decode cX6_minus 8 = .ok (.iload_n 3, 1) := by decide +kernel
theorem dX6_minus_9 : decode cX6_minus 9 = .ok (.iaload, 1) := by decide +kernel
theorem dX6_minus_10 : decode cX6_minus 10 = .ok (.ineg, 1) := by decide +kernel
theorem dX6_minus_11 : decode cX6_minus 11 = .ok (.invokevirtual 88, 3) := by decide +kernel
theorem dX6_minus_14 : decode cX6_minus 14 = .ok (.return_, 1) := by decide +kernel
set_option maxRecDepth 20000 in
theorem ggX6_times_X6_at : GoodIn wsX6_times wsX6_at := goodIn_r _ [9, 1, 2, 14, 15, 16, 17, 18, 19, 20, 21, 22, 23, 24, 25, 26, 27, 28, 29, 30, 31, 32, 33, 34, 35] rfl rfl
set_option maxRecDepth 20000 in
theorem gX6_times_X6_at : GoodIn wsX6_times (wsV RX6 74 RX6 yX6_at wsX6_at) := goodIn_app (goodIn_r _ [5, 6, 7, 8] rfl rfl) ggX6_times_X6_at
set_option maxRecDepth 20000 in
theorem ggX6_times_X6_trim : GoodIn wsX6_times wsX6_trim := goodIn_r _ [13, 1, 2, 4, 14, 15, 16, 17, 18, 19, 20, 21, 22, 23, 24, 25, 26, 27, 28, 29, 30, 31, 32, 33, 34, 35] rfl rfl
set_option maxRecDepth 20000 in
theorem gX6_times_X6_trim : GoodIn wsX6_times (wsV RX6 85 RX6 yX6_trim wsX6_trim) := goodIn_app (goodIn_r _ [10, 11, 12, 8] rfl rfl) ggX6_times_X6_trim
theorem dX6_times_0 : decode cX6_times 0 = .ok (.aload_n 0, 1) := by decide +kernel
theorem dX6_times_1 : decode cX6_times 1 = .ok (.getfield 59, 3) := by decide +kernel
theorem dX6_times_4 : decode cX6_times 4 = .ok (.iload_n 2, 1) := by decide +kernel
theorem dX6_times_5 : decode cX6_times 5 = .ok (.iaload, 1) := by decide +kernel
theorem dX6_times_6 : decode cX6_times 6 = .ok (.aload_n 0, 1) := by decide +kernel
theorem dX6_times_7 : decode cX6_times 7 = .ok (.getfield 59, 3) := by decide +kernel
theorem dX6_times_10 : decode cX6_times 10 = .ok (.iload_n 3, 1) := by decide +kernel
theorem dX6_times_11 : decode cX6_times 11 = .ok (.iaload, 1) := by decide +kernel
theorem dX6_times_12 : decode cX6_times 12 = .ok (.iadd, 1) := by decide +kernel
theorem dX6_times_13 : decode cX6_times 13 = .ok (.istore 4, 2) := by decide +kernel
theorem dX6_times_15 : decode cX6_times 15 = .ok (.iconst 0, 1) := by decide +kernel
theorem dX6_times_16 : decode cX6_times 16 = .ok (.istore 5, 2) := by decide +kernel
theorem dX6_times_18 : decode cX6_times 18 = .ok (.iload 5, 2) := by decide +kernel
theorem dX6_times_20 : decode cX6_times 20 = .ok (.iload 4, 2) := by decide +kernel
theorem dX6_times_22 : decode cX6_times 22 = .ok (.if_icmp .ge 23, 3) := by decide +kernel
theorem dX6_times_25 : decode cX6_times 25 = .ok (.aload_n 0, 1) := by decide +kernel
theorem dX6_times_26 : decode cX6_times 26 = .ok (.getfield 56, 3) := by decide +kernel
theorem dX6_times_29 : decode cX6_times 29 = .ok (.sipush 200, 3) := by decide +kernel
theorem dX6_times_32 : decode cX6_times 32 = .ok (.iload_n 1, 1) := by decide +kernel
theorem dX6_times_33 : decode cX6_times 33 = .ok (.imul, 1) := by decide +kernel
theorem dX6_times_34 : decode cX6_times 34 = .ok (.iload 5, 2) := by decide +kernel
theorem dX6_times_36 : decode cX6_times 36 = .ok (.iadd, 1) := by decide +kernel
theorem dX6_times_37 : decode cX6_times 37 = .ok (.iconst 0, 1) := by decide +kernel
theorem dX6_times_38 : decode cX6_times 38 = .ok (.iastore, 1) := by decide +kernel
theorem dX6_times_39 : decode cX6_times 39 = .ok (.iinc 5 1, 3) := by decide +kernel
theorem dX6_times_42 : decode cX6_times 42 = .ok (.goto (-24), 3) := by decide +kernel
theorem dX6_times_45 : decode cX6_times 45 = .ok (.iconst 0, 1) := by decide +kernel
theorem dX6_times_46 : decode cX6_times 46 = .ok (.istore 5, 2) := by decide +kernel
theorem dX6_times_48 : decode cX6_times 48 = .ok (.iload 5, 2) := by decide +kernel
theorem dX6_times_50 : decode cX6_times 50 = .ok (.aload_n 0, 1) := by decide +kernel
theorem dX6_times_51 : decode cX6_times 51 = .ok (.getfield 59, 3) := by decide +kernel
theorem dX6_times_54 : decode cX6_times 54 = .ok (.iload_n 2, 1) := by decide +kernel
theorem dX6_times_55 : decode cX6_times 55 = .ok (.iaload, 1) := by decide +kernel
theorem dX6_times_56 : decode cX6_times 56 = .ok (.if_icmp .ge 125, 3) := by decide +kernel
theorem dX6_times_59 : decode cX6_times 59 = .ok (.lconst 0, 1) := by decide +kernel
theorem dX6_times_60 : decode cX6_times 60 = .ok (.lstore 6, 2) := by decide +kernel
theorem dX6_times_62 : decode cX6_times 62 = .ok (.iconst 0, 1) := by decide +kernel
theorem dX6_times_63 : decode cX6_times 63 = .ok (.istore 8, 2) := by decide +kernel
theorem dX6_times_65 : decode cX6_times 65 = .ok (.iload 8, 2) := by decide +kernel
theorem dX6_times_67 : decode cX6_times 67 = .ok (.aload_n 0, 1) := by decide +kernel
theorem dX6_times_68 : decode cX6_times 68 = .ok (.getfield 59, 3) := by decide +kernel
theorem dX6_times_71 : decode cX6_times 71 = .ok (.iload_n 3, 1) := by decide +kernel
theorem dX6_times_72 : decode cX6_times 72 = .ok (.iaload, 1) := by decide +kernel
theorem dX6_times_73 : decode cX6_times 73 = .ok (.if_icmp .ge 79, 3) := by decide +kernel
theorem dX6_times_76 : decode cX6_times 76 = .ok (.aload_n 0, 1) := by decide +kernel
theorem dX6_times_77 : decode cX6_times 77 = .ok (.iload_n 2, 1) := by decide +kernel
theorem dX6_times_78 : decode cX6_times 78 = .ok (.iload 5, 2) := by decide +kernel
theorem dX6_times_80 : decode cX6_times 80 = .ok (.invokevirtual 74, 3) := by decide +kernel
theorem dX6_times_83 : decode cX6_times 83 = .ok (.i2l, 1) := by decide +kernel
theorem dX6_times_84 : decode cX6_times 84 = .ok (.aload_n 0, 1) := by decide +kernel
theorem dX6_times_85 : decode cX6_times 85 = .ok (.iload_n 3, 1) := by decide +kernel
theorem dX6_times_86 : decode cX6_times 86 = .ok (.iload 8, 2) := by decide +kernel
theorem dX6_times_88 : decode cX6_times 88 = .ok (.invokevirtual 74, 3) := by decide +kernel
theorem dX6_times_91 : decode cX6_times 91 = .ok (.i2l, 1) := by decide +kernel
theorem dX6_times_92 : decode cX6_times 92 = .ok (.lmul, 1) := by decide +kernel
theorem dX6_times_93 : decode cX6_times 93 = .ok (.aload_n 0, 1) := by decide +kernel
theorem dX6_times_94 : decode cX6_times 94 = .ok (.getfield 56, 3) := by decide +kernel
theorem dX6_times_97 : decode cX6_times 97 = .ok (.sipush 200, 3) := by decide +kernel
theorem dX6_times_100 : decode cX6_times 100 = .ok (.iload_n 1, 1) := by decide +kernel
theorem dX6_times_101 : decode cX6_times 101 = .ok (.imul, 1) := by decide +kernel
theorem dX6_times_102 : decode cX6_times 102 = .ok (.iload 5, 2) := by decide +kernel
theorem dX6_times_104 : decode cX6_times 104 = .ok (.iadd, 1) := by decide +kernel
theorem dX6_times_105 : decode cX6_times 105 = .ok (.iload 8, 2) := by decide +kernel
theorem dX6_times_107 : decode cX6_times 107 = .ok (.iadd, 1) := by decide +kernel
theorem dX6_times_108 : decode cX6_times 108 = .ok (.iaload, 1) := by decide +kernel
theorem dX6_times_109 : decode cX6_times 109 = .ok (.i2l, 1) := by decide +kernel
theorem dX6_times_110 : decode cX6_times 110 = .ok (.ladd, 1) := by decide +kernel
theorem dX6_times_111 : decode cX6_times 111 = .ok (.lload 6, 2) := by decide +kernel
theorem dX6_times_113 : decode cX6_times 113 = .ok (.ladd, 1) := by decide +kernel
theorem dX6_times_114 : decode cX6_times 114 = .ok (.lstore 9, 2) := by decide +kernel
theorem dX6_times_116 : decode cX6_times 116 = .ok (.aload_n 0, 1) := by decide +kernel
theorem dX6_times_117 : decode cX6_times 117 = .ok (.getfield 56, 3) := by decide +kernel
theorem dX6_times_120 : decode cX6_times 120 = .ok (.sipush 200, 3) := by decide +kernel
theorem dX6_times_123 : decode cX6_times 123 = .ok (.iload_n 1, 1) := by decide +kernel
theorem dX6_times_124 : decode cX6_times 124 = .ok (.imul, 1) := by decide +kernel
theorem dX6_times_125 : decode cX6_times 125 = .ok (.iload 5, 2) := by decide +kernel
theorem dX6_times_127 : decode cX6_times 127 = .ok (.iadd, 1) := by decide +kernel
theorem dX6_times_128 : decode cX6_times 128 = .ok (.iload 8, 2) := by decide +kernel
theorem dX6_times_130 : decode cX6_times 130 = .ok (.iadd, 1) := by decide +kernel
theorem dX6_times_131 : decode cX6_times 131 = .ok (.lload 9, 2) := by decide +kernel
theorem dX6_times_133 : decode cX6_times 133 = .ok (.ldc2_w 72, 3) := by decide +kernel
theorem dX6_times_136 : decode cX6_times 136 = .ok (.land, 1) := by decide +kernel
theorem dX6_times_137 : decode cX6_times 137 = .ok (.l2i, 1) := by decide +kernel
theorem dX6_times_138 : decode cX6_times 138 = .ok (.iastore, 1) := by decide +kernel
theorem dX6_times_139 : decode cX6_times 139 = .ok (.lload 9, 2) := by decide +kernel
theorem dX6_times_141 : decode cX6_times 141 = .ok (.bipush 15, 2) := by decide +kernel
theorem dX6_times_143 : decode cX6_times 143 = .ok (.lshr, 1) := by decide +kernel
theorem dX6_times_144 : decode cX6_times 144 = .ok (.lstore 6, 2) := by decide +kernel
theorem dX6_times_146 : decode cX6_times 146 = .ok (.iinc 8 1, 3) := by decide +kernel
theorem dX6_times_149 : decode cX6_times 149 = .ok (.goto (-84), 3) := by decide +kernel
theorem dX6_times_152 : decode cX6_times 152 = .ok (.aload_n 0, 1) := by decide +kernel
theorem dX6_times_153 : decode cX6_times 153 = .ok (.getfield 56, 3) := by decide +kernel
theorem dX6_times_156 : decode cX6_times 156 = .ok (.sipush 200, 3) := by decide +kernel
theorem dX6_times_159 : decode cX6_times 159 = .ok (.iload_n 1, 1) := by decide +kernel
theorem dX6_times_160 : decode cX6_times 160 = .ok (.imul, 1) := by decide +kernel
theorem dX6_times_161 : decode cX6_times 161 = .ok (.iload 5, 2) := by decide +kernel
theorem dX6_times_163 : decode cX6_times 163 = .ok (.iadd, 1) := by decide +kernel
theorem dX6_times_164 : decode cX6_times 164 = .ok (.aload_n 0, 1) := by decide +kernel
theorem dX6_times_165 : decode cX6_times 165 = .ok (.getfield 59, 3) := by decide +kernel
theorem dX6_times_168 : decode cX6_times 168 = .ok (.iload_n 3, 1) := by decide +kernel
theorem dX6_times_169 : decode cX6_times 169 = .ok (.iaload, 1) := by decide +kernel
theorem dX6_times_170 : decode cX6_times 170 = .ok (.iadd, 1) := by decide +kernel
theorem dX6_times_171 : decode cX6_times 171 = .ok (.lload 6, 2) := by decide +kernel
theorem dX6_times_173 : decode cX6_times 173 = .ok (.l2i, 1) := by decide +kernel
theorem dX6_times_174 : decode cX6_times 174 = .ok (.iastore, 1) := by decide +kernel
theorem dX6_times_175 : decode cX6_times 175 = .ok (.iinc 5 1, 3) := by decide +kernel
theorem dX6_times_178 : decode cX6_times 178 = .ok (.goto (-130), 3) := by decide +kernel
theorem dX6_times_181 : decode cX6_times 181 = .ok (.aload_n 0, 1) := by decide +kernel
theorem dX6_times_182 : decode cX6_times 182 = .ok (.getfield 62, 3) := by decide +kernel
theorem dX6_times_185 : decode cX6_times 185 = .ok (.iload_n 1, 1) := by decide +kernel
theorem dX6_times_186 : decode cX6_times 186 = .ok (.aload_n 0, 1) := by decide +kernel
theorem dX6_times_187 : decode cX6_times 187 = .ok (.getfield 62, 3) := by decide +kernel
theorem dX6_times_190 : decode cX6_times 190 = .ok (.iload_n 2, 1) := by decide +kernel
theorem dX6_times_191 : decode cX6_times 191 = .ok (.iaload, 1) := by decide +kernel
theorem dX6_times_192 : decode cX6_times 192 = .ok (.aload_n 0, 1) := by decide +kernel
theorem dX6_times_193 : decode cX6_times 193 = .ok (.getfield 62, 3) := by decide +kernel
theorem dX6_times_196 : decode cX6_times 196 = .ok (.iload_n 3, 1) := by decide +kernel
theorem dX6_times_197 : decode cX6_times 197 = .ok (.iaload, 1) := by decide +kernel
theorem dX6_times_198 : decode cX6_times 198 = .ok (.imul, 1) := by decide +kernel
theorem dX6_times_199 : decode cX6_times 199 = .ok (.iastore, 1) := by decide +kernel
theorem dX6_times_200 : decode cX6_times 200 = .ok (.aload_n 0, 1) := by decide +kernel
theorem dX6_times_201 : decode cX6_times 201 = .ok (.iload_n 1, 1) := by decide +kernel
theorem dX6_times_202 : decode cX6_times 202 = .ok (.iload 4, 2) := by decide +kernel
theorem dX6_times_204 : decode cX6_times 204 = .ok (.invokevirtual 85, 3) := by decide +kernel
theorem dX6_times_207 : decode cX6_times 207 = .ok (.return_, 1) := by decide +kernel
set_option maxRecDepth 20000 in
theorem ggX6_by_X6_set : GoodIn wsX6_by wsX6_set := goodIn_r _ [5, 6, 7, 8, 9, 26, 27, 28, 29, 30, 31, 32, 33, 34, 35, 36, 37, 38, 39, 40, 41, 42, 43, 44, 45, 46, 47] rfl rfl
set_option maxRecDepth 20000 in
theorem gX6_by_X6_set : GoodIn wsX6_by (wsV RX6 92 RX6 yX6_set wsX6_set) := goodIn_app (goodIn_r _ [1, 2, 3, 4] rfl rfl) ggX6_by_X6_set
set_option maxRecDepth 20000 in
theorem ggX6_by_X6_times : GoodIn wsX6_by wsX6_times := goodIn_r _ [13, 7, 8, 9, 6, 14, 15, 16, 4, 17, 18, 19, 20, 21, 26, 27, 28, 29, 30, 31, 32, 33, 34, 35, 36, 37, 38, 39, 40, 41, 42, 43, 44, 45, 46, 47] rfl rfl
set_option maxRecDepth 20000 in
theorem gX6_by_X6_times : GoodIn wsX6_by (wsV RX6 96 RX6 yX6_times wsX6_times) := goodIn_app (goodIn_r _ [10, 11, 12, 4] rfl rfl) ggX6_by_X6_times
set_option maxRecDepth 20000 in
theorem ggX6_by_X6_copy : GoodIn wsX6_by wsX6_copy := goodIn_r _ [25, 7, 8, 6, 26, 27, 28, 29, 30, 31, 32, 33, 34, 35, 36, 37, 38, 39, 40, 41, 42, 43, 44, 45, 46, 47] rfl rfl
set_option maxRecDepth 20000 in
theorem gX6_by_X6_copy : GoodIn wsX6_by (wsV RX6 81 RX6 yX6_copy wsX6_copy) := goodIn_app (goodIn_r _ [22, 23, 24, 4] rfl rfl) ggX6_by_X6_copy
theorem dX6_by_0 : decode cX6_by 0 = .ok (.aload_n 0, 1) := by decide +kernel
theorem dX6_by_1 : decode cX6_by 1 = .ok (.bipush 39, 2) := by decide +kernel
theorem dX6_by_3 : decode cX6_by 3 = .ok (.lload_n 2, 1) := by decide +kernel
theorem dX6_by_4 : decode cX6_by 4 = .ok (.invokevirtual 92, 3) := by decide +kernel
theorem dX6_by_7 : decode cX6_by 7 = .ok (.aload_n 0, 1) := by decide +kernel
theorem dX6_by_8 : decode cX6_by 8 = .ok (.bipush 37, 2) := by decide +kernel
theorem dX6_by_10 : decode cX6_by 10 = .ok (.iload_n 1, 1) := by decide +kernel
theorem dX6_by_11 : decode cX6_by 11 = .ok (.bipush 39, 2) := by decide +kernel
theorem dX6_by_13 : decode cX6_by 13 = .ok (.invokevirtual 96, 3) := by decide +kernel
theorem dX6_by_16 : decode cX6_by 16 = .ok (.aload_n 0, 1) := by decide +kernel
theorem dX6_by_17 : decode cX6_by 17 = .ok (.iload_n 1, 1) := by decide +kernel
theorem dX6_by_18 : decode cX6_by 18 = .ok (.bipush 37, 2) := by decide +kernel
theorem dX6_by_20 : decode cX6_by 20 = .ok (.invokevirtual 81, 3) := by decide +kernel
theorem dX6_by_23 : decode cX6_by 23 = .ok (.return_, 1) := by decide +kernel
set_option maxRecDepth 20000 in
theorem ggX6_isEven_X6_at : GoodIn wsX6_isEven wsX6_at := goodIn_r _ [5, 6, 7, 8, 9, 10, 11, 12, 13, 14, 15, 16, 17, 18, 19, 20, 21, 22, 23, 24, 25, 26, 27, 28, 29] rfl rfl
set_option maxRecDepth 20000 in
theorem gX6_isEven_X6_at : GoodIn wsX6_isEven (wsV RX6 74 RX6 yX6_at wsX6_at) := goodIn_app (goodIn_r _ [1, 2, 3, 4] rfl rfl) ggX6_isEven_X6_at
theorem dX6_isEven_0 : decode cX6_isEven 0 = .ok (.aload_n 0, 1) := by decide +kernel
theorem dX6_isEven_1 : decode cX6_isEven 1 = .ok (.iload_n 1, 1) := by decide +kernel
theorem dX6_isEven_2 : decode cX6_isEven 2 = .ok (.iconst 0, 1) := by decide +kernel
theorem dX6_isEven_3 : decode cX6_isEven 3 = .ok (.invokevirtual 74, 3) := by decide +kernel
theorem dX6_isEven_6 : decode cX6_isEven 6 = .ok (.iconst 1, 1) := by decide +kernel
theorem dX6_isEven_7 : decode cX6_isEven 7 = .ok (.iand, 1) := by decide +kernel
theorem dX6_isEven_8 : decode cX6_isEven 8 = .ok (.ifCond .ne 7, 3) := by decide +kernel
theorem dX6_isEven_11 : decode cX6_isEven 11 = .ok (.iconst 1, 1) := by decide +kernel
theorem dX6_isEven_12 : decode cX6_isEven 12 = .ok (.goto 4, 3) := by decide +kernel
theorem dX6_isEven_15 : decode cX6_isEven 15 = .ok (.iconst 0, 1) := by decide +kernel
theorem dX6_isEven_16 : decode cX6_isEven 16 = .ok (.ireturn, 1) := by decide +kernel
set_option maxRecDepth 20000 in
theorem ggX6_halve_X6_at : GoodIn wsX6_halve wsX6_at := goodIn_r _ [7, 1, 2, 13, 14, 15, 16, 17, 18, 19, 20, 21, 22, 23, 24, 25, 26, 27, 28, 29, 30, 31, 32, 33, 34] rfl rfl
set_option maxRecDepth 20000 in
theorem gX6_halve_X6_at : GoodIn wsX6_halve (wsV RX6 74 RX6 yX6_at wsX6_at) := goodIn_app (goodIn_r _ [3, 4, 5, 6] rfl rfl) ggX6_halve_X6_at
set_option maxRecDepth 20000 in
theorem ggX6_halve_X6_trim : GoodIn wsX6_halve wsX6_trim := goodIn_r _ [11, 1, 2, 12, 13, 14, 15, 16, 17, 18, 19, 20, 21, 22, 23, 24, 25, 26, 27, 28, 29, 30, 31, 32, 33, 34] rfl rfl
set_option maxRecDepth 20000 in
theorem gX6_halve_X6_trim : GoodIn wsX6_halve (wsV RX6 85 RX6 yX6_trim wsX6_trim) := goodIn_app (goodIn_r _ [8, 9, 10, 6] rfl rfl) ggX6_halve_X6_trim
theorem dX6_halve_0 : decode cX6_halve 0 = .ok (.iconst 0, 1) := by decide +kernel
theorem dX6_halve_1 : decode cX6_halve 1 = .ok (.istore_n 2, 1) := by decide +kernel
theorem dX6_halve_2 : decode cX6_halve 2 = .ok (.iload_n 2, 1) := by decide +kernel
theorem dX6_halve_3 : decode cX6_halve 3 = .ok (.aload_n 0, 1) := by decide +kernel
theorem dX6_halve_4 : decode cX6_halve 4 = .ok (.getfield 59, 3) := by decide +kernel
theorem dX6_halve_7 : decode cX6_halve 7 = .ok (.iload_n 1, 1) := by decide +kernel
theorem dX6_halve_8 : decode cX6_halve 8 = .ok (.iaload, 1) := by decide +kernel
theorem dX6_halve_9 : decode cX6_halve 9 = .ok (.if_icmp .ge 43, 3) := by decide +kernel
theorem dX6_halve_12 : decode cX6_halve 12 = .ok (.aload_n 0, 1) := by decide +kernel
theorem dX6_halve_13 : decode cX6_halve 13 = .ok (.getfield 56, 3) := by decide +kernel
theorem dX6_halve_16 : decode cX6_halve 16 = .ok (.sipush 200, 3) := by decide +kernel
theorem dX6_halve_19 : decode cX6_halve 19 = .ok (.iload_n 1, 1) := by decide +kernel
theorem dX6_halve_20 : decode cX6_halve 20 = .ok (.imul, 1) := by decide +kernel
theorem dX6_halve_21 : decode cX6_halve 21 = .ok (.iload_n 2, 1) := by decide +kernel
theorem dX6_halve_22 : decode cX6_halve 22 = .ok (.iadd, 1) := by decide +kernel
theorem dX6_halve_23 : decode cX6_halve 23 = .ok (.aload_n 0, 1) := by decide +kernel
theorem dX6_halve_24 : decode cX6_halve 24 = .ok (.iload_n 1, 1) := by decide +kernel
theorem dX6_halve_25 : decode cX6_halve 25 = .ok (.iload_n 2, 1) := by decide +kernel
theorem dX6_halve_26 : decode cX6_halve 26 = .ok (.invokevirtual 74, 3) := by decide +kernel
theorem dX6_halve_29 : decode cX6_halve 29 = .ok (.iconst 1, 1) := by decide +kernel
theorem dX6_halve_30 : decode cX6_halve 30 = .ok (.ishr, 1) := by decide +kernel
theorem dX6_halve_31 : decode cX6_halve 31 = .ok (.aload_n 0, 1) := by decide +kernel
theorem dX6_halve_32 : decode cX6_halve 32 = .ok (.iload_n 1, 1) := by decide +kernel
theorem dX6_halve_33 : decode cX6_halve 33 = .ok (.iload_n 2, 1) := by decide +kernel
theorem dX6_halve_34 : decode cX6_halve 34 = .ok (.iconst 1, 1) := by decide +kernel
theorem dX6_halve_35 : decode cX6_halve 35 = .ok (.iadd, 1) := by decide +kernel
theorem dX6_halve_36 : decode cX6_halve 36 = .ok (.invokevirtual 74, 3) := by decide +kernel
theorem dX6_halve_39 : decode cX6_halve 39 = .ok (.iconst 1, 1) := by decide +kernel
theorem dX6_halve_40 : decode cX6_halve 40 = .ok (.iand, 1) := by decide +kernel
theorem dX6_halve_41 : decode cX6_halve 41 = .ok (.bipush 14, 2) := by decide +kernel
theorem dX6_halve_43 : decode cX6_halve 43 = .ok (.ishl, 1) := by decide +kernel
theorem dX6_halve_44 : decode cX6_halve 44 = .ok (.ior, 1) := by decide +kernel
theorem dX6_halve_45 : decode cX6_halve 45 = .ok (.iastore, 1) := by decide +kernel
theorem dX6_halve_46 : decode cX6_halve 46 = .ok (.iinc 2 1, 3) := by decide +kernel
theorem dX6_halve_49 : decode cX6_halve 49 = .ok (.goto (-47), 3) := by decide +kernel
theorem dX6_halve_52 : decode cX6_halve 52 = .ok (.aload_n 0, 1) := by decide +kernel
theorem dX6_halve_53 : decode cX6_halve 53 = .ok (.iload_n 1, 1) := by decide +kernel
theorem dX6_halve_54 : decode cX6_halve 54 = .ok (.aload_n 0, 1) := by decide +kernel
theorem dX6_halve_55 : decode cX6_halve 55 = .ok (.getfield 59, 3) := by decide +kernel
theorem dX6_halve_58 : decode cX6_halve 58 = .ok (.iload_n 1, 1) := by decide +kernel
theorem dX6_halve_59 : decode cX6_halve 59 = .ok (.iaload, 1) := by decide +kernel
theorem dX6_halve_60 : decode cX6_halve 60 = .ok (.invokevirtual 85, 3) := by decide +kernel
theorem dX6_halve_63 : decode cX6_halve 63 = .ok (.return_, 1) := by decide +kernel
set_option maxRecDepth 20000 in
theorem ggX6_common_X6_copy : GoodIn wsX6_common wsX6_copy := goodIn_r _ [6, 7, 8, 1, 41, 42, 43, 44, 45, 46, 47, 48, 49, 50, 51, 52, 53, 54, 55, 56, 57, 58, 59, 60, 61, 62] rfl rfl
set_option maxRecDepth 20000 in
theorem gX6_common_X6_copy : GoodIn wsX6_common (wsV RX6 81 RX6 yX6_copy wsX6_copy) := goodIn_app (goodIn_r _ [2, 3, 4, 5] rfl rfl) ggX6_common_X6_copy
set_option maxRecDepth 20000 in
theorem ggX6_common_X6_isEven : GoodIn wsX6_common wsX6_isEven := goodIn_r _ [12, 13, 14, 15, 5, 16, 7, 8, 41, 42, 43, 44, 45, 46, 47, 48, 49, 50, 51, 52, 53, 54, 55, 56, 57, 58, 59, 60, 61, 62] rfl rfl
set_option maxRecDepth 20000 in
theorem gX6_common_X6_isEven : GoodIn wsX6_common (wsV RX6 100 RX6 yX6_isEven wsX6_isEven) := goodIn_app (goodIn_r _ [9, 10, 11, 5] rfl rfl) ggX6_common_X6_isEven
set_option maxRecDepth 20000 in
theorem ggX6_common_X6_halve : GoodIn wsX6_common wsX6_halve := goodIn_r _ [20, 7, 8, 13, 14, 15, 5, 16, 21, 22, 23, 24, 1, 41, 42, 43, 44, 45, 46, 47, 48, 49, 50, 51, 52, 53, 54, 55, 56, 57, 58, 59, 60, 61, 62] rfl rfl
set_option maxRecDepth 20000 in
theorem gX6_common_X6_halve : GoodIn wsX6_common (wsV RX6 104 RX6 yX6_halve wsX6_halve) := goodIn_app (goodIn_r _ [17, 18, 19, 5] rfl rfl) ggX6_common_X6_halve
set_option maxRecDepth 20000 in
theorem ggX6_common_X6_compareSizes : GoodIn wsX6_common wsX6_compareSizes := goodIn_r _ [28, 7, 13, 14, 15, 5, 16, 8, 41, 42, 43, 44, 45, 46, 47, 48, 49, 50, 51, 52, 53, 54, 55, 56, 57, 58, 59, 60, 61, 62] rfl rfl
set_option maxRecDepth 20000 in
theorem gX6_common_X6_compareSizes : GoodIn wsX6_common (wsV RX6 78 RX6 yX6_compareSizes wsX6_compareSizes) := goodIn_app (goodIn_r _ [25, 26, 27, 5] rfl rfl) ggX6_common_X6_compareSizes
set_option maxRecDepth 20000 in
theorem ggX6_common_X6_minus : GoodIn wsX6_common wsX6_minus := goodIn_r _ [32, 1, 33, 34, 35, 5, 36, 7, 8, 2, 3, 4, 6, 13, 14, 15, 16, 21, 22, 23, 24, 25, 26, 27, 28, 41, 42, 43, 44, 45, 46, 47, 48, 49, 50, 51, 52, 53, 54, 55, 56, 57, 58, 59, 60, 61, 62] rfl rfl
set_option maxRecDepth 20000 in
theorem gX6_common_X6_minus : GoodIn wsX6_common (wsV RX6 108 RX6 yX6_minus wsX6_minus) := goodIn_app (goodIn_r _ [29, 30, 31, 5] rfl rfl) ggX6_common_X6_minus
set_option maxRecDepth 20000 in
theorem ggX6_common_X6_plus : GoodIn wsX6_common wsX6_plus := goodIn_r _ [40, 1, 33, 34, 35, 5, 36, 7, 8, 2, 3, 4, 6, 13, 14, 15, 16, 21, 22, 23, 24, 25, 26, 27, 28, 41, 42, 43, 44, 45, 46, 47, 48, 49, 50, 51, 52, 53, 54, 55, 56, 57, 58, 59, 60, 61, 62] rfl rfl
set_option maxRecDepth 20000 in
theorem gX6_common_X6_plus : GoodIn wsX6_common (wsV RX6 111 RX6 yX6_plus wsX6_plus) := goodIn_app (goodIn_r _ [37, 38, 39, 5] rfl rfl) ggX6_common_X6_plus
theorem dX6_common_0 : decode cX6_common 0 = .ok (.aload_n 0, 1) := by decide +kernel
theorem dX6_common_1 : decode cX6_common 1 = .ok (.bipush 20, 2) := by decide +kernel
theorem dX6_common_3 : decode cX6_common 3 = .ok (.iload_n 1, 1) := by decide +kernel
theorem dX6_common_4 : decode cX6_common 4 = .ok (.invokevirtual 81, 3) := by decide +kernel
theorem dX6_common_7 : decode cX6_common 7 = .ok (.aload_n 0, 1) := by decide +kernel
theorem dX6_common_8 : decode cX6_common 8 = .ok (.bipush 21, 2) := by decide +kernel
theorem dX6_common_10 : decode cX6_common 10 = .ok (.iload_n 2, 1) := by decide +kernel
theorem dX6_common_11 : decode cX6_common 11 = .ok (.invokevirtual 81, 3) := by decide +kernel
theorem dX6_common_14 : decode cX6_common 14 = .ok (.aload_n 0, 1) := by decide +kernel
theorem dX6_common_15 : decode cX6_common 15 = .ok (.getfield 62, 3) := by decide +kernel
theorem dX6_common_18 : decode cX6_common 18 = .ok (.bipush 20, 2) := by decide +kernel
theorem dX6_common_20 : decode cX6_common 20 = .ok (.iconst 1, 1) := by decide +kernel
theorem dX6_common_21 : decode cX6_common 21 = .ok (.iastore, 1) := by decide +kernel
theorem dX6_common_22 : decode cX6_common 22 = .ok (.aload_n 0, 1) := by decide +kernel
theorem dX6_common_23 : decode cX6_common 23 = .ok (.getfield 62, 3) := by decide +kernel
theorem dX6_common_26 : decode cX6_common 26 = .ok (.bipush 21, 2) := by decide +kernel
theorem dX6_common_28 : decode cX6_common 28 = .ok (.iconst 1, 1) := by decide +kernel
theorem dX6_common_29 : decode cX6_common 29 = .ok (.iastore, 1) := by decide +kernel
theorem dX6_common_30 : decode cX6_common 30 = .ok (.iconst 0, 1) := by decide +kernel
theorem dX6_common_31 : decode cX6_common 31 = .ok (.istore_n 3, 1) := by decide +kernel
theorem dX6_common_32 : decode cX6_common 32 = .ok (.aload_n 0, 1) := by decide +kernel
theorem dX6_common_33 : decode cX6_common 33 = .ok (.bipush 20, 2) := by decide +kernel
theorem dX6_common_35 : decode cX6_common 35 = .ok (.invokevirtual 100, 3) := by decide +kernel
theorem dX6_common_38 : decode cX6_common 38 = .ok (.ifCond .eq 30, 3) := by decide +kernel
theorem dX6_common_41 : decode cX6_common 41 = .ok (.aload_n 0, 1) := by decide +kernel
theorem dX6_common_42 : decode cX6_common 42 = .ok (.bipush 21, 2) := by decide +kernel
theorem dX6_common_44 : decode cX6_common 44 = .ok (.invokevirtual 100, 3) := by decide +kernel
theorem dX6_common_47 : decode cX6_common 47 = .ok (.ifCond .eq 21, 3) := by decide +kernel
theorem dX6_common_50 : decode cX6_common 50 = .ok (.aload_n 0, 1) := by decide +kernel
theorem dX6_common_51 : decode cX6_common 51 = .ok (.bipush 20, 2) := by decide +kernel
theorem dX6_common_53 : decode cX6_common 53 = .ok (.invokevirtual 104, 3) := by decide +kernel
theorem dX6_common_56 : decode cX6_common 56 = .ok (.aload_n 0, 1) := by decide +kernel
theorem dX6_common_57 : decode cX6_common 57 = .ok (.bipush 21, 2) := by decide +kernel
theorem dX6_common_59 : decode cX6_common 59 = .ok (.invokevirtual 104, 3) := by decide +kernel
theorem dX6_common_62 : decode cX6_common 62 = .ok (.iinc 3 1, 3) := by decide +kernel
theorem dX6_common_65 : decode cX6_common 65 = .ok (.goto (-33), 3) := by decide +kernel
theorem dX6_common_68 : decode cX6_common 68 = .ok (.aload_n 0, 1) := by decide +kernel
theorem dX6_common_69 : decode cX6_common 69 = .ok (.getfield 62, 3) := by decide +kernel
theorem dX6_common_72 : decode cX6_common 72 = .ok (.bipush 21, 2) := by decide +kernel
theorem dX6_common_74 : decode cX6_common 74 = .ok (.iaload, 1) := by decide +kernel
theorem dX6_common_75 : decode cX6_common 75 = .ok (.ifCond .eq 87, 3) := by decide +kernel
theorem dX6_common_78 : decode cX6_common 78 = .ok (.aload_n 0, 1) := by decide +kernel
theorem dX6_common_79 : decode cX6_common 79 = .ok (.bipush 20, 2) := by decide +kernel
theorem dX6_common_81 : decode cX6_common 81 = .ok (.invokevirtual 100, 3) := by decide +kernel
theorem dX6_common_84 : decode cX6_common 84 = .ok (.ifCond .eq 12, 3) := by decide +kernel
theorem dX6_common_87 : decode cX6_common 87 = .ok (.aload_n 0, 1) := by decide +kernel
theorem dX6_common_88 : decode cX6_common 88 = .ok (.bipush 20, 2) := by decide +kernel
theorem dX6_common_90 : decode cX6_common 90 = .ok (.invokevirtual 104, 3) := by decide +kernel
theorem dX6_common_93 : decode cX6_common 93 = .ok (.goto (-15), 3) := by decide +kernel
theorem dX6_common_96 : decode cX6_common 96 = .ok (.aload_n 0, 1) := by decide +kernel
theorem dX6_common_97 : decode cX6_common 97 = .ok (.bipush 21, 2) := by decide +kernel
theorem dX6_common_99 : decode cX6_common 99 = .ok (.invokevirtual 100, 3) := by decide +kernel
theorem dX6_common_102 : decode cX6_common 102 = .ok (.ifCond .eq 12, 3) := by decide +kernel
theorem dX6_common_105 : decode cX6_common 105 = .ok (.aload_n 0, 1) := by decide +kernel
theorem dX6_common_106 : decode cX6_common 106 = .ok (.bipush 21, 2) := by decide +kernel
theorem dX6_common_108 : decode cX6_common 108 = .ok (.invokevirtual 104, 3) := by decide +kernel
theorem dX6_common_111 : decode cX6_common 111 = .ok (.goto (-15), 3) := by decide +kernel
theorem dX6_common_114 : decode cX6_common 114 = .ok (.aload_n 0, 1) := by decide +kernel
theorem dX6_common_115 : decode cX6_common 115 = .ok (.bipush 20, 2) := by decide +kernel
theorem dX6_common_117 : decode cX6_common 117 = .ok (.bipush 21, 2) := by decide +kernel
theorem dX6_common_119 : decode cX6_common 119 = .ok (.invokevirtual 78, 3) := by decide +kernel
theorem dX6_common_122 : decode cX6_common 122 = .ok (.ifCond .le 27, 3) := by decide +kernel
theorem dX6_common_125 : decode cX6_common 125 = .ok (.aload_n 0, 1) := by decide +kernel
theorem dX6_common_126 : decode cX6_common 126 = .ok (.bipush 22, 2) := by decide +kernel
theorem dX6_common_128 : decode cX6_common 128 = .ok (.bipush 20, 2) := by decide +kernel
theorem dX6_common_130 : decode cX6_common 130 = .ok (.invokevirtual 81, 3) := by decide +kernel
theorem dX6_common_133 : decode cX6_common 133 = .ok (.aload_n 0, 1) := by decide +kernel
theorem dX6_common_134 : decode cX6_common 134 = .ok (.bipush 20, 2) := by decide +kernel
theorem dX6_common_136 : decode cX6_common 136 = .ok (.bipush 21, 2) := by decide +kernel
theorem dX6_common_138 : decode cX6_common 138 = .ok (.invokevirtual 81, 3) := by decide +kernel
theorem dX6_common_141 : decode cX6_common 141 = .ok (.aload_n 0, 1) := by decide +kernel
theorem dX6_common_142 : decode cX6_common 142 = .ok (.bipush 21, 2) := by decide +kernel
theorem dX6_common_144 : decode cX6_common 144 = .ok (.bipush 22, 2) := by decide +kernel
theorem dX6_common_146 : decode cX6_common 146 = .ok (.invokevirtual 81, 3) := by decide +kernel
theorem dX6_common_149 : decode cX6_common 149 = .ok (.aload_n 0, 1) := by decide +kernel
theorem dX6_common_150 : decode cX6_common 150 = .ok (.bipush 21, 2) := by decide +kernel
theorem dX6_common_152 : decode cX6_common 152 = .ok (.bipush 21, 2) := by decide +kernel
theorem dX6_common_154 : decode cX6_common 154 = .ok (.bipush 20, 2) := by decide +kernel
theorem dX6_common_156 : decode cX6_common 156 = .ok (.invokevirtual 108, 3) := by decide +kernel
theorem dX6_common_159 : decode cX6_common 159 = .ok (.goto (-91), 3) := by decide +kernel
theorem dX6_common_162 : decode cX6_common 162 = .ok (.iconst 0, 1) := by decide +kernel
theorem dX6_common_163 : decode cX6_common 163 = .ok (.istore 4, 2) := by decide +kernel
theorem dX6_common_165 : decode cX6_common 165 = .ok (.iload 4, 2) := by decide +kernel
theorem dX6_common_167 : decode cX6_common 167 = .ok (.iload_n 3, 1) := by decide +kernel
theorem dX6_common_168 : decode cX6_common 168 = .ok (.if_icmp .ge 19, 3) := by decide +kernel
theorem dX6_common_171 : decode cX6_common 171 = .ok (.aload_n 0, 1) := by decide +kernel
theorem dX6_common_172 : decode cX6_common 172 = .ok (.bipush 20, 2) := by decide +kernel
theorem dX6_common_174 : decode cX6_common 174 = .ok (.bipush 20, 2) := by decide +kernel
theorem dX6_common_176 : decode cX6_common 176 = .ok (.bipush 20, 2) := by decide +kernel
theorem dX6_common_178 : decode cX6_common 178 = .ok (.invokevirtual 111, 3) := by decide +kernel
theorem dX6_common_181 : decode cX6_common 181 = .ok (.iinc 4 1, 3) := by decide +kernel
theorem dX6_common_184 : decode cX6_common 184 = .ok (.goto (-19), 3) := by decide +kernel
theorem dX6_common_187 : decode cX6_common 187 = .ok (.return_, 1) := by decide +kernel
set_option maxRecDepth 20000 in
theorem ggX6_divide_X6_set : GoodIn wsX6_divide wsX6_set := goodIn_r _ [8, 3, 1, 2, 9, 38, 39, 40, 41, 42, 43, 44, 45, 46, 47, 48, 49, 50, 51, 52, 53, 54, 55, 56, 57, 58, 59] rfl rfl
set_option maxRecDepth 20000 in
theorem gX6_divide_X6_set : GoodIn wsX6_divide (wsV RX6 92 RX6 yX6_set wsX6_set) := goodIn_app (goodIn_r _ [4, 5, 6, 7] rfl rfl) ggX6_divide_X6_set
set_option maxRecDepth 20000 in
theorem ggX6_divide_X6_plus : GoodIn wsX6_divide wsX6_plus := goodIn_r _ [13, 3, 14, 15, 16, 7, 17, 1, 2, 18, 19, 20, 21, 22, 23, 24, 25, 26, 27, 28, 29, 30, 31, 32, 33, 38, 39, 40, 41, 42, 43, 44, 45, 46, 47, 48, 49, 50, 51, 52, 53, 54, 55, 56, 57, 58, 59] rfl rfl
set_option maxRecDepth 20000 in
theorem gX6_divide_X6_plus : GoodIn wsX6_divide (wsV RX6 111 RX6 yX6_plus wsX6_plus) := goodIn_app (goodIn_r _ [10, 11, 12, 7] rfl rfl) ggX6_divide_X6_plus
set_option maxRecDepth 20000 in
theorem ggX6_divide_X6_at : GoodIn wsX6_divide wsX6_at := goodIn_r _ [25, 1, 2, 38, 39, 40, 41, 42, 43, 44, 45, 46, 47, 48, 49, 50, 51, 52, 53, 54, 55, 56, 57, 58, 59] rfl rfl
set_option maxRecDepth 20000 in
theorem gX6_divide_X6_at : GoodIn wsX6_divide (wsV RX6 74 RX6 yX6_at wsX6_at) := goodIn_app (goodIn_r _ [22, 23, 24, 7] rfl rfl) ggX6_divide_X6_at
set_option maxRecDepth 20000 in
theorem ggX6_divide_X6_compareSizes : GoodIn wsX6_divide wsX6_compareSizes := goodIn_r _ [33, 1, 22, 23, 24, 7, 25, 2, 38, 39, 40, 41, 42, 43, 44, 45, 46, 47, 48, 49, 50, 51, 52, 53, 54, 55, 56, 57, 58, 59] rfl rfl
set_option maxRecDepth 20000 in
theorem gX6_divide_X6_compareSizes : GoodIn wsX6_divide (wsV RX6 78 RX6 yX6_compareSizes wsX6_compareSizes) := goodIn_app (goodIn_r _ [30, 31, 32, 7] rfl rfl) ggX6_divide_X6_compareSizes
set_option maxRecDepth 20000 in
theorem ggX6_divide_X6_minus : GoodIn wsX6_divide wsX6_minus := goodIn_r _ [37, 3, 14, 15, 16, 7, 17, 1, 2, 18, 19, 20, 21, 22, 23, 24, 25, 26, 27, 28, 29, 30, 31, 32, 33, 38, 39, 40, 41, 42, 43, 44, 45, 46, 47, 48, 49, 50, 51, 52, 53, 54, 55, 56, 57, 58, 59] rfl rfl
set_option maxRecDepth 20000 in
theorem gX6_divide_X6_minus : GoodIn wsX6_divide (wsV RX6 108 RX6 yX6_minus wsX6_minus) := goodIn_app (goodIn_r _ [34, 35, 36, 7] rfl rfl) ggX6_divide_X6_minus
set_option maxRecDepth 20000 in
theorem ggX6_divide_X6_trim : GoodIn wsX6_divide wsX6_trim := goodIn_r _ [29, 1, 2, 3, 38, 39, 40, 41, 42, 43, 44, 45, 46, 47, 48, 49, 50, 51, 52, 53, 54, 55, 56, 57, 58, 59] rfl rfl
set_option maxRecDepth 20000 in
theorem gX6_divide_X6_trim : GoodIn wsX6_divide (wsV RX6 85 RX6 yX6_trim wsX6_trim) := goodIn_app (goodIn_r _ [26, 27, 28, 7] rfl rfl) ggX6_divide_X6_trim
set_option maxRecDepth 20000 in
theorem ggX6_divide_X6_copy : GoodIn wsX6_divide wsX6_copy := goodIn_r _ [21, 1, 2, 3, 38, 39, 40, 41, 42, 43, 44, 45, 46, 47, 48, 49, 50, 51, 52, 53, 54, 55, 56, 57, 58, 59] rfl rfl
set_option maxRecDepth 20000 in
theorem gX6_divide_X6_copy : GoodIn wsX6_divide (wsV RX6 81 RX6 yX6_copy wsX6_copy) := goodIn_app (goodIn_r _ [18, 19, 20, 7] rfl rfl) ggX6_divide_X6_copy
theorem dX6_divide_0 : decode cX6_divide 0 = .ok (.aload_n 0, 1) := by decide +kernel
theorem dX6_divide_1 : decode cX6_divide 1 = .ok (.bipush 22, 2) := by decide +kernel
theorem dX6_divide_3 : decode cX6_divide 3 = .ok (.lconst 0, 1) := by decide +kernel
theorem dX6_divide_4 : decode cX6_divide 4 = .ok (.invokevirtual 92, 3) := by decide +kernel
theorem dX6_divide_7 : decode cX6_divide 7 = .ok (.iconst 0, 1) := by decide +kernel
theorem dX6_divide_8 : decode cX6_divide 8 = .ok (.istore_n 3, 1) := by decide +kernel
theorem dX6_divide_9 : decode cX6_divide 9 = .ok (.iload_n 3, 1) := by decide +kernel
theorem dX6_divide_10 : decode cX6_divide 10 = .ok (.aload_n 0, 1) := by decide +kernel
theorem dX6_divide_11 : decode cX6_divide 11 = .ok (.getfield 59, 3) := by decide +kernel
theorem dX6_divide_14 : decode cX6_divide 14 = .ok (.iload_n 1, 1) := by decide +kernel
theorem dX6_divide_15 : decode cX6_divide 15 = .ok (.iaload, 1) := by decide +kernel
theorem dX6_divide_16 : decode cX6_divide 16 = .ok (.if_icmp .ge 20, 3) := by decide +kernel
theorem dX6_divide_19 : decode cX6_divide 19 = .ok (.aload_n 0, 1) := by decide +kernel
theorem dX6_divide_20 : decode cX6_divide 20 = .ok (.getfield 56, 3) := by decide +kernel
theorem dX6_divide_23 : decode cX6_divide 23 = .ok (.sipush 4600, 3) := by decide +kernel
theorem dX6_divide_26 : decode cX6_divide 26 = .ok (.iload_n 3, 1) := by decide +kernel
theorem dX6_divide_27 : decode cX6_divide 27 = .ok (.iadd, 1) := by decide +kernel
theorem dX6_divide_28 : decode cX6_divide 28 = .ok (.iconst 0, 1) := by decide +kernel
theorem dX6_divide_29 : decode cX6_divide 29 = .ok (.iastore, 1) := by decide +kernel
theorem dX6_divide_30 : decode cX6_divide 30 = .ok (.iinc 3 1, 3) := by decide +kernel
theorem dX6_divide_33 : decode cX6_divide 33 = .ok (.goto (-24), 3) := by decide +kernel
theorem dX6_divide_36 : decode cX6_divide 36 = .ok (.bipush 15, 2) := by decide +kernel
theorem dX6_divide_38 : decode cX6_divide 38 = .ok (.aload_n 0, 1) := by decide +kernel
theorem dX6_divide_39 : decode cX6_divide 39 = .ok (.getfield 59, 3) := by decide +kernel
theorem dX6_divide_42 : decode cX6_divide 42 = .ok (.iload_n 1, 1) := by decide +kernel
theorem dX6_divide_43 : decode cX6_divide 43 = .ok (.iaload, 1) := by decide +kernel
theorem dX6_divide_44 : decode cX6_divide 44 = .ok (.imul, 1) := by decide +kernel
theorem dX6_divide_45 : decode cX6_divide 45 = .ok (.iconst 1, 1) := by decide +kernel
theorem dX6_divide_46 : decode cX6_divide 46 = .ok (.isub, 1) := by decide +kernel
theorem dX6_divide_47 : decode cX6_divide 47 = .ok (.istore_n 3, 1) := by decide +kernel
theorem dX6_divide_48 : decode cX6_divide 48 = .ok (.iload_n 3, 1) := by decide +kernel
theorem dX6_divide_49 : decode cX6_divide 49 = .ok (.ifCond .lt 125, 3) := by decide +kernel
theorem dX6_divide_52 : decode cX6_divide 52 = .ok (.aload_n 0, 1) := by decide +kernel
theorem dX6_divide_53 : decode cX6_divide 53 = .ok (.bipush 22, 2) := by decide +kernel
theorem dX6_divide_55 : decode cX6_divide 55 = .ok (.bipush 22, 2) := by decide +kernel
theorem dX6_divide_57 : decode cX6_divide 57 = .ok (.bipush 22, 2) := by decide +kernel
theorem dX6_divide_59 : decode cX6_divide 59 = .ok (.invokevirtual 111, 3) := by decide +kernel
theorem dX6_divide_62 : decode cX6_divide 62 = .ok (.aload_n 0, 1) := by decide +kernel
theorem dX6_divide_63 : decode cX6_divide 63 = .ok (.iload_n 1, 1) := by decide +kernel
theorem dX6_divide_64 : decode cX6_divide 64 = .ok (.iload_n 3, 1) := by decide +kernel
theorem dX6_divide_65 : decode cX6_divide 65 = .ok (.bipush 15, 2) := by decide +kernel
theorem dX6_divide_67 : decode cX6_divide 67 = .ok (.idiv, 1) := by decide +kernel
theorem dX6_divide_68 : decode cX6_divide 68 = .ok (.invokevirtual 74, 3) := by decide +kernel
theorem dX6_divide_71 : decode cX6_divide 71 = .ok (.iload_n 3, 1) := by decide +kernel
theorem dX6_divide_72 : decode cX6_divide 72 = .ok (.bipush 15, 2) := by decide +kernel
theorem dX6_divide_74 : decode cX6_divide 74 = .ok (.irem, 1) := by decide +kernel
theorem dX6_divide_75 : decode cX6_divide 75 = .ok (.ishr, 1) := by decide +kernel
theorem dX6_divide_76 : decode cX6_divide 76 = .ok (.iconst 1, 1) := by decide +kernel
theorem dX6_divide_77 : decode cX6_divide 77 = .ok (.iand, 1) := by decide +kernel
theorem dX6_divide_78 : decode cX6_divide 78 = .ok (.iconst 1, 1) := by decide +kernel
theorem dX6_divide_79 : decode cX6_divide 79 = .ok (.if_icmp .ne 35, 3) := by decide +kernel
theorem dX6_divide_82 : decode cX6_divide 82 = .ok (.aload_n 0, 1) := by decide +kernel
theorem dX6_divide_83 : decode cX6_divide 83 = .ok (.getfield 62, 3) := by decide +kernel
theorem dX6_divide_86 : decode cX6_divide 86 = .ok (.bipush 22, 2) := by decide +kernel
theorem dX6_divide_88 : decode cX6_divide 88 = .ok (.iaload, 1) := by decide +kernel
theorem dX6_divide_89 : decode cX6_divide 89 = .ok (.ifCond .ne 13, 3) := by decide +kernel
theorem dX6_divide_92 : decode cX6_divide 92 = .ok (.aload_n 0, 1) := by decide +kernel
theorem dX6_divide_93 : decode cX6_divide 93 = .ok (.bipush 22, 2) := by decide +kernel
theorem dX6_divide_95 : decode cX6_divide 95 = .ok (.lconst 1, 1) := by decide +kernel
theorem dX6_divide_96 : decode cX6_divide 96 = .ok (.invokevirtual 92, 3) := by decide +kernel
theorem dX6_divide_99 : decode cX6_divide 99 = .ok (.goto 15, 3) := by decide +kernel
theorem dX6_divide_102 : decode cX6_divide 102 = .ok (.aload_n 0, 1) := by decide +kernel
theorem dX6_divide_103 : decode cX6_divide 103 = .ok (.getfield 56, 3) := by decide +kernel
theorem dX6_divide_106 : decode cX6_divide 106 = .ok (.sipush 4400, 3) := by decide +kernel
theorem dX6_divide_109 : decode cX6_divide 109 = .ok (.dup2, 1) := by decide +kernel
theorem dX6_divide_110 : decode cX6_divide 110 = .ok (.iaload, 1) := by decide +kernel
theorem dX6_divide_111 : decode cX6_divide 111 = .ok (.iconst 1, 1) := by decide +kernel
theorem dX6_divide_112 : decode cX6_divide 112 = .ok (.ior, 1) := by decide +kernel
theorem dX6_divide_113 : decode cX6_divide 113 = .ok (.iastore, 1) := by decide +kernel
theorem dX6_divide_114 : decode cX6_divide 114 = .ok (.aload_n 0, 1) := by decide +kernel
theorem dX6_divide_115 : decode cX6_divide 115 = .ok (.getfield 62, 3) := by decide +kernel
theorem dX6_divide_118 : decode cX6_divide 118 = .ok (.bipush 22, 2) := by decide +kernel
theorem dX6_divide_120 : decode cX6_divide 120 = .ok (.iaload, 1) := by decide +kernel
theorem dX6_divide_121 : decode cX6_divide 121 = .ok (.ifCond .eq 47, 3) := by decide +kernel
theorem dX6_divide_124 : decode cX6_divide 124 = .ok (.aload_n 0, 1) := by decide +kernel
theorem dX6_divide_125 : decode cX6_divide 125 = .ok (.bipush 22, 2) := by decide +kernel
theorem dX6_divide_127 : decode cX6_divide 127 = .ok (.iload_n 2, 1) := by decide +kernel
theorem dX6_divide_128 : decode cX6_divide 128 = .ok (.invokevirtual 78, 3) := by decide +kernel
theorem dX6_divide_131 : decode cX6_divide 131 = .ok (.ifCond .ge 6, 3) := by decide +kernel
theorem dX6_divide_134 : decode cX6_divide 134 = .ok (.goto 34, 3) := by decide +kernel
theorem dX6_divide_137 : decode cX6_divide 137 = .ok (.aload_n 0, 1) := by decide +kernel
theorem dX6_divide_138 : decode cX6_divide 138 = .ok (.bipush 22, 2) := by decide +kernel
theorem dX6_divide_140 : decode cX6_divide 140 = .ok (.bipush 22, 2) := by decide +kernel
theorem dX6_divide_142 : decode cX6_divide 142 = .ok (.iload_n 2, 1) := by decide +kernel
theorem dX6_divide_143 : decode cX6_divide 143 = .ok (.invokevirtual 108, 3) := by decide +kernel
theorem dX6_divide_146 : decode cX6_divide 146 = .ok (.aload_n 0, 1) := by decide +kernel
theorem dX6_divide_147 : decode cX6_divide 147 = .ok (.getfield 56, 3) := by decide +kernel
theorem dX6_divide_150 : decode cX6_divide 150 = .ok (.sipush 4600, 3) := by decide +kernel
theorem dX6_divide_153 : decode cX6_divide 153 = .ok (.iload_n 3, 1) := by decide +kernel
theorem dX6_divide_154 : decode cX6_divide 154 = .ok (.bipush 15, 2) := by decide +kernel
theorem dX6_divide_156 : decode cX6_divide 156 = .ok (.idiv, 1) := by decide +kernel
theorem dX6_divide_157 : decode cX6_divide 157 = .ok (.iadd, 1) := by decide +kernel
theorem dX6_divide_158 : decode cX6_divide 158 = .ok (.dup2, 1) := by decide +kernel
theorem dX6_divide_159 : decode cX6_divide 159 = .ok (.iaload, 1) := by decide +kernel
theorem dX6_divide_160 : decode cX6_divide 160 = .ok (.iconst 1, 1) := by decide +kernel
theorem dX6_divide_161 : decode cX6_divide 161 = .ok (.iload_n 3, 1) := by decide +kernel
theorem dX6_divide_162 : decode cX6_divide 162 = .ok (.bipush 15, 2) := by decide +kernel
theorem dX6_divide_164 : decode cX6_divide 164 = .ok (.irem, 1) := by decide +kernel
theorem dX6_divide_165 : decode cX6_divide 165 = .ok (.ishl, 1) := by decide +kernel
theorem dX6_divide_166 : decode cX6_divide 166 = .ok (.ior, 1) := by decide +kernel
theorem dX6_divide_167 : decode cX6_divide 167 = .ok (.iastore, 1) := by decide +kernel
theorem dX6_divide_168 : decode cX6_divide 168 = .ok (.iinc 3 (-1), 3) := by decide +kernel
theorem dX6_divide_171 : decode cX6_divide 171 = .ok (.goto (-123), 3) := by decide +kernel
theorem dX6_divide_174 : decode cX6_divide 174 = .ok (.aload_n 0, 1) := by decide +kernel
theorem dX6_divide_175 : decode cX6_divide 175 = .ok (.getfield 62, 3) := by decide +kernel
theorem dX6_divide_178 : decode cX6_divide 178 = .ok (.bipush 23, 2) := by decide +kernel
theorem dX6_divide_180 : decode cX6_divide 180 = .ok (.iconst 1, 1) := by decide +kernel
theorem dX6_divide_181 : decode cX6_divide 181 = .ok (.iastore, 1) := by decide +kernel
theorem dX6_divide_182 : decode cX6_divide 182 = .ok (.aload_n 0, 1) := by decide +kernel
theorem dX6_divide_183 : decode cX6_divide 183 = .ok (.bipush 23, 2) := by decide +kernel
theorem dX6_divide_185 : decode cX6_divide 185 = .ok (.aload_n 0, 1) := by decide +kernel
theorem dX6_divide_186 : decode cX6_divide 186 = .ok (.getfield 59, 3) := by decide +kernel
theorem dX6_divide_189 : decode cX6_divide 189 = .ok (.iload_n 1, 1) := by decide +kernel
theorem dX6_divide_190 : decode cX6_divide 190 = .ok (.iaload, 1) := by decide +kernel
theorem dX6_divide_191 : decode cX6_divide 191 = .ok (.invokevirtual 85, 3) := by decide +kernel
theorem dX6_divide_194 : decode cX6_divide 194 = .ok (.aload_n 0, 1) := by decide +kernel
theorem dX6_divide_195 : decode cX6_divide 195 = .ok (.iload_n 1, 1) := by decide +kernel
theorem dX6_divide_196 : decode cX6_divide 196 = .ok (.bipush 23, 2) := by decide +kernel
theorem dX6_divide_198 : decode cX6_divide 198 = .ok (.invokevirtual 81, 3) := by decide +kernel
theorem dX6_divide_201 : decode cX6_divide 201 = .ok (.return_, 1) := by decide +kernel
set_option maxRecDepth 20000 in
theorem ggX6_shorten_X6_set : GoodIn wsX6_shorten wsX6_set := goodIn_r _ [6, 1, 7, 8, 9, 54, 55, 56, 57, 58, 59, 60, 61, 62, 63, 64, 65, 66, 67, 68, 69, 70, 71, 72, 73, 74, 75] rfl rfl
set_option maxRecDepth 20000 in
theorem gX6_shorten_X6_set : GoodIn wsX6_shorten (wsV RX6 92 RX6 yX6_set wsX6_set) := goodIn_app (goodIn_r _ [2, 3, 4, 5] rfl rfl) ggX6_shorten_X6_set
set_option maxRecDepth 20000 in
theorem ggX6_shorten_X6_common : GoodIn wsX6_shorten wsX6_common := goodIn_r _ [13, 1, 14, 15, 16, 5, 17, 7, 8, 18, 19, 20, 21, 22, 23, 24, 25, 26, 27, 28, 29, 30, 31, 32, 33, 34, 35, 36, 37, 38, 39, 40, 41, 42, 43, 44, 45, 46, 47, 48, 49, 54, 55, 56, 57, 58, 59, 60, 61, 62, 63, 64, 65, 66, 67, 68, 69, 70, 71, 72, 73, 74, 75] rfl rfl
set_option maxRecDepth 20000 in
theorem gX6_shorten_X6_common : GoodIn wsX6_shorten (wsV RX6 114 RX6 yX6_common wsX6_common) := goodIn_app (goodIn_r _ [10, 11, 12, 5] rfl rfl) ggX6_shorten_X6_common
set_option maxRecDepth 20000 in
theorem ggX6_shorten_X6_copy : GoodIn wsX6_shorten wsX6_copy := goodIn_r _ [17, 7, 8, 1, 54, 55, 56, 57, 58, 59, 60, 61, 62, 63, 64, 65, 66, 67, 68, 69, 70, 71, 72, 73, 74, 75] rfl rfl
set_option maxRecDepth 20000 in
theorem gX6_shorten_X6_copy : GoodIn wsX6_shorten (wsV RX6 81 RX6 yX6_copy wsX6_copy) := goodIn_app (goodIn_r _ [14, 15, 16, 5] rfl rfl) ggX6_shorten_X6_copy
set_option maxRecDepth 20000 in
theorem ggX6_shorten_X6_divide : GoodIn wsX6_shorten wsX6_divide := goodIn_r _ [53, 7, 8, 1, 2, 3, 4, 5, 6, 9, 46, 47, 48, 49, 42, 43, 44, 45, 14, 15, 16, 17, 22, 23, 24, 25, 30, 31, 32, 33, 34, 35, 36, 37, 38, 39, 40, 41, 54, 55, 56, 57, 58, 59, 60, 61, 62, 63, 64, 65, 66, 67, 68, 69, 70, 71, 72, 73, 74, 75] rfl rfl
set_option maxRecDepth 20000 in
theorem gX6_shorten_X6_divide : GoodIn wsX6_shorten (wsV RX6 117 RX6 yX6_divide wsX6_divide) := goodIn_app (goodIn_r _ [50, 51, 52, 5] rfl rfl) ggX6_shorten_X6_divide
theorem dX6_shorten_0 : decode cX6_shorten 0 = .ok (.aload_n 0, 1) := by decide +kernel
theorem dX6_shorten_1 : decode cX6_shorten 1 = .ok (.getfield 62, 3) := by decide +kernel
theorem dX6_shorten_4 : decode cX6_shorten 4 = .ok (.iload_n 1, 1) := by decide +kernel
theorem dX6_shorten_5 : decode cX6_shorten 5 = .ok (.iaload, 1) := by decide +kernel
theorem dX6_shorten_6 : decode cX6_shorten 6 = .ok (.ifCond .ne 10, 3) := by decide +kernel
theorem dX6_shorten_9 : decode cX6_shorten 9 = .ok (.aload_n 0, 1) := by decide +kernel
theorem dX6_shorten_10 : decode cX6_shorten 10 = .ok (.iload_n 2, 1) := by decide +kernel
theorem dX6_shorten_11 : decode cX6_shorten 11 = .ok (.lconst 1, 1) := by decide +kernel
theorem dX6_shorten_12 : decode cX6_shorten 12 = .ok (.invokevirtual 92, 3) := by decide +kernel
theorem dX6_shorten_15 : decode cX6_shorten 15 = .ok (.return_, 1) := by decide +kernel
theorem dX6_shorten_16 : decode cX6_shorten 16 = .ok (.aload_n 0, 1) := by decide +kernel
theorem dX6_shorten_17 : decode cX6_shorten 17 = .ok (.getfield 62, 3) := by decide +kernel
theorem dX6_shorten_20 : decode cX6_shorten 20 = .ok (.iload_n 1, 1) := by decide +kernel
theorem dX6_shorten_21 : decode cX6_shorten 21 = .ok (.iaload, 1) := by decide +kernel
theorem dX6_shorten_22 : decode cX6_shorten 22 = .ok (.istore_n 3, 1) := by decide +kernel
theorem dX6_shorten_23 : decode cX6_shorten 23 = .ok (.aload_n 0, 1) := by decide +kernel
theorem dX6_shorten_24 : decode cX6_shorten 24 = .ok (.getfield 62, 3) := by decide +kernel
theorem dX6_shorten_27 : decode cX6_shorten 27 = .ok (.iload_n 1, 1) := by decide +kernel
theorem dX6_shorten_28 : decode cX6_shorten 28 = .ok (.iconst 1, 1) := by decide +kernel
theorem dX6_shorten_29 : decode cX6_shorten 29 = .ok (.iastore, 1) := by decide +kernel
theorem dX6_shorten_30 : decode cX6_shorten 30 = .ok (.aload_n 0, 1) := by decide +kernel
theorem dX6_shorten_31 : decode cX6_shorten 31 = .ok (.iload_n 1, 1) := by decide +kernel
theorem dX6_shorten_32 : decode cX6_shorten 32 = .ok (.iload_n 2, 1) := by decide +kernel
theorem dX6_shorten_33 : decode cX6_shorten 33 = .ok (.invokevirtual 114, 3) := by decide +kernel
theorem dX6_shorten_36 : decode cX6_shorten 36 = .ok (.aload_n 0, 1) := by decide +kernel
theorem dX6_shorten_37 : decode cX6_shorten 37 = .ok (.bipush 38, 2) := by decide +kernel
theorem dX6_shorten_39 : decode cX6_shorten 39 = .ok (.bipush 20, 2) := by decide +kernel
theorem dX6_shorten_41 : decode cX6_shorten 41 = .ok (.invokevirtual 81, 3) := by decide +kernel
theorem dX6_shorten_44 : decode cX6_shorten 44 = .ok (.aload_n 0, 1) := by decide +kernel
theorem dX6_shorten_45 : decode cX6_shorten 45 = .ok (.iload_n 1, 1) := by decide +kernel
theorem dX6_shorten_46 : decode cX6_shorten 46 = .ok (.bipush 38, 2) := by decide +kernel
theorem dX6_shorten_48 : decode cX6_shorten 48 = .ok (.invokevirtual 117, 3) := by decide +kernel
theorem dX6_shorten_51 : decode cX6_shorten 51 = .ok (.aload_n 0, 1) := by decide +kernel
theorem dX6_shorten_52 : decode cX6_shorten 52 = .ok (.iload_n 2, 1) := by decide +kernel
theorem dX6_shorten_53 : decode cX6_shorten 53 = .ok (.bipush 38, 2) := by decide +kernel
theorem dX6_shorten_55 : decode cX6_shorten 55 = .ok (.invokevirtual 117, 3) := by decide +kernel
theorem dX6_shorten_58 : decode cX6_shorten 58 = .ok (.aload_n 0, 1) := by decide +kernel
theorem dX6_shorten_59 : decode cX6_shorten 59 = .ok (.getfield 62, 3) := by decide +kernel
theorem dX6_shorten_62 : decode cX6_shorten 62 = .ok (.iload_n 1, 1) := by decide +kernel
theorem dX6_shorten_63 : decode cX6_shorten 63 = .ok (.iload_n 3, 1) := by decide +kernel
theorem dX6_shorten_64 : decode cX6_shorten 64 = .ok (.iastore, 1) := by decide +kernel
theorem dX6_shorten_65 : decode cX6_shorten 65 = .ok (.return_, 1) := by decide +kernel
set_option maxRecDepth 20000 in
theorem ggX6_part_X6_at : GoodIn wsX6_part wsX6_at := goodIn_r _ [5, 6, 7, 8, 9, 10, 11, 12, 13, 14, 15, 16, 17, 18, 19, 20, 21, 22, 23, 24, 25, 26, 27, 28, 29] rfl rfl
set_option maxRecDepth 20000 in
theorem gX6_part_X6_at : GoodIn wsX6_part (wsV RX6 74 RX6 yX6_at wsX6_at) := goodIn_app (goodIn_r _ [1, 2, 3, 4] rfl rfl) ggX6_part_X6_at
theorem dX6_part_0 : decode cX6_part 0 = .ok (.aload_n 0, 1) := by decide +kernel
theorem dX6_part_1 : decode cX6_part 1 = .ok (.iload_n 1, 1) := by decide +kernel
theorem dX6_part_2 : decode cX6_part 2 = .ok (.iconst 2, 1) := by decide +kernel
theorem dX6_part_3 : decode cX6_part 3 = .ok (.iload_n 2, 1) := by decide +kernel
theorem dX6_part_4 : decode cX6_part 4 = .ok (.imul, 1) := by decide +kernel
theorem dX6_part_5 : decode cX6_part 5 = .ok (.invokevirtual 74, 3) := by decide +kernel
theorem dX6_part_8 : decode cX6_part 8 = .ok (.aload_n 0, 1) := by decide +kernel
theorem dX6_part_9 : decode cX6_part 9 = .ok (.iload_n 1, 1) := by decide +kernel
theorem dX6_part_10 : decode cX6_part 10 = .ok (.iconst 2, 1) := by decide +kernel
theorem dX6_part_11 : decode cX6_part 11 = .ok (.iload_n 2, 1) := by decide +kernel
theorem dX6_part_12 : decode cX6_part 12 = .ok (.imul, 1) := by decide +kernel
theorem dX6_part_13 : decode cX6_part 13 = .ok (.iconst 1, 1) := by decide +kernel
theorem dX6_part_14 : decode cX6_part 14 = .ok (.iadd, 1) := by decide +kernel
theorem dX6_part_15 : decode cX6_part 15 = .ok (.invokevirtual 74, 3) := by decide +kernel
theorem dX6_part_18 : decode cX6_part 18 = .ok (.bipush 15, 2) := by decide +kernel
theorem dX6_part_20 : decode cX6_part 20 = .ok (.ishl, 1) := by decide +kernel
theorem dX6_part_21 : decode cX6_part 21 = .ok (.ior, 1) := by decide +kernel
theorem dX6_part_22 : decode cX6_part 22 = .ok (.ireturn, 1) := by decide +kernel
theorem dX6_power_0 : decode cX6_power 0 = .ok (.lconst 1, 1) := by decide +kernel
theorem dX6_power_1 : decode cX6_power 1 = .ok (.lstore_n 3, 1) := by decide +kernel
theorem dX6_power_2 : decode cX6_power 2 = .ok (.iconst 0, 1) := by decide +kernel
theorem dX6_power_3 : decode cX6_power 3 = .ok (.istore 5, 2) := by decide +kernel
theorem dX6_power_5 : decode cX6_power 5 = .ok (.iload 5, 2) := by decide +kernel
theorem dX6_power_7 : decode cX6_power 7 = .ok (.iload_n 2, 1) := by decide +kernel
theorem dX6_power_8 : decode cX6_power 8 = .ok (.if_icmp .ge 13, 3) := by decide +kernel
theorem dX6_power_11 : decode cX6_power 11 = .ok (.lload_n 3, 1) := by decide +kernel
theorem dX6_power_12 : decode cX6_power 12 = .ok (.lload_n 0, 1) := by decide +kernel
theorem dX6_power_13 : decode cX6_power 13 = .ok (.lmul, 1) := by decide +kernel
theorem dX6_power_14 : decode cX6_power 14 = .ok (.lstore_n 3, 1) := by decide +kernel
theorem dX6_power_15 : decode cX6_power 15 = .ok (.iinc 5 1, 3) := by decide +kernel
theorem dX6_power_18 : decode cX6_power 18 = .ok (.goto (-13), 3) := by decide +kernel
theorem dX6_power_21 : decode cX6_power 21 = .ok (.lload_n 3, 1) := by decide +kernel
theorem dX6_power_22 : decode cX6_power 22 = .ok (.lreturn, 1) := by decide +kernel
theorem dX6_first_0 : decode cX6_first 0 = .ok (.lconst 1, 1) := by decide +kernel
theorem dX6_first_1 : decode cX6_first 1 = .ok (.lstore 5, 2) := by decide +kernel
theorem dX6_first_3 : decode cX6_first 3 = .ok (.lload_n 1, 1) := by decide +kernel
theorem dX6_first_4 : decode cX6_first 4 = .ok (.lstore 7, 2) := by decide +kernel
theorem dX6_first_6 : decode cX6_first 6 = .ok (.iconst 0, 1) := by decide +kernel
theorem dX6_first_7 : decode cX6_first 7 = .ok (.istore 9, 2) := by decide +kernel
theorem dX6_first_9 : decode cX6_first 9 = .ok (.iload 9, 2) := by decide +kernel
theorem dX6_first_11 : decode cX6_first 11 = .ok (.iload_n 0, 1) := by decide +kernel
theorem dX6_first_12 : decode cX6_first 12 = .ok (.if_icmp .ge 34, 3) := by decide +kernel
theorem dX6_first_15 : decode cX6_first 15 = .ok (.ldc2_w 120, 3) := by decide +kernel
theorem dX6_first_18 : decode cX6_first 18 = .ok (.lload_n 1, 1) := by decide +kernel
theorem dX6_first_19 : decode cX6_first 19 = .ok (.lmul, 1) := by decide +kernel
theorem dX6_first_20 : decode cX6_first 20 = .ok (.lload 7, 2) := by decide +kernel
theorem dX6_first_22 : decode cX6_first 22 = .ok (.lmul, 1) := by decide +kernel
theorem dX6_first_23 : decode cX6_first 23 = .ok (.lload_n 3, 1) := by decide +kernel
theorem dX6_first_24 : decode cX6_first 24 = .ok (.lload_n 3, 1) := by decide +kernel
theorem dX6_first_25 : decode cX6_first 25 = .ok (.lmul, 1) := by decide +kernel
theorem dX6_first_26 : decode cX6_first 26 = .ok (.lload 5, 2) := by decide +kernel
theorem dX6_first_28 : decode cX6_first 28 = .ok (.lmul, 1) := by decide +kernel
theorem dX6_first_29 : decode cX6_first 29 = .ok (.lsub, 1) := by decide +kernel
theorem dX6_first_30 : decode cX6_first 30 = .ok (.lstore 10, 2) := by decide +kernel
theorem dX6_first_32 : decode cX6_first 32 = .ok (.lload 7, 2) := by decide +kernel
theorem dX6_first_34 : decode cX6_first 34 = .ok (.lstore 5, 2) := by decide +kernel
theorem dX6_first_36 : decode cX6_first 36 = .ok (.lload 10, 2) := by decide +kernel
theorem dX6_first_38 : decode cX6_first 38 = .ok (.lstore 7, 2) := by decide +kernel
theorem dX6_first_40 : decode cX6_first 40 = .ok (.iinc 9 1, 3) := by decide +kernel
theorem dX6_first_43 : decode cX6_first 43 = .ok (.goto (-34), 3) := by decide +kernel
theorem dX6_first_46 : decode cX6_first 46 = .ok (.lload 5, 2) := by decide +kernel
theorem dX6_first_48 : decode cX6_first 48 = .ok (.lreturn, 1) := by decide +kernel
theorem dX6_second_0 : decode cX6_second 0 = .ok (.lconst 0, 1) := by decide +kernel
theorem dX6_second_1 : decode cX6_second 1 = .ok (.lstore 5, 2) := by decide +kernel
theorem dX6_second_3 : decode cX6_second 3 = .ok (.lconst 1, 1) := by decide +kernel
theorem dX6_second_4 : decode cX6_second 4 = .ok (.lstore 7, 2) := by decide +kernel
theorem dX6_second_6 : decode cX6_second 6 = .ok (.iconst 0, 1) := by decide +kernel
theorem dX6_second_7 : decode cX6_second 7 = .ok (.istore 9, 2) := by decide +kernel
theorem dX6_second_9 : decode cX6_second 9 = .ok (.iload 9, 2) := by decide +kernel
theorem dX6_second_11 : decode cX6_second 11 = .ok (.iload_n 0, 1) := by decide +kernel
theorem dX6_second_12 : decode cX6_second 12 = .ok (.if_icmp .ge 34, 3) := by decide +kernel
theorem dX6_second_15 : decode cX6_second 15 = .ok (.ldc2_w 120, 3) := by decide +kernel
theorem dX6_second_18 : decode cX6_second 18 = .ok (.lload_n 1, 1) := by decide +kernel
theorem dX6_second_19 : decode cX6_second 19 = .ok (.lmul, 1) := by decide +kernel
theorem dX6_second_20 : decode cX6_second 20 = .ok (.lload 7, 2) := by decide +kernel
theorem dX6_second_22 : decode cX6_second 22 = .ok (.lmul, 1) := by decide +kernel
theorem dX6_second_23 : decode cX6_second 23 = .ok (.lload_n 3, 1) := by decide +kernel
theorem dX6_second_24 : decode cX6_second 24 = .ok (.lload_n 3, 1) := by decide +kernel
theorem dX6_second_25 : decode cX6_second 25 = .ok (.lmul, 1) := by decide +kernel
theorem dX6_second_26 : decode cX6_second 26 = .ok (.lload 5, 2) := by decide +kernel
theorem dX6_second_28 : decode cX6_second 28 = .ok (.lmul, 1) := by decide +kernel
theorem dX6_second_29 : decode cX6_second 29 = .ok (.lsub, 1) := by decide +kernel
theorem dX6_second_30 : decode cX6_second 30 = .ok (.lstore 10, 2) := by decide +kernel
theorem dX6_second_32 : decode cX6_second 32 = .ok (.lload 7, 2) := by decide +kernel
theorem dX6_second_34 : decode cX6_second 34 = .ok (.lstore 5, 2) := by decide +kernel
theorem dX6_second_36 : decode cX6_second 36 = .ok (.lload 10, 2) := by decide +kernel
theorem dX6_second_38 : decode cX6_second 38 = .ok (.lstore 7, 2) := by decide +kernel
theorem dX6_second_40 : decode cX6_second 40 = .ok (.iinc 9 1, 3) := by decide +kernel
theorem dX6_second_43 : decode cX6_second 43 = .ok (.goto (-34), 3) := by decide +kernel
theorem dX6_second_46 : decode cX6_second 46 = .ok (.lload 5, 2) := by decide +kernel
theorem dX6_second_48 : decode cX6_second 48 = .ok (.lreturn, 1) := by decide +kernel
set_option maxRecDepth 20000 in
theorem ggX6_table_X6_set : GoodIn wsX6_table wsX6_set := goodIn_r _ [9, 10, 11, 12, 13, 68, 69, 70, 71, 72, 73, 74, 75, 76, 77, 78, 79, 80, 81, 82, 83, 84, 85, 86, 87, 88, 89] rfl rfl
set_option maxRecDepth 20000 in
theorem gX6_table_X6_set : GoodIn wsX6_table (wsV RX6 92 RX6 yX6_set wsX6_set) := goodIn_app (goodIn_r _ [5, 6, 7, 8] rfl rfl) ggX6_table_X6_set
set_option maxRecDepth 20000 in
theorem ggX6_table_X6_layerOn : GoodIn wsX6_table wsX6_layerOn := goodIn_r _ [17, 18, 19, 8, 20, 21, 22, 23, 24, 5, 6, 7, 9, 10, 11, 12, 13, 25, 26, 27, 28, 29, 30, 31, 32, 33, 34, 35, 36, 37, 38, 39, 40, 41, 42, 43, 44, 45, 46, 47, 48, 49, 50, 51, 52, 53, 54, 55, 56, 57, 58, 59, 60, 61, 62, 63, 68, 69, 70, 71, 72, 73, 74, 75, 76, 77, 78, 79, 80, 81, 82, 83, 84, 85, 86, 87, 88, 89] rfl rfl
set_option maxRecDepth 20000 in
theorem gX6_table_X6_layerOn : GoodIn wsX6_table (wsV RX6 122 RX6 yX6_layerOn wsX6_layerOn) := goodIn_app (goodIn_r _ [14, 15, 16, 8] rfl rfl) ggX6_table_X6_layerOn
set_option maxRecDepth 20000 in
theorem ggX6_table_X6_copy : GoodIn wsX6_table wsX6_copy := goodIn_r _ [44, 11, 12, 10, 68, 69, 70, 71, 72, 73, 74, 75, 76, 77, 78, 79, 80, 81, 82, 83, 84, 85, 86, 87, 88, 89] rfl rfl
set_option maxRecDepth 20000 in
theorem gX6_table_X6_copy : GoodIn wsX6_table (wsV RX6 81 RX6 yX6_copy wsX6_copy) := goodIn_app (goodIn_r _ [41, 42, 43, 8] rfl rfl) ggX6_table_X6_copy
set_option maxRecDepth 20000 in
theorem ggX6_table_X6_divide : GoodIn wsX6_table wsX6_divide := goodIn_r _ [67, 11, 12, 10, 5, 6, 7, 8, 9, 13, 57, 58, 59, 60, 49, 50, 51, 52, 41, 42, 43, 44, 29, 30, 31, 32, 33, 34, 35, 36, 53, 54, 55, 56, 45, 46, 47, 48, 68, 69, 70, 71, 72, 73, 74, 75, 76, 77, 78, 79, 80, 81, 82, 83, 84, 85, 86, 87, 88, 89] rfl rfl
set_option maxRecDepth 20000 in
theorem gX6_table_X6_divide : GoodIn wsX6_table (wsV RX6 117 RX6 yX6_divide wsX6_divide) := goodIn_app (goodIn_r _ [64, 65, 66, 8] rfl rfl) ggX6_table_X6_divide
theorem dX6_table_0 : decode cX6_table 0 = .ok (.aload_n 0, 1) := by decide +kernel
theorem dX6_table_1 : decode cX6_table 1 = .ok (.iconst 0, 1) := by decide +kernel
theorem dX6_table_2 : decode cX6_table 2 = .ok (.lconst 1, 1) := by decide +kernel
theorem dX6_table_3 : decode cX6_table 3 = .ok (.invokevirtual 92, 3) := by decide +kernel
theorem dX6_table_6 : decode cX6_table 6 = .ok (.aload_n 0, 1) := by decide +kernel
theorem dX6_table_7 : decode cX6_table 7 = .ok (.iconst 3, 1) := by decide +kernel
theorem dX6_table_8 : decode cX6_table 8 = .ok (.lconst 1, 1) := by decide +kernel
theorem dX6_table_9 : decode cX6_table 9 = .ok (.invokevirtual 92, 3) := by decide +kernel
theorem dX6_table_12 : decode cX6_table 12 = .ok (.aload_n 0, 1) := by decide +kernel
theorem dX6_table_13 : decode cX6_table 13 = .ok (.iconst 1, 1) := by decide +kernel
theorem dX6_table_14 : decode cX6_table 14 = .ok (.lconst 0, 1) := by decide +kernel
theorem dX6_table_15 : decode cX6_table 15 = .ok (.invokevirtual 92, 3) := by decide +kernel
theorem dX6_table_18 : decode cX6_table 18 = .ok (.aload_n 0, 1) := by decide +kernel
theorem dX6_table_19 : decode cX6_table 19 = .ok (.iconst 2, 1) := by decide +kernel
theorem dX6_table_20 : decode cX6_table 20 = .ok (.lconst 0, 1) := by decide +kernel
theorem dX6_table_21 : decode cX6_table 21 = .ok (.invokevirtual 92, 3) := by decide +kernel
theorem dX6_table_24 : decode cX6_table 24 = .ok (.aload_n 0, 1) := by decide +kernel
theorem dX6_table_25 : decode cX6_table 25 = .ok (.iconst 4, 1) := by decide +kernel
theorem dX6_table_26 : decode cX6_table 26 = .ok (.lconst 1, 1) := by decide +kernel
theorem dX6_table_27 : decode cX6_table 27 = .ok (.invokevirtual 92, 3) := by decide +kernel
theorem dX6_table_30 : decode cX6_table 30 = .ok (.iconst 0, 1) := by decide +kernel
theorem dX6_table_31 : decode cX6_table 31 = .ok (.istore 4, 2) := by decide +kernel
theorem dX6_table_33 : decode cX6_table 33 = .ok (.iload 4, 2) := by decide +kernel
theorem dX6_table_35 : decode cX6_table 35 = .ok (.aload_n 0, 1) := by decide +kernel
theorem dX6_table_36 : decode cX6_table 36 = .ok (.getfield 22, 3) := by decide +kernel
theorem dX6_table_39 : decode cX6_table 39 = .ok (.iload_n 1, 1) := by decide +kernel
theorem dX6_table_40 : decode cX6_table 40 = .ok (.iaload, 1) := by decide +kernel
theorem dX6_table_41 : decode cX6_table 41 = .ok (.if_icmp .ge 51, 3) := by decide +kernel
theorem dX6_table_44 : decode cX6_table 44 = .ok (.aload_n 0, 1) := by decide +kernel
theorem dX6_table_45 : decode cX6_table 45 = .ok (.aload_n 0, 1) := by decide +kernel
theorem dX6_table_46 : decode cX6_table 46 = .ok (.getfield 25, 3) := by decide +kernel
theorem dX6_table_49 : decode cX6_table 49 = .ok (.bipush 6, 2) := by decide +kernel
theorem dX6_table_51 : decode cX6_table 51 = .ok (.iload_n 1, 1) := by decide +kernel
theorem dX6_table_52 : decode cX6_table 52 = .ok (.imul, 1) := by decide +kernel
theorem dX6_table_53 : decode cX6_table 53 = .ok (.iload 4, 2) := by decide +kernel
theorem dX6_table_55 : decode cX6_table 55 = .ok (.iadd, 1) := by decide +kernel
theorem dX6_table_56 : decode cX6_table 56 = .ok (.iaload, 1) := by decide +kernel
theorem dX6_table_57 : decode cX6_table 57 = .ok (.aload_n 0, 1) := by decide +kernel
theorem dX6_table_58 : decode cX6_table 58 = .ok (.getfield 28, 3) := by decide +kernel
theorem dX6_table_61 : decode cX6_table 61 = .ok (.bipush 6, 2) := by decide +kernel
theorem dX6_table_63 : decode cX6_table 63 = .ok (.iload_n 1, 1) := by decide +kernel
theorem dX6_table_64 : decode cX6_table 64 = .ok (.imul, 1) := by decide +kernel
theorem dX6_table_65 : decode cX6_table 65 = .ok (.iload 4, 2) := by decide +kernel
theorem dX6_table_67 : decode cX6_table 67 = .ok (.iadd, 1) := by decide +kernel
theorem dX6_table_68 : decode cX6_table 68 = .ok (.iaload, 1) := by decide +kernel
theorem dX6_table_69 : decode cX6_table 69 = .ok (.aload_n 0, 1) := by decide +kernel
theorem dX6_table_70 : decode cX6_table 70 = .ok (.getfield 31, 3) := by decide +kernel
theorem dX6_table_73 : decode cX6_table 73 = .ok (.bipush 6, 2) := by decide +kernel
theorem dX6_table_75 : decode cX6_table 75 = .ok (.iload_n 1, 1) := by decide +kernel
theorem dX6_table_76 : decode cX6_table 76 = .ok (.imul, 1) := by decide +kernel
theorem dX6_table_77 : decode cX6_table 77 = .ok (.iload 4, 2) := by decide +kernel
theorem dX6_table_79 : decode cX6_table 79 = .ok (.iadd, 1) := by decide +kernel
theorem dX6_table_80 : decode cX6_table 80 = .ok (.iaload, 1) := by decide +kernel
theorem dX6_table_81 : decode cX6_table 81 = .ok (.iload_n 2, 1) := by decide +kernel
theorem dX6_table_82 : decode cX6_table 82 = .ok (.iload_n 3, 1) := by decide +kernel
theorem dX6_table_83 : decode cX6_table 83 = .ok (.invokevirtual 122, 3) := by decide +kernel
theorem dX6_table_86 : decode cX6_table 86 = .ok (.iinc 4 1, 3) := by decide +kernel
theorem dX6_table_89 : decode cX6_table 89 = .ok (.goto (-56), 3) := by decide +kernel
theorem dX6_table_92 : decode cX6_table 92 = .ok (.aload_n 0, 1) := by decide +kernel
theorem dX6_table_93 : decode cX6_table 93 = .ok (.iconst 5, 1) := by decide +kernel
theorem dX6_table_94 : decode cX6_table 94 = .ok (.iconst 4, 1) := by decide +kernel
theorem dX6_table_95 : decode cX6_table 95 = .ok (.invokevirtual 81, 3) := by decide +kernel
theorem dX6_table_98 : decode cX6_table 98 = .ok (.aload_n 0, 1) := by decide +kernel
theorem dX6_table_99 : decode cX6_table 99 = .ok (.getfield 22, 3) := by decide +kernel
theorem dX6_table_102 : decode cX6_table 102 = .ok (.iload_n 1, 1) := by decide +kernel
theorem dX6_table_103 : decode cX6_table 103 = .ok (.iaload, 1) := by decide +kernel
theorem dX6_table_104 : decode cX6_table 104 = .ok (.ifCond .le 18, 3) := by decide +kernel
theorem dX6_table_107 : decode cX6_table 107 = .ok (.aload_n 0, 1) := by decide +kernel
theorem dX6_table_108 : decode cX6_table 108 = .ok (.bipush 32, 2) := by decide +kernel
theorem dX6_table_110 : decode cX6_table 110 = .ok (.iload_n 3, 1) := by decide +kernel
theorem dX6_table_111 : decode cX6_table 111 = .ok (.i2l, 1) := by decide +kernel
theorem dX6_table_112 : decode cX6_table 112 = .ok (.invokevirtual 92, 3) := by decide +kernel
theorem dX6_table_115 : decode cX6_table 115 = .ok (.aload_n 0, 1) := by decide +kernel
theorem dX6_table_116 : decode cX6_table 116 = .ok (.iconst 5, 1) := by decide +kernel
theorem dX6_table_117 : decode cX6_table 117 = .ok (.bipush 32, 2) := by decide +kernel
theorem dX6_table_119 : decode cX6_table 119 = .ok (.invokevirtual 117, 3) := by decide +kernel
theorem dX6_table_122 : decode cX6_table 122 = .ok (.return_, 1) := by decide +kernel
set_option maxRecDepth 20000 in
theorem ggX6_layerOn_X6_first : GoodIn wsX6_layerOn wsX6_first := goodIn_r _ [4, 5] rfl rfl
set_option maxRecDepth 20000 in
theorem gX6_layerOn_X6_first : GoodIn wsX6_layerOn (va_wsS RX6 126 yX6_first wsX6_first) := goodIn_app (goodIn_r _ [1, 2, 3] rfl rfl) ggX6_layerOn_X6_first
set_option maxRecDepth 20000 in
theorem ggX6_layerOn_X6_second : GoodIn wsX6_layerOn wsX6_second := goodIn_r _ [8, 5] rfl rfl
set_option maxRecDepth 20000 in
theorem gX6_layerOn_X6_second : GoodIn wsX6_layerOn (va_wsS RX6 130 yX6_second wsX6_second) := goodIn_app (goodIn_r _ [6, 7, 3] rfl rfl) ggX6_layerOn_X6_second
set_option maxRecDepth 20000 in
theorem ggX6_layerOn_X6_set : GoodIn wsX6_layerOn wsX6_set := goodIn_r _ [12, 13, 14, 15, 16, 56, 57, 58, 59, 60, 61, 62, 63, 64, 65, 66, 67, 68, 69, 70, 71, 72, 73, 74, 75, 76, 77] rfl rfl
set_option maxRecDepth 20000 in
theorem gX6_layerOn_X6_set : GoodIn wsX6_layerOn (wsV RX6 92 RX6 yX6_set wsX6_set) := goodIn_app (goodIn_r _ [9, 10, 11, 3] rfl rfl) ggX6_layerOn_X6_set
set_option maxRecDepth 20000 in
theorem ggX6_layerOn_X6_times : GoodIn wsX6_layerOn wsX6_times := goodIn_r _ [20, 14, 15, 16, 13, 21, 22, 23, 3, 24, 25, 26, 27, 28, 56, 57, 58, 59, 60, 61, 62, 63, 64, 65, 66, 67, 68, 69, 70, 71, 72, 73, 74, 75, 76, 77] rfl rfl
set_option maxRecDepth 20000 in
theorem gX6_layerOn_X6_times : GoodIn wsX6_layerOn (wsV RX6 96 RX6 yX6_times wsX6_times) := goodIn_app (goodIn_r _ [17, 18, 19, 3] rfl rfl) ggX6_layerOn_X6_times
set_option maxRecDepth 20000 in
theorem ggX6_layerOn_X6_by : GoodIn wsX6_layerOn wsX6_by := goodIn_r _ [32, 9, 10, 11, 3, 12, 13, 14, 15, 16, 17, 18, 19, 20, 21, 22, 23, 24, 25, 26, 27, 28, 33, 34, 35, 36, 56, 57, 58, 59, 60, 61, 62, 63, 64, 65, 66, 67, 68, 69, 70, 71, 72, 73, 74, 75, 76, 77] rfl rfl
set_option maxRecDepth 20000 in
theorem gX6_layerOn_X6_by : GoodIn wsX6_layerOn (wsV RX6 133 RX6 yX6_by wsX6_by) := goodIn_app (goodIn_r _ [29, 30, 31, 3] rfl rfl) ggX6_layerOn_X6_by
set_option maxRecDepth 20000 in
theorem ggX6_layerOn_X6_minus : GoodIn wsX6_layerOn wsX6_minus := goodIn_r _ [40, 13, 41, 42, 43, 3, 44, 14, 15, 33, 34, 35, 36, 21, 22, 23, 24, 25, 26, 27, 28, 45, 46, 47, 48, 56, 57, 58, 59, 60, 61, 62, 63, 64, 65, 66, 67, 68, 69, 70, 71, 72, 73, 74, 75, 76, 77] rfl rfl
set_option maxRecDepth 20000 in
theorem gX6_layerOn_X6_minus : GoodIn wsX6_layerOn (wsV RX6 108 RX6 yX6_minus wsX6_minus) := goodIn_app (goodIn_r _ [37, 38, 39, 3] rfl rfl) ggX6_layerOn_X6_minus
set_option maxRecDepth 20000 in
theorem ggX6_layerOn_X6_plus : GoodIn wsX6_layerOn wsX6_plus := goodIn_r _ [52, 13, 41, 42, 43, 3, 44, 14, 15, 33, 34, 35, 36, 21, 22, 23, 24, 25, 26, 27, 28, 45, 46, 47, 48, 56, 57, 58, 59, 60, 61, 62, 63, 64, 65, 66, 67, 68, 69, 70, 71, 72, 73, 74, 75, 76, 77] rfl rfl
set_option maxRecDepth 20000 in
theorem gX6_layerOn_X6_plus : GoodIn wsX6_layerOn (wsV RX6 111 RX6 yX6_plus wsX6_plus) := goodIn_app (goodIn_r _ [49, 50, 51, 3] rfl rfl) ggX6_layerOn_X6_plus
set_option maxRecDepth 20000 in
theorem ggX6_layerOn_X6_copy : GoodIn wsX6_layerOn wsX6_copy := goodIn_r _ [36, 14, 15, 13, 56, 57, 58, 59, 60, 61, 62, 63, 64, 65, 66, 67, 68, 69, 70, 71, 72, 73, 74, 75, 76, 77] rfl rfl
set_option maxRecDepth 20000 in
theorem gX6_layerOn_X6_copy : GoodIn wsX6_layerOn (wsV RX6 81 RX6 yX6_copy wsX6_copy) := goodIn_app (goodIn_r _ [33, 34, 35, 3] rfl rfl) ggX6_layerOn_X6_copy
set_option maxRecDepth 20000 in
theorem ggX6_layerOn_X6_power : GoodIn wsX6_layerOn wsX6_power := goodIn_r _ [55] rfl rfl
set_option maxRecDepth 20000 in
theorem gX6_layerOn_X6_power : GoodIn wsX6_layerOn (va_wsS RX6 136 yX6_power wsX6_power) := goodIn_app (goodIn_r _ [53, 54, 3] rfl rfl) ggX6_layerOn_X6_power
theorem dX6_layerOn_0 : decode cX6_layerOn 0 = .ok (.iload_n 3, 1) := by decide +kernel
theorem dX6_layerOn_1 : decode cX6_layerOn 1 = .ok (.iload 4, 2) := by decide +kernel
theorem dX6_layerOn_3 : decode cX6_layerOn 3 = .ok (.i2l, 1) := by decide +kernel
theorem dX6_layerOn_4 : decode cX6_layerOn 4 = .ok (.iload 5, 2) := by decide +kernel
theorem dX6_layerOn_6 : decode cX6_layerOn 6 = .ok (.i2l, 1) := by decide +kernel
theorem dX6_layerOn_7 : decode cX6_layerOn 7 = .ok (.invokestatic 126, 3) := by decide +kernel
theorem dX6_layerOn_10 : decode cX6_layerOn 10 = .ok (.iload_n 1, 1) := by decide +kernel
theorem dX6_layerOn_11 : decode cX6_layerOn 11 = .ok (.i2l, 1) := by decide +kernel
theorem dX6_layerOn_12 : decode cX6_layerOn 12 = .ok (.lmul, 1) := by decide +kernel
theorem dX6_layerOn_13 : decode cX6_layerOn 13 = .ok (.iload_n 2, 1) := by decide +kernel
theorem dX6_layerOn_14 : decode cX6_layerOn 14 = .ok (.i2l, 1) := by decide +kernel
theorem dX6_layerOn_15 : decode cX6_layerOn 15 = .ok (.lmul, 1) := by decide +kernel
theorem dX6_layerOn_16 : decode cX6_layerOn 16 = .ok (.lstore 6, 2) := by decide +kernel
theorem dX6_layerOn_18 : decode cX6_layerOn 18 = .ok (.iload_n 3, 1) := by decide +kernel
theorem dX6_layerOn_19 : decode cX6_layerOn 19 = .ok (.iload 4, 2) := by decide +kernel
theorem dX6_layerOn_21 : decode cX6_layerOn 21 = .ok (.i2l, 1) := by decide +kernel
theorem dX6_layerOn_22 : decode cX6_layerOn 22 = .ok (.iload 5, 2) := by decide +kernel
theorem dX6_layerOn_24 : decode cX6_layerOn 24 = .ok (.i2l, 1) := by decide +kernel
theorem dX6_layerOn_25 : decode cX6_layerOn 25 = .ok (.invokestatic 130, 3) := by decide +kernel
theorem dX6_layerOn_28 : decode cX6_layerOn 28 = .ok (.lstore 8, 2) := by decide +kernel
theorem dX6_layerOn_30 : decode cX6_layerOn 30 = .ok (.aload_n 0, 1) := by decide +kernel
theorem dX6_layerOn_31 : decode cX6_layerOn 31 = .ok (.bipush 10, 2) := by decide +kernel
theorem dX6_layerOn_33 : decode cX6_layerOn 33 = .ok (.lload 6, 2) := by decide +kernel
theorem dX6_layerOn_35 : decode cX6_layerOn 35 = .ok (.invokevirtual 92, 3) := by decide +kernel
theorem dX6_layerOn_38 : decode cX6_layerOn 38 = .ok (.aload_n 0, 1) := by decide +kernel
theorem dX6_layerOn_39 : decode cX6_layerOn 39 = .ok (.bipush 11, 2) := by decide +kernel
theorem dX6_layerOn_41 : decode cX6_layerOn 41 = .ok (.lload 8, 2) := by decide +kernel
theorem dX6_layerOn_43 : decode cX6_layerOn 43 = .ok (.iload_n 2, 1) := by decide +kernel
theorem dX6_layerOn_44 : decode cX6_layerOn 44 = .ok (.i2l, 1) := by decide +kernel
theorem dX6_layerOn_45 : decode cX6_layerOn 45 = .ok (.lmul, 1) := by decide +kernel
theorem dX6_layerOn_46 : decode cX6_layerOn 46 = .ok (.iload_n 2, 1) := by decide +kernel
theorem dX6_layerOn_47 : decode cX6_layerOn 47 = .ok (.i2l, 1) := by decide +kernel
theorem dX6_layerOn_48 : decode cX6_layerOn 48 = .ok (.lmul, 1) := by decide +kernel
theorem dX6_layerOn_49 : decode cX6_layerOn 49 = .ok (.invokevirtual 92, 3) := by decide +kernel
theorem dX6_layerOn_52 : decode cX6_layerOn 52 = .ok (.aload_n 0, 1) := by decide +kernel
theorem dX6_layerOn_53 : decode cX6_layerOn 53 = .ok (.bipush 12, 2) := by decide +kernel
theorem dX6_layerOn_55 : decode cX6_layerOn 55 = .ok (.lload 8, 2) := by decide +kernel
theorem dX6_layerOn_57 : decode cX6_layerOn 57 = .ok (.iload_n 1, 1) := by decide +kernel
theorem dX6_layerOn_58 : decode cX6_layerOn 58 = .ok (.i2l, 1) := by decide +kernel
theorem dX6_layerOn_59 : decode cX6_layerOn 59 = .ok (.lmul, 1) := by decide +kernel
theorem dX6_layerOn_60 : decode cX6_layerOn 60 = .ok (.iload_n 1, 1) := by decide +kernel
theorem dX6_layerOn_61 : decode cX6_layerOn 61 = .ok (.i2l, 1) := by decide +kernel
theorem dX6_layerOn_62 : decode cX6_layerOn 62 = .ok (.lmul, 1) := by decide +kernel
theorem dX6_layerOn_63 : decode cX6_layerOn 63 = .ok (.invokevirtual 92, 3) := by decide +kernel
theorem dX6_layerOn_66 : decode cX6_layerOn 66 = .ok (.iload 5, 2) := by decide +kernel
theorem dX6_layerOn_68 : decode cX6_layerOn 68 = .ok (.i2l, 1) := by decide +kernel
theorem dX6_layerOn_69 : decode cX6_layerOn 69 = .ok (.iload 5, 2) := by decide +kernel
theorem dX6_layerOn_71 : decode cX6_layerOn 71 = .ok (.i2l, 1) := by decide +kernel
theorem dX6_layerOn_72 : decode cX6_layerOn 72 = .ok (.lmul, 1) := by decide +kernel
theorem dX6_layerOn_73 : decode cX6_layerOn 73 = .ok (.iload 4, 2) := by decide +kernel
theorem dX6_layerOn_75 : decode cX6_layerOn 75 = .ok (.i2l, 1) := by decide +kernel
theorem dX6_layerOn_76 : decode cX6_layerOn 76 = .ok (.iload 4, 2) := by decide +kernel
theorem dX6_layerOn_78 : decode cX6_layerOn 78 = .ok (.i2l, 1) := by decide +kernel
theorem dX6_layerOn_79 : decode cX6_layerOn 79 = .ok (.lmul, 1) := by decide +kernel
theorem dX6_layerOn_80 : decode cX6_layerOn 80 = .ok (.lsub, 1) := by decide +kernel
theorem dX6_layerOn_81 : decode cX6_layerOn 81 = .ok (.lstore 10, 2) := by decide +kernel
theorem dX6_layerOn_83 : decode cX6_layerOn 83 = .ok (.aload_n 0, 1) := by decide +kernel
theorem dX6_layerOn_84 : decode cX6_layerOn 84 = .ok (.bipush 6, 2) := by decide +kernel
theorem dX6_layerOn_86 : decode cX6_layerOn 86 = .ok (.iconst 0, 1) := by decide +kernel
theorem dX6_layerOn_87 : decode cX6_layerOn 87 = .ok (.bipush 10, 2) := by decide +kernel
theorem dX6_layerOn_89 : decode cX6_layerOn 89 = .ok (.invokevirtual 96, 3) := by decide +kernel
theorem dX6_layerOn_92 : decode cX6_layerOn 92 = .ok (.aload_n 0, 1) := by decide +kernel
theorem dX6_layerOn_93 : decode cX6_layerOn 93 = .ok (.bipush 33, 2) := by decide +kernel
theorem dX6_layerOn_95 : decode cX6_layerOn 95 = .ok (.iconst 1, 1) := by decide +kernel
theorem dX6_layerOn_96 : decode cX6_layerOn 96 = .ok (.bipush 12, 2) := by decide +kernel
theorem dX6_layerOn_98 : decode cX6_layerOn 98 = .ok (.invokevirtual 96, 3) := by decide +kernel
theorem dX6_layerOn_101 : decode cX6_layerOn 101 = .ok (.aload_n 0, 1) := by decide +kernel
theorem dX6_layerOn_102 : decode cX6_layerOn 102 = .ok (.bipush 33, 2) := by decide +kernel
theorem dX6_layerOn_104 : decode cX6_layerOn 104 = .ok (.lload 10, 2) := by decide +kernel
theorem dX6_layerOn_106 : decode cX6_layerOn 106 = .ok (.invokevirtual 133, 3) := by decide +kernel
theorem dX6_layerOn_109 : decode cX6_layerOn 109 = .ok (.aload_n 0, 1) := by decide +kernel
theorem dX6_layerOn_110 : decode cX6_layerOn 110 = .ok (.bipush 6, 2) := by decide +kernel
theorem dX6_layerOn_112 : decode cX6_layerOn 112 = .ok (.bipush 6, 2) := by decide +kernel
theorem dX6_layerOn_114 : decode cX6_layerOn 114 = .ok (.bipush 33, 2) := by decide +kernel
theorem dX6_layerOn_116 : decode cX6_layerOn 116 = .ok (.invokevirtual 108, 3) := by decide +kernel
theorem dX6_layerOn_119 : decode cX6_layerOn 119 = .ok (.aload_n 0, 1) := by decide +kernel
theorem dX6_layerOn_120 : decode cX6_layerOn 120 = .ok (.bipush 7, 2) := by decide +kernel
theorem dX6_layerOn_122 : decode cX6_layerOn 122 = .ok (.iconst 0, 1) := by decide +kernel
theorem dX6_layerOn_123 : decode cX6_layerOn 123 = .ok (.bipush 11, 2) := by decide +kernel
theorem dX6_layerOn_125 : decode cX6_layerOn 125 = .ok (.invokevirtual 96, 3) := by decide +kernel
theorem dX6_layerOn_128 : decode cX6_layerOn 128 = .ok (.aload_n 0, 1) := by decide +kernel
theorem dX6_layerOn_129 : decode cX6_layerOn 129 = .ok (.bipush 33, 2) := by decide +kernel
theorem dX6_layerOn_131 : decode cX6_layerOn 131 = .ok (.iconst 1, 1) := by decide +kernel
theorem dX6_layerOn_132 : decode cX6_layerOn 132 = .ok (.bipush 10, 2) := by decide +kernel
theorem dX6_layerOn_134 : decode cX6_layerOn 134 = .ok (.invokevirtual 96, 3) := by decide +kernel
theorem dX6_layerOn_137 : decode cX6_layerOn 137 = .ok (.aload_n 0, 1) := by decide +kernel
theorem dX6_layerOn_138 : decode cX6_layerOn 138 = .ok (.bipush 7, 2) := by decide +kernel
theorem dX6_layerOn_140 : decode cX6_layerOn 140 = .ok (.bipush 7, 2) := by decide +kernel
theorem dX6_layerOn_142 : decode cX6_layerOn 142 = .ok (.bipush 33, 2) := by decide +kernel
theorem dX6_layerOn_144 : decode cX6_layerOn 144 = .ok (.invokevirtual 111, 3) := by decide +kernel
theorem dX6_layerOn_147 : decode cX6_layerOn 147 = .ok (.aload_n 0, 1) := by decide +kernel
theorem dX6_layerOn_148 : decode cX6_layerOn 148 = .ok (.bipush 8, 2) := by decide +kernel
theorem dX6_layerOn_150 : decode cX6_layerOn 150 = .ok (.iconst 2, 1) := by decide +kernel
theorem dX6_layerOn_151 : decode cX6_layerOn 151 = .ok (.bipush 10, 2) := by decide +kernel
theorem dX6_layerOn_153 : decode cX6_layerOn 153 = .ok (.invokevirtual 96, 3) := by decide +kernel
theorem dX6_layerOn_156 : decode cX6_layerOn 156 = .ok (.aload_n 0, 1) := by decide +kernel
theorem dX6_layerOn_157 : decode cX6_layerOn 157 = .ok (.bipush 33, 2) := by decide +kernel
theorem dX6_layerOn_159 : decode cX6_layerOn 159 = .ok (.iconst 3, 1) := by decide +kernel
theorem dX6_layerOn_160 : decode cX6_layerOn 160 = .ok (.bipush 12, 2) := by decide +kernel
theorem dX6_layerOn_162 : decode cX6_layerOn 162 = .ok (.invokevirtual 96, 3) := by decide +kernel
