theorem dX0_init_0 : decode cX0_init 0 = .ok (.aload_n 0, 1) := by decide +kernel
theorem dX0_init_1 : decode cX0_init 1 = .ok (.invokespecial 1, 3) := by decide +kernel
theorem dX0_init_4 : decode cX0_init 4 = .ok (.aload_n 0, 1) := by decide +kernel
theorem dX0_init_5 : decode cX0_init 5 = .ok (.bipush 16, 2) := by decide +kernel
theorem dX0_init_7 : decode cX0_init 7 = .ok (.newarray .int, 2) := by decide +kernel
theorem dX0_init_9 : decode cX0_init 9 = .ok (.putfield 9, 3) := by decide +kernel
theorem dX0_init_12 : decode cX0_init 12 = .ok (.aload_n 0, 1) := by decide +kernel
theorem dX0_init_13 : decode cX0_init 13 = .ok (.bipush 16, 2) := by decide +kernel
theorem dX0_init_15 : decode cX0_init 15 = .ok (.newarray .int, 2) := by decide +kernel
theorem dX0_init_17 : decode cX0_init 17 = .ok (.putfield 15, 3) := by decide +kernel
theorem dX0_init_20 : decode cX0_init 20 = .ok (.aload_n 0, 1) := by decide +kernel
theorem dX0_init_21 : decode cX0_init 21 = .ok (.bipush 32, 2) := by decide +kernel
theorem dX0_init_23 : decode cX0_init 23 = .ok (.newarray .int, 2) := by decide +kernel
theorem dX0_init_25 : decode cX0_init 25 = .ok (.putfield 18, 3) := by decide +kernel
theorem dX0_init_28 : decode cX0_init 28 = .ok (.aload_n 0, 1) := by decide +kernel
theorem dX0_init_29 : decode cX0_init 29 = .ok (.bipush 32, 2) := by decide +kernel
theorem dX0_init_31 : decode cX0_init 31 = .ok (.newarray .int, 2) := by decide +kernel
theorem dX0_init_33 : decode cX0_init 33 = .ok (.putfield 21, 3) := by decide +kernel
theorem dX0_init_36 : decode cX0_init 36 = .ok (.return_, 1) := by decide +kernel
set_option maxRecDepth 20000 in
theorem ggX0_becomeLike_X1_put : GoodIn wsX0_becomeLike wsX1_put := goodIn_r _ [6] rfl rfl
set_option maxRecDepth 20000 in
theorem gX0_becomeLike_X1_put : GoodIn wsX0_becomeLike (va_wsS RX0 24 yX1_put wsX1_put) := goodIn_app (goodIn_r _ [3, 4, 5] rfl rfl) ggX0_becomeLike_X1_put
theorem dX0_becomeLike_0 : decode cX0_becomeLike 0 = .ok (.aload_n 0, 1) := by decide +kernel
theorem dX0_becomeLike_1 : decode cX0_becomeLike 1 = .ok (.getfield 9, 3) := by decide +kernel
theorem dX0_becomeLike_4 : decode cX0_becomeLike 4 = .ok (.aload_n 1, 1) := by decide +kernel
theorem dX0_becomeLike_5 : decode cX0_becomeLike 5 = .ok (.getfield 9, 3) := by decide +kernel
theorem dX0_becomeLike_8 : decode cX0_becomeLike 8 = .ok (.invokestatic 24, 3) := by decide +kernel
theorem dX0_becomeLike_11 : decode cX0_becomeLike 11 = .ok (.aload_n 0, 1) := by decide +kernel
theorem dX0_becomeLike_12 : decode cX0_becomeLike 12 = .ok (.getfield 15, 3) := by decide +kernel
theorem dX0_becomeLike_15 : decode cX0_becomeLike 15 = .ok (.aload_n 1, 1) := by decide +kernel
theorem dX0_becomeLike_16 : decode cX0_becomeLike 16 = .ok (.getfield 15, 3) := by decide +kernel
theorem dX0_becomeLike_19 : decode cX0_becomeLike 19 = .ok (.invokestatic 24, 3) := by decide +kernel
theorem dX0_becomeLike_22 : decode cX0_becomeLike 22 = .ok (.return_, 1) := by decide +kernel
set_option maxRecDepth 20000 in
theorem ggX0_toRestOfOne_X1_scale : GoodIn wsX0_toRestOfOne wsX1_scale := goodIn_r _ [7, 8] rfl rfl
set_option maxRecDepth 20000 in
theorem gX0_toRestOfOne_X1_scale : GoodIn wsX0_toRestOfOne (va_wsS RX0 30 yX1_scale wsX1_scale) := goodIn_app (goodIn_r _ [4, 5, 6] rfl rfl) ggX0_toRestOfOne_X1_scale
set_option maxRecDepth 20000 in
theorem ggX0_toRestOfOne_X1_gain : GoodIn wsX0_toRestOfOne wsX1_gain := goodIn_r _ [11, 8] rfl rfl
set_option maxRecDepth 20000 in
theorem gX0_toRestOfOne_X1_gain : GoodIn wsX0_toRestOfOne (va_wsS RX0 34 yX1_gain wsX1_gain) := goodIn_app (goodIn_r _ [9, 10, 6] rfl rfl) ggX0_toRestOfOne_X1_gain
theorem dX0_toRestOfOne_0 : decode cX0_toRestOfOne 0 = .ok (.aload_n 0, 1) := by decide +kernel
theorem dX0_toRestOfOne_1 : decode cX0_toRestOfOne 1 = .ok (.getfield 9, 3) := by decide +kernel
theorem dX0_toRestOfOne_4 : decode cX0_toRestOfOne 4 = .ok (.ldc2_w 28, 3) := by decide +kernel
theorem dX0_toRestOfOne_7 : decode cX0_toRestOfOne 7 = .ok (.invokestatic 30, 3) := by decide +kernel
theorem dX0_toRestOfOne_10 : decode cX0_toRestOfOne 10 = .ok (.aload_n 0, 1) := by decide +kernel
theorem dX0_toRestOfOne_11 : decode cX0_toRestOfOne 11 = .ok (.getfield 9, 3) := by decide +kernel
theorem dX0_toRestOfOne_14 : decode cX0_toRestOfOne 14 = .ok (.aload_n 0, 1) := by decide +kernel
theorem dX0_toRestOfOne_15 : decode cX0_toRestOfOne 15 = .ok (.getfield 15, 3) := by decide +kernel
theorem dX0_toRestOfOne_18 : decode cX0_toRestOfOne 18 = .ok (.lconst 1, 1) := by decide +kernel
theorem dX0_toRestOfOne_19 : decode cX0_toRestOfOne 19 = .ok (.invokestatic 34, 3) := by decide +kernel
theorem dX0_toRestOfOne_22 : decode cX0_toRestOfOne 22 = .ok (.return_, 1) := by decide +kernel
set_option maxRecDepth 20000 in
theorem ggX0_compareWith_X1_multiply : GoodIn wsX0_compareWith wsX1_multiply := goodIn_r _ [8, 9, 10, 7, 11, 12, 13, 14, 15] rfl rfl
set_option maxRecDepth 20000 in
theorem gX0_compareWith_X1_multiply : GoodIn wsX0_compareWith (va_wsS RX0 38 yX1_multiply wsX1_multiply) := goodIn_app (goodIn_r _ [5, 6, 7] rfl rfl) ggX0_compareWith_X1_multiply
set_option maxRecDepth 20000 in
theorem ggX0_compareWith_X1_compare : GoodIn wsX0_compareWith wsX1_compare := goodIn_r _ [18, 19, 20, 21, 22] rfl rfl
set_option maxRecDepth 20000 in
theorem gX0_compareWith_X1_compare : GoodIn wsX0_compareWith (va_wsS RX0 42 yX1_compare wsX1_compare) := goodIn_app (goodIn_r _ [16, 17, 7] rfl rfl) ggX0_compareWith_X1_compare
theorem dX0_compareWith_0 : decode cX0_compareWith 0 = .ok (.aload_n 0, 1) := by decide +kernel
theorem dX0_compareWith_1 : decode cX0_compareWith 1 = .ok (.getfield 18, 3) := by decide +kernel
theorem dX0_compareWith_4 : decode cX0_compareWith 4 = .ok (.aload_n 0, 1) := by decide +kernel
theorem dX0_compareWith_5 : decode cX0_compareWith 5 = .ok (.getfield 9, 3) := by decide +kernel
theorem dX0_compareWith_8 : decode cX0_compareWith 8 = .ok (.aload_n 1, 1) := by decide +kernel
theorem dX0_compareWith_9 : decode cX0_compareWith 9 = .ok (.getfield 15, 3) := by decide +kernel
theorem dX0_compareWith_12 : decode cX0_compareWith 12 = .ok (.invokestatic 38, 3) := by decide +kernel
theorem dX0_compareWith_15 : decode cX0_compareWith 15 = .ok (.aload_n 0, 1) := by decide +kernel
theorem dX0_compareWith_16 : decode cX0_compareWith 16 = .ok (.getfield 21, 3) := by decide +kernel
theorem dX0_compareWith_19 : decode cX0_compareWith 19 = .ok (.aload_n 1, 1) := by decide +kernel
theorem dX0_compareWith_20 : decode cX0_compareWith 20 = .ok (.getfield 9, 3) := by decide +kernel
theorem dX0_compareWith_23 : decode cX0_compareWith 23 = .ok (.aload_n 0, 1) := by decide +kernel
theorem dX0_compareWith_24 : decode cX0_compareWith 24 = .ok (.getfield 15, 3) := by decide +kernel
theorem dX0_compareWith_27 : decode cX0_compareWith 27 = .ok (.invokestatic 38, 3) := by decide +kernel
theorem dX0_compareWith_30 : decode cX0_compareWith 30 = .ok (.aload_n 0, 1) := by decide +kernel
theorem dX0_compareWith_31 : decode cX0_compareWith 31 = .ok (.getfield 18, 3) := by decide +kernel
theorem dX0_compareWith_34 : decode cX0_compareWith 34 = .ok (.aload_n 0, 1) := by decide +kernel
theorem dX0_compareWith_35 : decode cX0_compareWith 35 = .ok (.getfield 21, 3) := by decide +kernel
theorem dX0_compareWith_38 : decode cX0_compareWith 38 = .ok (.aload_n 0, 1) := by decide +kernel
theorem dX0_compareWith_39 : decode cX0_compareWith 39 = .ok (.getfield 18, 3) := by decide +kernel
theorem dX0_compareWith_42 : decode cX0_compareWith 42 = .ok (.arraylength, 1) := by decide +kernel
theorem dX0_compareWith_43 : decode cX0_compareWith 43 = .ok (.invokestatic 42, 3) := by decide +kernel
theorem dX0_compareWith_46 : decode cX0_compareWith 46 = .ok (.ireturn, 1) := by decide +kernel
set_option maxRecDepth 20000 in
theorem ggX0_toLowestTerms_X1_signOf : GoodIn wsX0_toLowestTerms wsX1_signOf := goodIn_r _ [12] rfl rfl
set_option maxRecDepth 20000 in
theorem gX0_toLowestTerms_X1_signOf : GoodIn wsX0_toLowestTerms (va_wsS RX0 46 yX1_signOf wsX1_signOf) := goodIn_app (goodIn_r _ [9, 10, 11] rfl rfl) ggX0_toLowestTerms_X1_signOf
set_option maxRecDepth 20000 in
theorem ggX0_toLowestTerms_X1_set : GoodIn wsX0_toLowestTerms wsX1_set := goodIn_r _ [15] rfl rfl
set_option maxRecDepth 20000 in
theorem gX0_toLowestTerms_X1_set : GoodIn wsX0_toLowestTerms (va_wsS RX0 50 yX1_set wsX1_set) := goodIn_app (goodIn_r _ [13, 14, 11] rfl rfl) ggX0_toLowestTerms_X1_set
set_option maxRecDepth 20000 in
theorem ggX0_toLowestTerms_X1_twosOf : GoodIn wsX0_toLowestTerms wsX1_twosOf := goodIn_r _ [18, 19, 20, 21, 22, 23] rfl rfl
set_option maxRecDepth 20000 in
theorem gX0_toLowestTerms_X1_twosOf : GoodIn wsX0_toLowestTerms (va_wsS RX0 54 yX1_twosOf wsX1_twosOf) := goodIn_app (goodIn_r _ [16, 17, 11] rfl rfl) ggX0_toLowestTerms_X1_twosOf
set_option maxRecDepth 20000 in
theorem ggX0_toLowestTerms_X1_shiftDown : GoodIn wsX0_toLowestTerms wsX1_shiftDown := goodIn_r _ [26, 27, 4, 5, 6, 28] rfl rfl
set_option maxRecDepth 20000 in
theorem gX0_toLowestTerms_X1_shiftDown : GoodIn wsX0_toLowestTerms (va_wsS RX0 64 yX1_shiftDown wsX1_shiftDown) := goodIn_app (goodIn_r _ [24, 25, 11] rfl rfl) ggX0_toLowestTerms_X1_shiftDown
set_option maxRecDepth 20000 in
theorem ggX0_toLowestTerms_X1_put : GoodIn wsX0_toLowestTerms wsX1_put := goodIn_r _ [31] rfl rfl
set_option maxRecDepth 20000 in
theorem gX0_toLowestTerms_X1_put : GoodIn wsX0_toLowestTerms (va_wsS RX0 24 yX1_put wsX1_put) := goodIn_app (goodIn_r _ [29, 30, 11] rfl rfl) ggX0_toLowestTerms_X1_put
set_option maxRecDepth 20000 in
theorem ggX0_toLowestTerms_X1_meetAtDivisor : GoodIn wsX0_toLowestTerms wsX1_meetAtDivisor := goodIn_r _ [34, 27, 4, 5, 6, 35, 36, 11, 37, 38, 39, 40, 28, 41, 17, 18, 19, 20, 21, 22, 23, 42, 25, 26] rfl rfl
set_option maxRecDepth 20000 in
theorem gX0_toLowestTerms_X1_meetAtDivisor : GoodIn wsX0_toLowestTerms (va_wsS RX0 68 yX1_meetAtDivisor wsX1_meetAtDivisor) := goodIn_app (goodIn_r _ [32, 33, 11] rfl rfl) ggX0_toLowestTerms_X1_meetAtDivisor
set_option maxRecDepth 20000 in
theorem ggX0_toLowestTerms_X1_divideExactly : GoodIn wsX0_toLowestTerms wsX1_divideExactly := goodIn_r _ [45, 28, 46, 47, 11, 48, 49, 50, 51, 52] rfl rfl
set_option maxRecDepth 20000 in
theorem gX0_toLowestTerms_X1_divideExactly : GoodIn wsX0_toLowestTerms (va_wsS RX0 71 yX1_divideExactly wsX1_divideExactly) := goodIn_app (goodIn_r _ [43, 44, 11] rfl rfl) ggX0_toLowestTerms_X1_divideExactly
theorem dX0_toLowestTerms_0 : decode cX0_toLowestTerms 0 = .ok (.aload_n 0, 1) := by decide +kernel
theorem dX0_toLowestTerms_1 : decode cX0_toLowestTerms 1 = .ok (.getfield 9, 3) := by decide +kernel
theorem dX0_toLowestTerms_4 : decode cX0_toLowestTerms 4 = .ok (.invokestatic 46, 3) := by decide +kernel
theorem dX0_toLowestTerms_7 : decode cX0_toLowestTerms 7 = .ok (.ifCond .ne 12, 3) := by decide +kernel
theorem dX0_toLowestTerms_10 : decode cX0_toLowestTerms 10 = .ok (.aload_n 0, 1) := by decide +kernel
theorem dX0_toLowestTerms_11 : decode cX0_toLowestTerms 11 = .ok (.getfield 15, 3) := by decide +kernel
theorem dX0_toLowestTerms_14 : decode cX0_toLowestTerms 14 = .ok (.iconst 1, 1) := by decide +kernel
theorem dX0_toLowestTerms_15 : decode cX0_toLowestTerms 15 = .ok (.invokestatic 50, 3) := by decide +kernel
theorem dX0_toLowestTerms_18 : decode cX0_toLowestTerms 18 = .ok (.return_, 1) := by decide +kernel
theorem dX0_toLowestTerms_19 : decode cX0_toLowestTerms 19 = .ok (.aload_n 0, 1) := by decide +kernel
theorem dX0_toLowestTerms_20 : decode cX0_toLowestTerms 20 = .ok (.getfield 9, 3) := by decide +kernel
theorem dX0_toLowestTerms_23 : decode cX0_toLowestTerms 23 = .ok (.aload_n 0, 1) := by decide +kernel
theorem dX0_toLowestTerms_24 : decode cX0_toLowestTerms 24 = .ok (.getfield 9, 3) := by decide +kernel
theorem dX0_toLowestTerms_27 : decode cX0_toLowestTerms 27 = .ok (.arraylength, 1) := by decide +kernel
theorem dX0_toLowestTerms_28 : decode cX0_toLowestTerms 28 = .ok (.invokestatic 54, 3) := by decide +kernel
theorem dX0_toLowestTerms_31 : decode cX0_toLowestTerms 31 = .ok (.aload_n 0, 1) := by decide +kernel
theorem dX0_toLowestTerms_32 : decode cX0_toLowestTerms 32 = .ok (.getfield 15, 3) := by decide +kernel
theorem dX0_toLowestTerms_35 : decode cX0_toLowestTerms 35 = .ok (.aload_n 0, 1) := by decide +kernel
theorem dX0_toLowestTerms_36 : decode cX0_toLowestTerms 36 = .ok (.getfield 15, 3) := by decide +kernel
theorem dX0_toLowestTerms_39 : decode cX0_toLowestTerms 39 = .ok (.arraylength, 1) := by decide +kernel
theorem dX0_toLowestTerms_40 : decode cX0_toLowestTerms 40 = .ok (.invokestatic 54, 3) := by decide +kernel
theorem dX0_toLowestTerms_43 : decode cX0_toLowestTerms 43 = .ok (.invokestatic 58, 3) := by decide +kernel
theorem dX0_toLowestTerms_46 : decode cX0_toLowestTerms 46 = .ok (.istore_n 1, 1) := by decide +kernel
theorem dX0_toLowestTerms_47 : decode cX0_toLowestTerms 47 = .ok (.aload_n 0, 1) := by decide +kernel
theorem dX0_toLowestTerms_48 : decode cX0_toLowestTerms 48 = .ok (.getfield 9, 3) := by decide +kernel
theorem dX0_toLowestTerms_51 : decode cX0_toLowestTerms 51 = .ok (.iload_n 1, 1) := by decide +kernel
theorem dX0_toLowestTerms_52 : decode cX0_toLowestTerms 52 = .ok (.aload_n 0, 1) := by decide +kernel
theorem dX0_toLowestTerms_53 : decode cX0_toLowestTerms 53 = .ok (.getfield 9, 3) := by decide +kernel
theorem dX0_toLowestTerms_56 : decode cX0_toLowestTerms 56 = .ok (.arraylength, 1) := by decide +kernel
theorem dX0_toLowestTerms_57 : decode cX0_toLowestTerms 57 = .ok (.invokestatic 64, 3) := by decide +kernel
theorem dX0_toLowestTerms_60 : decode cX0_toLowestTerms 60 = .ok (.aload_n 0, 1) := by decide +kernel
theorem dX0_toLowestTerms_61 : decode cX0_toLowestTerms 61 = .ok (.getfield 15, 3) := by decide +kernel
theorem dX0_toLowestTerms_64 : decode cX0_toLowestTerms 64 = .ok (.iload_n 1, 1) := by decide +kernel
theorem dX0_toLowestTerms_65 : decode cX0_toLowestTerms 65 = .ok (.aload_n 0, 1) := by decide +kernel
theorem dX0_toLowestTerms_66 : decode cX0_toLowestTerms 66 = .ok (.getfield 15, 3) := by decide +kernel
theorem dX0_toLowestTerms_69 : decode cX0_toLowestTerms 69 = .ok (.arraylength, 1) := by decide +kernel
theorem dX0_toLowestTerms_70 : decode cX0_toLowestTerms 70 = .ok (.invokestatic 64, 3) := by decide +kernel
theorem dX0_toLowestTerms_73 : decode cX0_toLowestTerms 73 = .ok (.aload_n 0, 1) := by decide +kernel
theorem dX0_toLowestTerms_74 : decode cX0_toLowestTerms 74 = .ok (.getfield 18, 3) := by decide +kernel
theorem dX0_toLowestTerms_77 : decode cX0_toLowestTerms 77 = .ok (.aload_n 0, 1) := by decide +kernel
theorem dX0_toLowestTerms_78 : decode cX0_toLowestTerms 78 = .ok (.getfield 9, 3) := by decide +kernel
theorem dX0_toLowestTerms_81 : decode cX0_toLowestTerms 81 = .ok (.invokestatic 24, 3) := by decide +kernel
theorem dX0_toLowestTerms_84 : decode cX0_toLowestTerms 84 = .ok (.aload_n 0, 1) := by decide +kernel
theorem dX0_toLowestTerms_85 : decode cX0_toLowestTerms 85 = .ok (.getfield 21, 3) := by decide +kernel
theorem dX0_toLowestTerms_88 : decode cX0_toLowestTerms 88 = .ok (.aload_n 0, 1) := by decide +kernel
theorem dX0_toLowestTerms_89 : decode cX0_toLowestTerms 89 = .ok (.getfield 15, 3) := by decide +kernel
theorem dX0_toLowestTerms_92 : decode cX0_toLowestTerms 92 = .ok (.invokestatic 24, 3) := by decide +kernel
theorem dX0_toLowestTerms_95 : decode cX0_toLowestTerms 95 = .ok (.aload_n 0, 1) := by decide +kernel
theorem dX0_toLowestTerms_96 : decode cX0_toLowestTerms 96 = .ok (.getfield 18, 3) := by decide +kernel
theorem dX0_toLowestTerms_99 : decode cX0_toLowestTerms 99 = .ok (.aload_n 0, 1) := by decide +kernel
theorem dX0_toLowestTerms_100 : decode cX0_toLowestTerms 100 = .ok (.getfield 18, 3) := by decide +kernel
theorem dX0_toLowestTerms_103 : decode cX0_toLowestTerms 103 = .ok (.aload_n 0, 1) := by decide +kernel
theorem dX0_toLowestTerms_104 : decode cX0_toLowestTerms 104 = .ok (.getfield 18, 3) := by decide +kernel
theorem dX0_toLowestTerms_107 : decode cX0_toLowestTerms 107 = .ok (.arraylength, 1) := by decide +kernel
theorem dX0_toLowestTerms_108 : decode cX0_toLowestTerms 108 = .ok (.invokestatic 54, 3) := by decide +kernel
theorem dX0_toLowestTerms_111 : decode cX0_toLowestTerms 111 = .ok (.aload_n 0, 1) := by decide +kernel
theorem dX0_toLowestTerms_112 : decode cX0_toLowestTerms 112 = .ok (.getfield 18, 3) := by decide +kernel
theorem dX0_toLowestTerms_115 : decode cX0_toLowestTerms 115 = .ok (.arraylength, 1) := by decide +kernel
theorem dX0_toLowestTerms_116 : decode cX0_toLowestTerms 116 = .ok (.invokestatic 64, 3) := by decide +kernel
theorem dX0_toLowestTerms_119 : decode cX0_toLowestTerms 119 = .ok (.aload_n 0, 1) := by decide +kernel
theorem dX0_toLowestTerms_120 : decode cX0_toLowestTerms 120 = .ok (.getfield 21, 3) := by decide +kernel
theorem dX0_toLowestTerms_123 : decode cX0_toLowestTerms 123 = .ok (.aload_n 0, 1) := by decide +kernel
theorem dX0_toLowestTerms_124 : decode cX0_toLowestTerms 124 = .ok (.getfield 21, 3) := by decide +kernel
theorem dX0_toLowestTerms_127 : decode cX0_toLowestTerms 127 = .ok (.aload_n 0, 1) := by decide +kernel
theorem dX0_toLowestTerms_128 : decode cX0_toLowestTerms 128 = .ok (.getfield 21, 3) := by decide +kernel
theorem dX0_toLowestTerms_131 : decode cX0_toLowestTerms 131 = .ok (.arraylength, 1) := by decide +kernel
theorem dX0_toLowestTerms_132 : decode cX0_toLowestTerms 132 = .ok (.invokestatic 54, 3) := by decide +kernel
theorem dX0_toLowestTerms_135 : decode cX0_toLowestTerms 135 = .ok (.aload_n 0, 1) := by decide +kernel
theorem dX0_toLowestTerms_136 : decode cX0_toLowestTerms 136 = .ok (.getfield 21, 3) := by decide +kernel
theorem dX0_toLowestTerms_139 : decode cX0_toLowestTerms 139 = .ok (.arraylength, 1) := by decide +kernel
theorem dX0_toLowestTerms_140 : decode cX0_toLowestTerms 140 = .ok (.invokestatic 64, 3) := by decide +kernel
theorem dX0_toLowestTerms_143 : decode cX0_toLowestTerms 143 = .ok (.aload_n 0, 1) := by decide +kernel
theorem dX0_toLowestTerms_144 : decode cX0_toLowestTerms 144 = .ok (.getfield 18, 3) := by decide +kernel
theorem dX0_toLowestTerms_147 : decode cX0_toLowestTerms 147 = .ok (.aload_n 0, 1) := by decide +kernel
theorem dX0_toLowestTerms_148 : decode cX0_toLowestTerms 148 = .ok (.getfield 21, 3) := by decide +kernel
theorem dX0_toLowestTerms_151 : decode cX0_toLowestTerms 151 = .ok (.invokestatic 68, 3) := by decide +kernel
theorem dX0_toLowestTerms_154 : decode cX0_toLowestTerms 154 = .ok (.aload_n 0, 1) := by decide +kernel
theorem dX0_toLowestTerms_155 : decode cX0_toLowestTerms 155 = .ok (.getfield 9, 3) := by decide +kernel
theorem dX0_toLowestTerms_158 : decode cX0_toLowestTerms 158 = .ok (.aload_n 0, 1) := by decide +kernel
theorem dX0_toLowestTerms_159 : decode cX0_toLowestTerms 159 = .ok (.getfield 18, 3) := by decide +kernel
theorem dX0_toLowestTerms_162 : decode cX0_toLowestTerms 162 = .ok (.invokestatic 71, 3) := by decide +kernel
theorem dX0_toLowestTerms_165 : decode cX0_toLowestTerms 165 = .ok (.aload_n 0, 1) := by decide +kernel
theorem dX0_toLowestTerms_166 : decode cX0_toLowestTerms 166 = .ok (.getfield 15, 3) := by decide +kernel
theorem dX0_toLowestTerms_169 : decode cX0_toLowestTerms 169 = .ok (.aload_n 0, 1) := by decide +kernel
theorem dX0_toLowestTerms_170 : decode cX0_toLowestTerms 170 = .ok (.getfield 18, 3) := by decide +kernel
theorem dX0_toLowestTerms_173 : decode cX0_toLowestTerms 173 = .ok (.invokestatic 71, 3) := by decide +kernel
theorem dX0_toLowestTerms_176 : decode cX0_toLowestTerms 176 = .ok (.return_, 1) := by decide +kernel
theorem dX0_part_0 : decode cX0_part 0 = .ok (.iload_n 1, 1) := by decide +kernel
theorem dX0_part_1 : decode cX0_part 1 = .ok (.ifCond .eq 10, 3) := by decide +kernel
theorem dX0_part_4 : decode cX0_part 4 = .ok (.aload_n 0, 1) := by decide +kernel
theorem dX0_part_5 : decode cX0_part 5 = .ok (.getfield 15, 3) := by decide +kernel
theorem dX0_part_8 : decode cX0_part 8 = .ok (.goto 7, 3) := by decide +kernel
theorem dX0_part_11 : decode cX0_part 11 = .ok (.aload_n 0, 1) := by decide +kernel
theorem dX0_part_12 : decode cX0_part 12 = .ok (.getfield 9, 3) := by decide +kernel
theorem dX0_part_15 : decode cX0_part 15 = .ok (.astore_n 3, 1) := by decide +kernel
theorem dX0_part_16 : decode cX0_part 16 = .ok (.iload_n 2, 1) := by decide +kernel
theorem dX0_part_17 : decode cX0_part 17 = .ok (.ifCond .lt 15, 3) := by decide +kernel
theorem dX0_part_20 : decode cX0_part 20 = .ok (.iload_n 2, 1) := by decide +kernel
theorem dX0_part_21 : decode cX0_part 21 = .ok (.aload_n 3, 1) := by decide +kernel
theorem dX0_part_22 : decode cX0_part 22 = .ok (.arraylength, 1) := by decide +kernel
theorem dX0_part_23 : decode cX0_part 23 = .ok (.if_icmp .ge 9, 3) := by decide +kernel
theorem dX0_part_26 : decode cX0_part 26 = .ok (.aload_n 3, 1) := by decide +kernel
theorem dX0_part_27 : decode cX0_part 27 = .ok (.iload_n 2, 1) := by decide +kernel
theorem dX0_part_28 : decode cX0_part 28 = .ok (.iaload, 1) := by decide +kernel
theorem dX0_part_29 : decode cX0_part 29 = .ok (.goto 4, 3) := by decide +kernel
theorem dX0_part_32 : decode cX0_part 32 = .ok (.iconst 0, 1) := by decide +kernel
theorem dX0_part_33 : decode cX0_part 33 = .ok (.ireturn, 1) := by decide +kernel
theorem dX1_set_0 : decode cX1_set 0 = .ok (.iconst 0, 1) := by decide +kernel
theorem dX1_set_1 : decode cX1_set 1 = .ok (.istore_n 2, 1) := by decide +kernel
theorem dX1_set_2 : decode cX1_set 2 = .ok (.iload_n 2, 1) := by decide +kernel
theorem dX1_set_3 : decode cX1_set 3 = .ok (.aload_n 0, 1) := by decide +kernel
theorem dX1_set_4 : decode cX1_set 4 = .ok (.arraylength, 1) := by decide +kernel
theorem dX1_set_5 : decode cX1_set 5 = .ok (.if_icmp .ge 21, 3) := by decide +kernel
theorem dX1_set_8 : decode cX1_set 8 = .ok (.aload_n 0, 1) := by decide +kernel
theorem dX1_set_9 : decode cX1_set 9 = .ok (.iload_n 2, 1) := by decide +kernel
theorem dX1_set_10 : decode cX1_set 10 = .ok (.iload_n 2, 1) := by decide +kernel
theorem dX1_set_11 : decode cX1_set 11 = .ok (.ifCond .ne 7, 3) := by decide +kernel
theorem dX1_set_14 : decode cX1_set 14 = .ok (.iload_n 1, 1) := by decide +kernel
theorem dX1_set_15 : decode cX1_set 15 = .ok (.goto 4, 3) := by decide +kernel
theorem dX1_set_18 : decode cX1_set 18 = .ok (.iconst 0, 1) := by decide +kernel
theorem dX1_set_19 : decode cX1_set 19 = .ok (.iastore, 1) := by decide +kernel
theorem dX1_set_20 : decode cX1_set 20 = .ok (.iinc 2 1, 3) := by decide +kernel
theorem dX1_set_23 : decode cX1_set 23 = .ok (.goto (-21), 3) := by decide +kernel
theorem dX1_set_26 : decode cX1_set 26 = .ok (.return_, 1) := by decide +kernel
theorem dX1_put_0 : decode cX1_put 0 = .ok (.iconst 0, 1) := by decide +kernel
theorem dX1_put_1 : decode cX1_put 1 = .ok (.istore_n 2, 1) := by decide +kernel
theorem dX1_put_2 : decode cX1_put 2 = .ok (.iload_n 2, 1) := by decide +kernel
theorem dX1_put_3 : decode cX1_put 3 = .ok (.aload_n 0, 1) := by decide +kernel
theorem dX1_put_4 : decode cX1_put 4 = .ok (.arraylength, 1) := by decide +kernel
theorem dX1_put_5 : decode cX1_put 5 = .ok (.if_icmp .ge 25, 3) := by decide +kernel
theorem dX1_put_8 : decode cX1_put 8 = .ok (.aload_n 0, 1) := by decide +kernel
theorem dX1_put_9 : decode cX1_put 9 = .ok (.iload_n 2, 1) := by decide +kernel
theorem dX1_put_10 : decode cX1_put 10 = .ok (.iload_n 2, 1) := by decide +kernel
theorem dX1_put_11 : decode cX1_put 11 = .ok (.aload_n 1, 1) := by decide +kernel
theorem dX1_put_12 : decode cX1_put 12 = .ok (.arraylength, 1) := by decide +kernel
theorem dX1_put_13 : decode cX1_put 13 = .ok (.if_icmp .ge 9, 3) := by decide +kernel
theorem dX1_put_16 : decode cX1_put 16 = .ok (.aload_n 1, 1) := by decide +kernel
theorem dX1_put_17 : decode cX1_put 17 = .ok (.iload_n 2, 1) := by decide +kernel
theorem dX1_put_18 : decode cX1_put 18 = .ok (.iaload, 1) := by decide +kernel
theorem dX1_put_19 : decode cX1_put 19 = .ok (.goto 4, 3) := by decide +kernel
theorem dX1_put_22 : decode cX1_put 22 = .ok (.iconst 0, 1) := by decide +kernel
theorem dX1_put_23 : decode cX1_put 23 = .ok (.iastore, 1) := by decide +kernel
theorem dX1_put_24 : decode cX1_put 24 = .ok (.iinc 2 1, 3) := by decide +kernel
theorem dX1_put_27 : decode cX1_put 27 = .ok (.goto (-25), 3) := by decide +kernel
theorem dX1_put_30 : decode cX1_put 30 = .ok (.return_, 1) := by decide +kernel
set_option maxRecDepth 20000 in
theorem ggX1_putSize_X1_signOf : GoodIn wsX1_putSize wsX1_signOf := goodIn_r _ [5] rfl rfl
set_option maxRecDepth 20000 in
theorem gX1_putSize_X1_signOf : GoodIn wsX1_putSize (va_wsS RX1 9 yX1_signOf wsX1_signOf) := goodIn_app (goodIn_r _ [2, 3, 4] rfl rfl) ggX1_putSize_X1_signOf
set_option maxRecDepth 20000 in
theorem ggX1_putSize_X1_put : GoodIn wsX1_putSize wsX1_put := goodIn_r _ [8] rfl rfl
set_option maxRecDepth 20000 in
theorem gX1_putSize_X1_put : GoodIn wsX1_putSize (va_wsS RX1 13 yX1_put wsX1_put) := goodIn_app (goodIn_r _ [6, 7, 4] rfl rfl) ggX1_putSize_X1_put
theorem dX1_putSize_0 : decode cX1_putSize 0 = .ok (.aload_n 1, 1) := by decide +kernel
theorem dX1_putSize_1 : decode cX1_putSize 1 = .ok (.invokestatic 9, 3) := by decide +kernel
theorem dX1_putSize_4 : decode cX1_putSize 4 = .ok (.ifCond .lt 9, 3) := by decide +kernel
theorem dX1_putSize_7 : decode cX1_putSize 7 = .ok (.aload_n 0, 1) := by decide +kernel
theorem dX1_putSize_8 : decode cX1_putSize 8 = .ok (.aload_n 1, 1) := by decide +kernel
theorem dX1_putSize_9 : decode cX1_putSize 9 = .ok (.invokestatic 13, 3) := by decide +kernel
theorem dX1_putSize_12 : decode cX1_putSize 12 = .ok (.return_, 1) := by decide +kernel
theorem dX1_putSize_13 : decode cX1_putSize 13 = .ok (.iconst 0, 1) := by decide +kernel
theorem dX1_putSize_14 : decode cX1_putSize 14 = .ok (.istore_n 2, 1) := by decide +kernel
theorem dX1_putSize_15 : decode cX1_putSize 15 = .ok (.iconst 0, 1) := by decide +kernel
theorem dX1_putSize_16 : decode cX1_putSize 16 = .ok (.istore_n 3, 1) := by decide +kernel
theorem dX1_putSize_17 : decode cX1_putSize 17 = .ok (.iload_n 3, 1) := by decide +kernel
theorem dX1_putSize_18 : decode cX1_putSize 18 = .ok (.aload_n 0, 1) := by decide +kernel
theorem dX1_putSize_19 : decode cX1_putSize 19 = .ok (.arraylength, 1) := by decide +kernel
theorem dX1_putSize_20 : decode cX1_putSize 20 = .ok (.if_icmp .ge 40, 3) := by decide +kernel
theorem dX1_putSize_23 : decode cX1_putSize 23 = .ok (.iload_n 3, 1) := by decide +kernel
theorem dX1_putSize_24 : decode cX1_putSize 24 = .ok (.aload_n 1, 1) := by decide +kernel
theorem dX1_putSize_25 : decode cX1_putSize 25 = .ok (.arraylength, 1) := by decide +kernel
theorem dX1_putSize_26 : decode cX1_putSize 26 = .ok (.if_icmp .ge 24, 3) := by decide +kernel
theorem dX1_putSize_29 : decode cX1_putSize 29 = .ok (.iload_n 2, 1) := by decide +kernel
theorem dX1_putSize_30 : decode cX1_putSize 30 = .ok (.aload_n 1, 1) := by decide +kernel
theorem dX1_putSize_31 : decode cX1_putSize 31 = .ok (.iload_n 3, 1) := by decide +kernel
theorem dX1_putSize_32 : decode cX1_putSize 32 = .ok (.iaload, 1) := by decide +kernel
theorem dX1_putSize_33 : decode cX1_putSize 33 = .ok (.isub, 1) := by decide +kernel
theorem dX1_putSize_34 : decode cX1_putSize 34 = .ok (.istore_n 2, 1) := by decide +kernel
theorem dX1_putSize_35 : decode cX1_putSize 35 = .ok (.aload_n 0, 1) := by decide +kernel
theorem dX1_putSize_36 : decode cX1_putSize 36 = .ok (.iload_n 3, 1) := by decide +kernel
theorem dX1_putSize_37 : decode cX1_putSize 37 = .ok (.iload_n 2, 1) := by decide +kernel
theorem dX1_putSize_38 : decode cX1_putSize 38 = .ok (.ldc 17, 2) := by decide +kernel
theorem dX1_putSize_40 : decode cX1_putSize 40 = .ok (.iand, 1) := by decide +kernel
theorem dX1_putSize_41 : decode cX1_putSize 41 = .ok (.iastore, 1) := by decide +kernel
theorem dX1_putSize_42 : decode cX1_putSize 42 = .ok (.iload_n 2, 1) := by decide +kernel
theorem dX1_putSize_43 : decode cX1_putSize 43 = .ok (.bipush 30, 2) := by decide +kernel
theorem dX1_putSize_45 : decode cX1_putSize 45 = .ok (.ishr, 1) := by decide +kernel
theorem dX1_putSize_46 : decode cX1_putSize 46 = .ok (.istore_n 2, 1) := by decide +kernel
theorem dX1_putSize_47 : decode cX1_putSize 47 = .ok (.goto 7, 3) := by decide +kernel
theorem dX1_putSize_50 : decode cX1_putSize 50 = .ok (.aload_n 0, 1) := by decide +kernel
theorem dX1_putSize_51 : decode cX1_putSize 51 = .ok (.iload_n 3, 1) := by decide +kernel
theorem dX1_putSize_52 : decode cX1_putSize 52 = .ok (.iconst 0, 1) := by decide +kernel
theorem dX1_putSize_53 : decode cX1_putSize 53 = .ok (.iastore, 1) := by decide +kernel
theorem dX1_putSize_54 : decode cX1_putSize 54 = .ok (.iinc 3 1, 3) := by decide +kernel
theorem dX1_putSize_57 : decode cX1_putSize 57 = .ok (.goto (-40), 3) := by decide +kernel
theorem dX1_putSize_60 : decode cX1_putSize 60 = .ok (.return_, 1) := by decide +kernel
theorem dX1_signOf_0 : decode cX1_signOf 0 = .ok (.aload_n 0, 1) := by decide +kernel
theorem dX1_signOf_1 : decode cX1_signOf 1 = .ok (.arraylength, 1) := by decide +kernel
theorem dX1_signOf_2 : decode cX1_signOf 2 = .ok (.iconst 1, 1) := by decide +kernel
theorem dX1_signOf_3 : decode cX1_signOf 3 = .ok (.isub, 1) := by decide +kernel
theorem dX1_signOf_4 : decode cX1_signOf 4 = .ok (.istore_n 1, 1) := by decide +kernel
theorem dX1_signOf_5 : decode cX1_signOf 5 = .ok (.iload_n 1, 1) := by decide +kernel
theorem dX1_signOf_6 : decode cX1_signOf 6 = .ok (.ifCond .lt 36, 3) := by decide +kernel
theorem dX1_signOf_9 : decode cX1_signOf 9 = .ok (.iload_n 1, 1) := by decide +kernel
theorem dX1_signOf_10 : decode cX1_signOf 10 = .ok (.aload_n 0, 1) := by decide +kernel
theorem dX1_signOf_11 : decode cX1_signOf 11 = .ok (.arraylength, 1) := by decide +kernel
theorem dX1_signOf_12 : decode cX1_signOf 12 = .ok (.iconst 1, 1) := by decide +kernel
theorem dX1_signOf_13 : decode cX1_signOf 13 = .ok (.isub, 1) := by decide +kernel
theorem dX1_signOf_14 : decode cX1_signOf 14 = .ok (.if_icmp .ne 14, 3) := by decide +kernel
theorem dX1_signOf_17 : decode cX1_signOf 17 = .ok (.aload_n 0, 1) := by decide +kernel
theorem dX1_signOf_18 : decode cX1_signOf 18 = .ok (.iload_n 1, 1) := by decide +kernel
theorem dX1_signOf_19 : decode cX1_signOf 19 = .ok (.iaload, 1) := by decide +kernel
theorem dX1_signOf_20 : decode cX1_signOf 20 = .ok (.bipush 29, 2) := by decide +kernel
theorem dX1_signOf_22 : decode cX1_signOf 22 = .ok (.ishr, 1) := by decide +kernel
theorem dX1_signOf_23 : decode cX1_signOf 23 = .ok (.ifCond .eq 5, 3) := by decide +kernel
theorem dX1_signOf_26 : decode cX1_signOf 26 = .ok (.iconst (-1), 1) := by decide +kernel
theorem dX1_signOf_27 : decode cX1_signOf 27 = .ok (.ireturn, 1) := by decide +kernel
theorem dX1_signOf_28 : decode cX1_signOf 28 = .ok (.aload_n 0, 1) := by decide +kernel
theorem dX1_signOf_29 : decode cX1_signOf 29 = .ok (.iload_n 1, 1) := by decide +kernel
theorem dX1_signOf_30 : decode cX1_signOf 30 = .ok (.iaload, 1) := by decide +kernel
theorem dX1_signOf_31 : decode cX1_signOf 31 = .ok (.ifCond .eq 5, 3) := by decide +kernel
theorem dX1_signOf_34 : decode cX1_signOf 34 = .ok (.iconst 1, 1) := by decide +kernel
theorem dX1_signOf_35 : decode cX1_signOf 35 = .ok (.ireturn, 1) := by decide +kernel
theorem dX1_signOf_36 : decode cX1_signOf 36 = .ok (.iinc 1 (-1), 3) := by decide +kernel
theorem dX1_signOf_39 : decode cX1_signOf 39 = .ok (.goto (-34), 3) := by decide +kernel
theorem dX1_signOf_42 : decode cX1_signOf 42 = .ok (.iconst 0, 1) := by decide +kernel
theorem dX1_signOf_43 : decode cX1_signOf 43 = .ok (.ireturn, 1) := by decide +kernel
theorem dX1_scale_0 : decode cX1_scale 0 = .ok (.lconst 0, 1) := by decide +kernel
theorem dX1_scale_1 : decode cX1_scale 1 = .ok (.lstore_n 3, 1) := by decide +kernel
theorem dX1_scale_2 : decode cX1_scale 2 = .ok (.iconst 0, 1) := by decide +kernel
theorem dX1_scale_3 : decode cX1_scale 3 = .ok (.istore 5, 2) := by decide +kernel
theorem dX1_scale_5 : decode cX1_scale 5 = .ok (.iload 5, 2) := by decide +kernel
theorem dX1_scale_7 : decode cX1_scale 7 = .ok (.aload_n 0, 1) := by decide +kernel
theorem dX1_scale_8 : decode cX1_scale 8 = .ok (.arraylength, 1) := by decide +kernel
theorem dX1_scale_9 : decode cX1_scale 9 = .ok (.if_icmp .ge 34, 3) := by decide +kernel
theorem dX1_scale_12 : decode cX1_scale 12 = .ok (.lload_n 3, 1) := by decide +kernel
theorem dX1_scale_13 : decode cX1_scale 13 = .ok (.aload_n 0, 1) := by decide +kernel
theorem dX1_scale_14 : decode cX1_scale 14 = .ok (.iload 5, 2) := by decide +kernel
theorem dX1_scale_16 : decode cX1_scale 16 = .ok (.iaload, 1) := by decide +kernel
theorem dX1_scale_17 : decode cX1_scale 17 = .ok (.i2l, 1) := by decide +kernel
theorem dX1_scale_18 : decode cX1_scale 18 = .ok (.lload_n 1, 1) := by decide +kernel
theorem dX1_scale_19 : decode cX1_scale 19 = .ok (.lmul, 1) := by decide +kernel
theorem dX1_scale_20 : decode cX1_scale 20 = .ok (.ladd, 1) := by decide +kernel
theorem dX1_scale_21 : decode cX1_scale 21 = .ok (.lstore_n 3, 1) := by decide +kernel
theorem dX1_scale_22 : decode cX1_scale 22 = .ok (.aload_n 0, 1) := by decide +kernel
theorem dX1_scale_23 : decode cX1_scale 23 = .ok (.iload 5, 2) := by decide +kernel
theorem dX1_scale_25 : decode cX1_scale 25 = .ok (.lload_n 3, 1) := by decide +kernel
theorem dX1_scale_26 : decode cX1_scale 26 = .ok (.ldc2_w 18, 3) := by decide +kernel
theorem dX1_scale_29 : decode cX1_scale 29 = .ok (.land, 1) := by decide +kernel
theorem dX1_scale_30 : decode cX1_scale 30 = .ok (.l2i, 1) := by decide +kernel
theorem dX1_scale_31 : decode cX1_scale 31 = .ok (.iastore, 1) := by decide +kernel
theorem dX1_scale_32 : decode cX1_scale 32 = .ok (.lload_n 3, 1) := by decide +kernel
theorem dX1_scale_33 : decode cX1_scale 33 = .ok (.bipush 30, 2) := by decide +kernel
theorem dX1_scale_35 : decode cX1_scale 35 = .ok (.lshr, 1) := by decide +kernel
theorem dX1_scale_36 : decode cX1_scale 36 = .ok (.lstore_n 3, 1) := by decide +kernel
theorem dX1_scale_37 : decode cX1_scale 37 = .ok (.iinc 5 1, 3) := by decide +kernel
theorem dX1_scale_40 : decode cX1_scale 40 = .ok (.goto (-35), 3) := by decide +kernel
theorem dX1_scale_43 : decode cX1_scale 43 = .ok (.return_, 1) := by decide +kernel
theorem dX1_gain_0 : decode cX1_gain 0 = .ok (.lconst 0, 1) := by decide +kernel
theorem dX1_gain_1 : decode cX1_gain 1 = .ok (.lstore 4, 2) := by decide +kernel
theorem dX1_gain_3 : decode cX1_gain 3 = .ok (.iconst 0, 1) := by decide +kernel
theorem dX1_gain_4 : decode cX1_gain 4 = .ok (.istore 6, 2) := by decide +kernel
theorem dX1_gain_6 : decode cX1_gain 6 = .ok (.iload 6, 2) := by decide +kernel
theorem dX1_gain_8 : decode cX1_gain 8 = .ok (.aload_n 0, 1) := by decide +kernel
theorem dX1_gain_9 : decode cX1_gain 9 = .ok (.arraylength, 1) := by decide +kernel
theorem dX1_gain_10 : decode cX1_gain 10 = .ok (.if_icmp .ge 52, 3) := by decide +kernel
theorem dX1_gain_13 : decode cX1_gain 13 = .ok (.iload 6, 2) := by decide +kernel
theorem dX1_gain_15 : decode cX1_gain 15 = .ok (.aload_n 1, 1) := by decide +kernel
theorem dX1_gain_16 : decode cX1_gain 16 = .ok (.arraylength, 1) := by decide +kernel
theorem dX1_gain_17 : decode cX1_gain 17 = .ok (.if_icmp .ge 45, 3) := by decide +kernel
theorem dX1_gain_20 : decode cX1_gain 20 = .ok (.lload 4, 2) := by decide +kernel
theorem dX1_gain_22 : decode cX1_gain 22 = .ok (.aload_n 0, 1) := by decide +kernel
theorem dX1_gain_23 : decode cX1_gain 23 = .ok (.iload 6, 2) := by decide +kernel
theorem dX1_gain_25 : decode cX1_gain 25 = .ok (.iaload, 1) := by decide +kernel
theorem dX1_gain_26 : decode cX1_gain 26 = .ok (.i2l, 1) := by decide +kernel
theorem dX1_gain_27 : decode cX1_gain 27 = .ok (.aload_n 1, 1) := by decide +kernel
theorem dX1_gain_28 : decode cX1_gain 28 = .ok (.iload 6, 2) := by decide +kernel
theorem dX1_gain_30 : decode cX1_gain 30 = .ok (.iaload, 1) := by decide +kernel
theorem dX1_gain_31 : decode cX1_gain 31 = .ok (.i2l, 1) := by decide +kernel
theorem dX1_gain_32 : decode cX1_gain 32 = .ok (.lload_n 2, 1) := by decide +kernel
theorem dX1_gain_33 : decode cX1_gain 33 = .ok (.lmul, 1) := by decide +kernel
theorem dX1_gain_34 : decode cX1_gain 34 = .ok (.ladd, 1) := by decide +kernel
theorem dX1_gain_35 : decode cX1_gain 35 = .ok (.ladd, 1) := by decide +kernel
theorem dX1_gain_36 : decode cX1_gain 36 = .ok (.lstore 4, 2) := by decide +kernel
theorem dX1_gain_38 : decode cX1_gain 38 = .ok (.aload_n 0, 1) := by decide +kernel
theorem dX1_gain_39 : decode cX1_gain 39 = .ok (.iload 6, 2) := by decide +kernel
theorem dX1_gain_41 : decode cX1_gain 41 = .ok (.lload 4, 2) := by decide +kernel
theorem dX1_gain_43 : decode cX1_gain 43 = .ok (.ldc2_w 18, 3) := by decide +kernel
theorem dX1_gain_46 : decode cX1_gain 46 = .ok (.land, 1) := by decide +kernel
theorem dX1_gain_47 : decode cX1_gain 47 = .ok (.l2i, 1) := by decide +kernel
theorem dX1_gain_48 : decode cX1_gain 48 = .ok (.iastore, 1) := by decide +kernel
theorem dX1_gain_49 : decode cX1_gain 49 = .ok (.lload 4, 2) := by decide +kernel
theorem dX1_gain_51 : decode cX1_gain 51 = .ok (.bipush 30, 2) := by decide +kernel
theorem dX1_gain_53 : decode cX1_gain 53 = .ok (.lshr, 1) := by decide +kernel
theorem dX1_gain_54 : decode cX1_gain 54 = .ok (.lstore 4, 2) := by decide +kernel
theorem dX1_gain_56 : decode cX1_gain 56 = .ok (.iinc 6 1, 3) := by decide +kernel
theorem dX1_gain_59 : decode cX1_gain 59 = .ok (.goto (-53), 3) := by decide +kernel
theorem dX1_gain_62 : decode cX1_gain 62 = .ok (.return_, 1) := by decide +kernel
set_option maxRecDepth 20000 in
theorem ggX1_multiply_X1_set : GoodIn wsX1_multiply wsX1_set := goodIn_r _ [4] rfl rfl
set_option maxRecDepth 20000 in
theorem gX1_multiply_X1_set : GoodIn wsX1_multiply (va_wsS RX1 20 yX1_set wsX1_set) := goodIn_app (goodIn_r _ [1, 2, 3] rfl rfl) ggX1_multiply_X1_set
set_option maxRecDepth 20000 in
theorem ggX1_multiply_X1_gainRaised : GoodIn wsX1_multiply wsX1_gainRaised := goodIn_r _ [7, 8] rfl rfl
set_option maxRecDepth 20000 in
theorem gX1_multiply_X1_gainRaised : GoodIn wsX1_multiply (va_wsS RX1 24 yX1_gainRaised wsX1_gainRaised) := goodIn_app (goodIn_r _ [5, 6, 3] rfl rfl) ggX1_multiply_X1_gainRaised
theorem dX1_multiply_0 : decode cX1_multiply 0 = .ok (.aload_n 0, 1) := by decide +kernel
theorem dX1_multiply_1 : decode cX1_multiply 1 = .ok (.iconst 0, 1) := by decide +kernel
theorem dX1_multiply_2 : decode cX1_multiply 2 = .ok (.invokestatic 20, 3) := by decide +kernel
theorem dX1_multiply_5 : decode cX1_multiply 5 = .ok (.iconst 0, 1) := by decide +kernel
theorem dX1_multiply_6 : decode cX1_multiply 6 = .ok (.istore_n 3, 1) := by decide +kernel
theorem dX1_multiply_7 : decode cX1_multiply 7 = .ok (.iload_n 3, 1) := by decide +kernel
theorem dX1_multiply_8 : decode cX1_multiply 8 = .ok (.aload_n 1, 1) := by decide +kernel
theorem dX1_multiply_9 : decode cX1_multiply 9 = .ok (.arraylength, 1) := by decide +kernel
theorem dX1_multiply_10 : decode cX1_multiply 10 = .ok (.if_icmp .ge 25, 3) := by decide +kernel
theorem dX1_multiply_13 : decode cX1_multiply 13 = .ok (.aload_n 1, 1) := by decide +kernel
theorem dX1_multiply_14 : decode cX1_multiply 14 = .ok (.iload_n 3, 1) := by decide +kernel
theorem dX1_multiply_15 : decode cX1_multiply 15 = .ok (.iaload, 1) := by decide +kernel
theorem dX1_multiply_16 : decode cX1_multiply 16 = .ok (.ifCond .eq 13, 3) := by decide +kernel
theorem dX1_multiply_19 : decode cX1_multiply 19 = .ok (.aload_n 0, 1) := by decide +kernel
theorem dX1_multiply_20 : decode cX1_multiply 20 = .ok (.aload_n 2, 1) := by decide +kernel
theorem dX1_multiply_21 : decode cX1_multiply 21 = .ok (.aload_n 1, 1) := by decide +kernel
theorem dX1_multiply_22 : decode cX1_multiply 22 = .ok (.iload_n 3, 1) := by decide +kernel
theorem dX1_multiply_23 : decode cX1_multiply 23 = .ok (.iaload, 1) := by decide +kernel
theorem dX1_multiply_24 : decode cX1_multiply 24 = .ok (.i2l, 1) := by decide +kernel
theorem dX1_multiply_25 : decode cX1_multiply 25 = .ok (.iload_n 3, 1) := by decide +kernel
theorem dX1_multiply_26 : decode cX1_multiply 26 = .ok (.invokestatic 24, 3) := by decide +kernel
theorem dX1_multiply_29 : decode cX1_multiply 29 = .ok (.iinc 3 1, 3) := by decide +kernel
theorem dX1_multiply_32 : decode cX1_multiply 32 = .ok (.goto (-25), 3) := by decide +kernel
theorem dX1_multiply_35 : decode cX1_multiply 35 = .ok (.return_, 1) := by decide +kernel
theorem dX1_compare_0 : decode cX1_compare 0 = .ok (.iload_n 2, 1) := by decide +kernel
theorem dX1_compare_1 : decode cX1_compare 1 = .ok (.aload_n 0, 1) := by decide +kernel
theorem dX1_compare_2 : decode cX1_compare 2 = .ok (.arraylength, 1) := by decide +kernel
theorem dX1_compare_3 : decode cX1_compare 3 = .ok (.aload_n 1, 1) := by decide +kernel
theorem dX1_compare_4 : decode cX1_compare 4 = .ok (.arraylength, 1) := by decide +kernel
theorem dX1_compare_5 : decode cX1_compare 5 = .ok (.invokestatic 28, 3) := by decide +kernel
theorem dX1_compare_8 : decode cX1_compare 8 = .ok (.invokestatic 28, 3) := by decide +kernel
theorem dX1_compare_11 : decode cX1_compare 11 = .ok (.iconst 1, 1) := by decide +kernel
theorem dX1_compare_12 : decode cX1_compare 12 = .ok (.isub, 1) := by decide +kernel
theorem dX1_compare_13 : decode cX1_compare 13 = .ok (.istore_n 3, 1) := by decide +kernel
theorem dX1_compare_14 : decode cX1_compare 14 = .ok (.iload_n 3, 1) := by decide +kernel
theorem dX1_compare_15 : decode cX1_compare 15 = .ok (.ifCond .lt 33, 3) := by decide +kernel
theorem dX1_compare_18 : decode cX1_compare 18 = .ok (.aload_n 0, 1) := by decide +kernel
theorem dX1_compare_19 : decode cX1_compare 19 = .ok (.iload_n 3, 1) := by decide +kernel
theorem dX1_compare_20 : decode cX1_compare 20 = .ok (.iaload, 1) := by decide +kernel
theorem dX1_compare_21 : decode cX1_compare 21 = .ok (.aload_n 1, 1) := by decide +kernel
theorem dX1_compare_22 : decode cX1_compare 22 = .ok (.iload_n 3, 1) := by decide +kernel
theorem dX1_compare_23 : decode cX1_compare 23 = .ok (.iaload, 1) := by decide +kernel
theorem dX1_compare_24 : decode cX1_compare 24 = .ok (.if_icmp .eq 18, 3) := by decide +kernel
theorem dX1_compare_27 : decode cX1_compare 27 = .ok (.aload_n 0, 1) := by decide +kernel
theorem dX1_compare_28 : decode cX1_compare 28 = .ok (.iload_n 3, 1) := by decide +kernel
theorem dX1_compare_29 : decode cX1_compare 29 = .ok (.iaload, 1) := by decide +kernel
theorem dX1_compare_30 : decode cX1_compare 30 = .ok (.aload_n 1, 1) := by decide +kernel
theorem dX1_compare_31 : decode cX1_compare 31 = .ok (.iload_n 3, 1) := by decide +kernel
theorem dX1_compare_32 : decode cX1_compare 32 = .ok (.iaload, 1) := by decide +kernel
theorem dX1_compare_33 : decode cX1_compare 33 = .ok (.if_icmp .ge 7, 3) := by decide +kernel
theorem dX1_compare_36 : decode cX1_compare 36 = .ok (.iconst (-1), 1) := by decide +kernel
theorem dX1_compare_37 : decode cX1_compare 37 = .ok (.goto 4, 3) := by decide +kernel
theorem dX1_compare_40 : decode cX1_compare 40 = .ok (.iconst 1, 1) := by decide +kernel
theorem dX1_compare_41 : decode cX1_compare 41 = .ok (.ireturn, 1) := by decide +kernel
theorem dX1_compare_42 : decode cX1_compare 42 = .ok (.iinc 3 (-1), 3) := by decide +kernel
theorem dX1_compare_45 : decode cX1_compare 45 = .ok (.goto (-31), 3) := by decide +kernel
theorem dX1_compare_48 : decode cX1_compare 48 = .ok (.iconst 0, 1) := by decide +kernel
theorem dX1_compare_49 : decode cX1_compare 49 = .ok (.ireturn, 1) := by decide +kernel
set_option maxRecDepth 20000 in
theorem ggX1_twosOf_J6_numberOfTrailingZeros_0f7a4 : GoodIn wsX1_twosOf wsJ6_numberOfTrailingZeros_0f7a4 := goodIn_r _ [4, 5] rfl rfl
set_option maxRecDepth 20000 in
theorem gX1_twosOf_J6_numberOfTrailingZeros_0f7a4 : GoodIn wsX1_twosOf (va_wsS RX1 34 yJ6_numberOfTrailingZeros_0f7a4 wsJ6_numberOfTrailingZeros_0f7a4) := goodIn_app (goodIn_r _ [1, 2, 3] rfl rfl) ggX1_twosOf_J6_numberOfTrailingZeros_0f7a4
theorem dX1_twosOf_0 : decode cX1_twosOf 0 = .ok (.iconst 0, 1) := by decide +kernel
theorem dX1_twosOf_1 : decode cX1_twosOf 1 = .ok (.istore_n 2, 1) := by decide +kernel
theorem dX1_twosOf_2 : decode cX1_twosOf 2 = .ok (.iload_n 2, 1) := by decide +kernel
theorem dX1_twosOf_3 : decode cX1_twosOf 3 = .ok (.iload_n 1, 1) := by decide +kernel
theorem dX1_twosOf_4 : decode cX1_twosOf 4 = .ok (.if_icmp .ge 33, 3) := by decide +kernel
theorem dX1_twosOf_7 : decode cX1_twosOf 7 = .ok (.iload_n 2, 1) := by decide +kernel
theorem dX1_twosOf_8 : decode cX1_twosOf 8 = .ok (.aload_n 0, 1) := by decide +kernel
theorem dX1_twosOf_9 : decode cX1_twosOf 9 = .ok (.arraylength, 1) := by decide +kernel
theorem dX1_twosOf_10 : decode cX1_twosOf 10 = .ok (.if_icmp .ge 27, 3) := by decide +kernel
theorem dX1_twosOf_13 : decode cX1_twosOf 13 = .ok (.aload_n 0, 1) := by decide +kernel
theorem dX1_twosOf_14 : decode cX1_twosOf 14 = .ok (.iload_n 2, 1) := by decide +kernel
theorem dX1_twosOf_15 : decode cX1_twosOf 15 = .ok (.iaload, 1) := by decide +kernel
theorem dX1_twosOf_16 : decode cX1_twosOf 16 = .ok (.ifCond .eq 15, 3) := by decide +kernel
theorem dX1_twosOf_19 : decode cX1_twosOf 19 = .ok (.iload_n 2, 1) := by decide +kernel
theorem dX1_twosOf_20 : decode cX1_twosOf 20 = .ok (.bipush 30, 2) := by decide +kernel
theorem dX1_twosOf_22 : decode cX1_twosOf 22 = .ok (.imul, 1) := by decide +kernel
theorem dX1_twosOf_23 : decode cX1_twosOf 23 = .ok (.aload_n 0, 1) := by decide +kernel
theorem dX1_twosOf_24 : decode cX1_twosOf 24 = .ok (.iload_n 2, 1) := by decide +kernel
theorem dX1_twosOf_25 : decode cX1_twosOf 25 = .ok (.iaload, 1) := by decide +kernel
theorem dX1_twosOf_26 : decode cX1_twosOf 26 = .ok (.invokestatic 34, 3) := by decide +kernel
theorem dX1_twosOf_29 : decode cX1_twosOf 29 = .ok (.iadd, 1) := by decide +kernel
theorem dX1_twosOf_30 : decode cX1_twosOf 30 = .ok (.ireturn, 1) := by decide +kernel
theorem dX1_twosOf_31 : decode cX1_twosOf 31 = .ok (.iinc 2 1, 3) := by decide +kernel
theorem dX1_twosOf_34 : decode cX1_twosOf 34 = .ok (.goto (-32), 3) := by decide +kernel
theorem dX1_twosOf_37 : decode cX1_twosOf 37 = .ok (.iconst 0, 1) := by decide +kernel
theorem dX1_twosOf_38 : decode cX1_twosOf 38 = .ok (.ireturn, 1) := by decide +kernel
theorem dX1_shiftDown_0 : decode cX1_shiftDown 0 = .ok (.iload_n 1, 1) := by decide +kernel
theorem dX1_shiftDown_1 : decode cX1_shiftDown 1 = .ok (.ifCond .gt 4, 3) := by decide +kernel
theorem dX1_shiftDown_4 : decode cX1_shiftDown 4 = .ok (.return_, 1) := by decide +kernel
theorem dX1_shiftDown_5 : decode cX1_shiftDown 5 = .ok (.iload_n 2, 1) := by decide +kernel
theorem dX1_shiftDown_6 : decode cX1_shiftDown 6 = .ok (.aload_n 0, 1) := by decide +kernel
theorem dX1_shiftDown_7 : decode cX1_shiftDown 7 = .ok (.arraylength, 1) := by decide +kernel
theorem dX1_shiftDown_8 : decode cX1_shiftDown 8 = .ok (.invokestatic 28, 3) := by decide +kernel
theorem dX1_shiftDown_11 : decode cX1_shiftDown 11 = .ok (.istore_n 3, 1) := by decide +kernel
theorem dX1_shiftDown_12 : decode cX1_shiftDown 12 = .ok (.iload_n 1, 1) := by decide +kernel
theorem dX1_shiftDown_13 : decode cX1_shiftDown 13 = .ok (.bipush 30, 2) := by decide +kernel
theorem dX1_shiftDown_15 : decode cX1_shiftDown 15 = .ok (.idiv, 1) := by decide +kernel
theorem dX1_shiftDown_16 : decode cX1_shiftDown 16 = .ok (.istore 4, 2) := by decide +kernel
theorem dX1_shiftDown_18 : decode cX1_shiftDown 18 = .ok (.iload_n 1, 1) := by decide +kernel
theorem dX1_shiftDown_19 : decode cX1_shiftDown 19 = .ok (.bipush 30, 2) := by decide +kernel
theorem dX1_shiftDown_21 : decode cX1_shiftDown 21 = .ok (.irem, 1) := by decide +kernel
theorem dX1_shiftDown_22 : decode cX1_shiftDown 22 = .ok (.istore 5, 2) := by decide +kernel
theorem dX1_shiftDown_24 : decode cX1_shiftDown 24 = .ok (.iconst 0, 1) := by decide +kernel
theorem dX1_shiftDown_25 : decode cX1_shiftDown 25 = .ok (.istore 6, 2) := by decide +kernel
theorem dX1_shiftDown_27 : decode cX1_shiftDown 27 = .ok (.iload 6, 2) := by decide +kernel
theorem dX1_shiftDown_29 : decode cX1_shiftDown 29 = .ok (.iload_n 3, 1) := by decide +kernel
theorem dX1_shiftDown_30 : decode cX1_shiftDown 30 = .ok (.if_icmp .ge 73, 3) := by decide +kernel
theorem dX1_shiftDown_33 : decode cX1_shiftDown 33 = .ok (.iload 6, 2) := by decide +kernel
theorem dX1_shiftDown_35 : decode cX1_shiftDown 35 = .ok (.iload 4, 2) := by decide +kernel
theorem dX1_shiftDown_37 : decode cX1_shiftDown 37 = .ok (.iadd, 1) := by decide +kernel
theorem dX1_shiftDown_38 : decode cX1_shiftDown 38 = .ok (.istore 7, 2) := by decide +kernel
theorem dX1_shiftDown_40 : decode cX1_shiftDown 40 = .ok (.iload 7, 2) := by decide +kernel
theorem dX1_shiftDown_42 : decode cX1_shiftDown 42 = .ok (.iload_n 3, 1) := by decide +kernel
theorem dX1_shiftDown_43 : decode cX1_shiftDown 43 = .ok (.if_icmp .ge 13, 3) := by decide +kernel
theorem dX1_shiftDown_46 : decode cX1_shiftDown 46 = .ok (.aload_n 0, 1) := by decide +kernel
theorem dX1_shiftDown_47 : decode cX1_shiftDown 47 = .ok (.iload 7, 2) := by decide +kernel
theorem dX1_shiftDown_49 : decode cX1_shiftDown 49 = .ok (.iaload, 1) := by decide +kernel
theorem dX1_shiftDown_50 : decode cX1_shiftDown 50 = .ok (.iload 5, 2) := by decide +kernel
theorem dX1_shiftDown_52 : decode cX1_shiftDown 52 = .ok (.iushr, 1) := by decide +kernel
theorem dX1_shiftDown_53 : decode cX1_shiftDown 53 = .ok (.goto 4, 3) := by decide +kernel
theorem dX1_shiftDown_56 : decode cX1_shiftDown 56 = .ok (.iconst 0, 1) := by decide +kernel
theorem dX1_shiftDown_57 : decode cX1_shiftDown 57 = .ok (.istore 8, 2) := by decide +kernel
theorem dX1_shiftDown_59 : decode cX1_shiftDown 59 = .ok (.iload 7, 2) := by decide +kernel
theorem dX1_shiftDown_61 : decode cX1_shiftDown 61 = .ok (.iconst 1, 1) := by decide +kernel
theorem dX1_shiftDown_62 : decode cX1_shiftDown 62 = .ok (.iadd, 1) := by decide +kernel
theorem dX1_shiftDown_63 : decode cX1_shiftDown 63 = .ok (.iload_n 3, 1) := by decide +kernel
theorem dX1_shiftDown_64 : decode cX1_shiftDown 64 = .ok (.if_icmp .ge 21, 3) := by decide +kernel
theorem dX1_shiftDown_67 : decode cX1_shiftDown 67 = .ok (.aload_n 0, 1) := by decide +kernel
theorem dX1_shiftDown_68 : decode cX1_shiftDown 68 = .ok (.iload 7, 2) := by decide +kernel
theorem dX1_shiftDown_70 : decode cX1_shiftDown 70 = .ok (.iconst 1, 1) := by decide +kernel
theorem dX1_shiftDown_71 : decode cX1_shiftDown 71 = .ok (.iadd, 1) := by decide +kernel
theorem dX1_shiftDown_72 : decode cX1_shiftDown 72 = .ok (.iaload, 1) := by decide +kernel
theorem dX1_shiftDown_73 : decode cX1_shiftDown 73 = .ok (.bipush 30, 2) := by decide +kernel
theorem dX1_shiftDown_75 : decode cX1_shiftDown 75 = .ok (.iload 5, 2) := by decide +kernel
theorem dX1_shiftDown_77 : decode cX1_shiftDown 77 = .ok (.isub, 1) := by decide +kernel
theorem dX1_shiftDown_78 : decode cX1_shiftDown 78 = .ok (.ishl, 1) := by decide +kernel
theorem dX1_shiftDown_79 : decode cX1_shiftDown 79 = .ok (.ldc 17, 2) := by decide +kernel
theorem dX1_shiftDown_81 : decode cX1_shiftDown 81 = .ok (.iand, 1) := by decide +kernel
theorem dX1_shiftDown_82 : decode cX1_shiftDown 82 = .ok (.goto 4, 3) := by decide +kernel
theorem dX1_shiftDown_85 : decode cX1_shiftDown 85 = .ok (.iconst 0, 1) := by decide +kernel
theorem dX1_shiftDown_86 : decode cX1_shiftDown 86 = .ok (.istore 9, 2) := by decide +kernel
theorem dX1_shiftDown_88 : decode cX1_shiftDown 88 = .ok (.aload_n 0, 1) := by decide +kernel
theorem dX1_shiftDown_89 : decode cX1_shiftDown 89 = .ok (.iload 6, 2) := by decide +kernel
theorem dX1_shiftDown_91 : decode cX1_shiftDown 91 = .ok (.iload 8, 2) := by decide +kernel
theorem dX1_shiftDown_93 : decode cX1_shiftDown 93 = .ok (.iload 9, 2) := by decide +kernel
theorem dX1_shiftDown_95 : decode cX1_shiftDown 95 = .ok (.ior, 1) := by decide +kernel
theorem dX1_shiftDown_96 : decode cX1_shiftDown 96 = .ok (.iastore, 1) := by decide +kernel
theorem dX1_shiftDown_97 : decode cX1_shiftDown 97 = .ok (.iinc 6 1, 3) := by decide +kernel
theorem dX1_shiftDown_100 : decode cX1_shiftDown 100 = .ok (.goto (-73), 3) := by decide +kernel
theorem dX1_shiftDown_103 : decode cX1_shiftDown 103 = .ok (.return_, 1) := by decide +kernel
set_option maxRecDepth 20000 in
theorem ggX1_meetAtDivisor_X1_compare : GoodIn wsX1_meetAtDivisor wsX1_compare := goodIn_r _ [8, 1, 2, 3, 4] rfl rfl
set_option maxRecDepth 20000 in
theorem gX1_meetAtDivisor_X1_compare : GoodIn wsX1_meetAtDivisor (va_wsS RX1 40 yX1_compare wsX1_compare) := goodIn_app (goodIn_r _ [5, 6, 7] rfl rfl) ggX1_meetAtDivisor_X1_compare
set_option maxRecDepth 20000 in
theorem ggX1_meetAtDivisor_X1_takeOff : GoodIn wsX1_meetAtDivisor wsX1_takeOff := goodIn_r _ [11, 12, 13, 14, 7, 15, 16, 17, 18, 19, 20, 21, 22, 23, 1, 2, 3, 4] rfl rfl
set_option maxRecDepth 20000 in
theorem gX1_meetAtDivisor_X1_takeOff : GoodIn wsX1_meetAtDivisor (va_wsS RX1 44 yX1_takeOff wsX1_takeOff) := goodIn_app (goodIn_r _ [9, 10, 7] rfl rfl) ggX1_meetAtDivisor_X1_takeOff
theorem dX1_meetAtDivisor_0 : decode cX1_meetAtDivisor 0 = .ok (.aload_n 0, 1) := by decide +kernel
theorem dX1_meetAtDivisor_1 : decode cX1_meetAtDivisor 1 = .ok (.arraylength, 1) := by decide +kernel
theorem dX1_meetAtDivisor_2 : decode cX1_meetAtDivisor 2 = .ok (.aload_n 1, 1) := by decide +kernel
theorem dX1_meetAtDivisor_3 : decode cX1_meetAtDivisor 3 = .ok (.arraylength, 1) := by decide +kernel
theorem dX1_meetAtDivisor_4 : decode cX1_meetAtDivisor 4 = .ok (.invokestatic 28, 3) := by decide +kernel
theorem dX1_meetAtDivisor_7 : decode cX1_meetAtDivisor 7 = .ok (.istore_n 2, 1) := by decide +kernel
theorem dX1_meetAtDivisor_8 : decode cX1_meetAtDivisor 8 = .ok (.bipush 60, 2) := by decide +kernel
theorem dX1_meetAtDivisor_10 : decode cX1_meetAtDivisor 10 = .ok (.iload_n 2, 1) := by decide +kernel
theorem dX1_meetAtDivisor_11 : decode cX1_meetAtDivisor 11 = .ok (.imul, 1) := by decide +kernel
theorem dX1_meetAtDivisor_12 : decode cX1_meetAtDivisor 12 = .ok (.istore_n 3, 1) := by decide +kernel
theorem dX1_meetAtDivisor_13 : decode cX1_meetAtDivisor 13 = .ok (.iload_n 3, 1) := by decide +kernel
theorem dX1_meetAtDivisor_14 : decode cX1_meetAtDivisor 14 = .ok (.ifCond .le 70, 3) := by decide +kernel
theorem dX1_meetAtDivisor_17 : decode cX1_meetAtDivisor 17 = .ok (.iload_n 2, 1) := by decide +kernel
theorem dX1_meetAtDivisor_18 : decode cX1_meetAtDivisor 18 = .ok (.iconst 1, 1) := by decide +kernel
theorem dX1_meetAtDivisor_19 : decode cX1_meetAtDivisor 19 = .ok (.if_icmp .le 25, 3) := by decide +kernel
theorem dX1_meetAtDivisor_22 : decode cX1_meetAtDivisor 22 = .ok (.aload_n 0, 1) := by decide +kernel
theorem dX1_meetAtDivisor_23 : decode cX1_meetAtDivisor 23 = .ok (.iload_n 2, 1) := by decide +kernel
theorem dX1_meetAtDivisor_24 : decode cX1_meetAtDivisor 24 = .ok (.iconst 1, 1) := by decide +kernel
theorem dX1_meetAtDivisor_25 : decode cX1_meetAtDivisor 25 = .ok (.isub, 1) := by decide +kernel
theorem dX1_meetAtDivisor_26 : decode cX1_meetAtDivisor 26 = .ok (.iaload, 1) := by decide +kernel
theorem dX1_meetAtDivisor_27 : decode cX1_meetAtDivisor 27 = .ok (.ifCond .ne 17, 3) := by decide +kernel
theorem dX1_meetAtDivisor_30 : decode cX1_meetAtDivisor 30 = .ok (.aload_n 1, 1) := by decide +kernel
theorem dX1_meetAtDivisor_31 : decode cX1_meetAtDivisor 31 = .ok (.iload_n 2, 1) := by decide +kernel
theorem dX1_meetAtDivisor_32 : decode cX1_meetAtDivisor 32 = .ok (.iconst 1, 1) := by decide +kernel
theorem dX1_meetAtDivisor_33 : decode cX1_meetAtDivisor 33 = .ok (.isub, 1) := by decide +kernel
theorem dX1_meetAtDivisor_34 : decode cX1_meetAtDivisor 34 = .ok (.iaload, 1) := by decide +kernel
theorem dX1_meetAtDivisor_35 : decode cX1_meetAtDivisor 35 = .ok (.ifCond .ne 9, 3) := by decide +kernel
theorem dX1_meetAtDivisor_38 : decode cX1_meetAtDivisor 38 = .ok (.iinc 2 (-1), 3) := by decide +kernel
theorem dX1_meetAtDivisor_41 : decode cX1_meetAtDivisor 41 = .ok (.goto (-24), 3) := by decide +kernel
theorem dX1_meetAtDivisor_44 : decode cX1_meetAtDivisor 44 = .ok (.aload_n 0, 1) := by decide +kernel
theorem dX1_meetAtDivisor_45 : decode cX1_meetAtDivisor 45 = .ok (.aload_n 1, 1) := by decide +kernel
theorem dX1_meetAtDivisor_46 : decode cX1_meetAtDivisor 46 = .ok (.iload_n 2, 1) := by decide +kernel
theorem dX1_meetAtDivisor_47 : decode cX1_meetAtDivisor 47 = .ok (.invokestatic 40, 3) := by decide +kernel
theorem dX1_meetAtDivisor_50 : decode cX1_meetAtDivisor 50 = .ok (.istore 4, 2) := by decide +kernel
theorem dX1_meetAtDivisor_52 : decode cX1_meetAtDivisor 52 = .ok (.iload 4, 2) := by decide +kernel
theorem dX1_meetAtDivisor_54 : decode cX1_meetAtDivisor 54 = .ok (.ifCond .ne 4, 3) := by decide +kernel
theorem dX1_meetAtDivisor_57 : decode cX1_meetAtDivisor 57 = .ok (.return_, 1) := by decide +kernel
theorem dX1_meetAtDivisor_58 : decode cX1_meetAtDivisor 58 = .ok (.iload 4, 2) := by decide +kernel
theorem dX1_meetAtDivisor_60 : decode cX1_meetAtDivisor 60 = .ok (.ifCond .le 12, 3) := by decide +kernel
theorem dX1_meetAtDivisor_63 : decode cX1_meetAtDivisor 63 = .ok (.aload_n 0, 1) := by decide +kernel
theorem dX1_meetAtDivisor_64 : decode cX1_meetAtDivisor 64 = .ok (.aload_n 1, 1) := by decide +kernel
theorem dX1_meetAtDivisor_65 : decode cX1_meetAtDivisor 65 = .ok (.iload_n 2, 1) := by decide +kernel
theorem dX1_meetAtDivisor_66 : decode cX1_meetAtDivisor 66 = .ok (.invokestatic 44, 3) := by decide +kernel
theorem dX1_meetAtDivisor_69 : decode cX1_meetAtDivisor 69 = .ok (.goto 9, 3) := by decide +kernel
theorem dX1_meetAtDivisor_72 : decode cX1_meetAtDivisor 72 = .ok (.aload_n 1, 1) := by decide +kernel
theorem dX1_meetAtDivisor_73 : decode cX1_meetAtDivisor 73 = .ok (.aload_n 0, 1) := by decide +kernel
theorem dX1_meetAtDivisor_74 : decode cX1_meetAtDivisor 74 = .ok (.iload_n 2, 1) := by decide +kernel
theorem dX1_meetAtDivisor_75 : decode cX1_meetAtDivisor 75 = .ok (.invokestatic 44, 3) := by decide +kernel
theorem dX1_meetAtDivisor_78 : decode cX1_meetAtDivisor 78 = .ok (.iinc 3 (-1), 3) := by decide +kernel
theorem dX1_meetAtDivisor_81 : decode cX1_meetAtDivisor 81 = .ok (.goto (-68), 3) := by decide +kernel
theorem dX1_meetAtDivisor_84 : decode cX1_meetAtDivisor 84 = .ok (.return_, 1) := by decide +kernel
set_option maxRecDepth 20000 in
theorem ggX1_divideExactly_X1_inverseOf : GoodIn wsX1_divideExactly wsX1_inverseOf := goodIn_r _ [5] rfl rfl
set_option maxRecDepth 20000 in
theorem gX1_divideExactly_X1_inverseOf : GoodIn wsX1_divideExactly (va_wsS RX1 48 yX1_inverseOf wsX1_inverseOf) := goodIn_app (goodIn_r _ [2, 3, 4] rfl rfl) ggX1_divideExactly_X1_inverseOf
set_option maxRecDepth 20000 in
theorem ggX1_divideExactly_X1_gainRaised : GoodIn wsX1_divideExactly wsX1_gainRaised := goodIn_r _ [8, 9] rfl rfl
set_option maxRecDepth 20000 in
theorem gX1_divideExactly_X1_gainRaised : GoodIn wsX1_divideExactly (va_wsS RX1 24 yX1_gainRaised wsX1_gainRaised) := goodIn_app (goodIn_r _ [6, 7, 4] rfl rfl) ggX1_divideExactly_X1_gainRaised
theorem dX1_divideExactly_0 : decode cX1_divideExactly 0 = .ok (.aload_n 1, 1) := by decide +kernel
theorem dX1_divideExactly_1 : decode cX1_divideExactly 1 = .ok (.arraylength, 1) := by decide +kernel
theorem dX1_divideExactly_2 : decode cX1_divideExactly 2 = .ok (.ifCond .ne 4, 3) := by decide +kernel
theorem dX1_divideExactly_5 : decode cX1_divideExactly 5 = .ok (.return_, 1) := by decide +kernel
theorem dX1_divideExactly_6 : decode cX1_divideExactly 6 = .ok (.aload_n 1, 1) := by decide +kernel
theorem dX1_divideExactly_7 : decode cX1_divideExactly 7 = .ok (.iconst 0, 1) := by decide +kernel
theorem dX1_divideExactly_8 : decode cX1_divideExactly 8 = .ok (.iaload, 1) := by decide +kernel
theorem dX1_divideExactly_9 : decode cX1_divideExactly 9 = .ok (.invokestatic 48, 3) := by decide +kernel
theorem dX1_divideExactly_12 : decode cX1_divideExactly 12 = .ok (.istore_n 2, 1) := by decide +kernel
theorem dX1_divideExactly_13 : decode cX1_divideExactly 13 = .ok (.iconst 0, 1) := by decide +kernel
theorem dX1_divideExactly_14 : decode cX1_divideExactly 14 = .ok (.istore_n 3, 1) := by decide +kernel
theorem dX1_divideExactly_15 : decode cX1_divideExactly 15 = .ok (.iload_n 3, 1) := by decide +kernel
theorem dX1_divideExactly_16 : decode cX1_divideExactly 16 = .ok (.aload_n 0, 1) := by decide +kernel
theorem dX1_divideExactly_17 : decode cX1_divideExactly 17 = .ok (.arraylength, 1) := by decide +kernel
theorem dX1_divideExactly_18 : decode cX1_divideExactly 18 = .ok (.if_icmp .ge 34, 3) := by decide +kernel
theorem dX1_divideExactly_21 : decode cX1_divideExactly 21 = .ok (.aload_n 0, 1) := by decide +kernel
theorem dX1_divideExactly_22 : decode cX1_divideExactly 22 = .ok (.iload_n 3, 1) := by decide +kernel
theorem dX1_divideExactly_23 : decode cX1_divideExactly 23 = .ok (.iaload, 1) := by decide +kernel
theorem dX1_divideExactly_24 : decode cX1_divideExactly 24 = .ok (.iload_n 2, 1) := by decide +kernel
theorem dX1_divideExactly_25 : decode cX1_divideExactly 25 = .ok (.imul, 1) := by decide +kernel
theorem dX1_divideExactly_26 : decode cX1_divideExactly 26 = .ok (.ldc 17, 2) := by decide +kernel
theorem dX1_divideExactly_28 : decode cX1_divideExactly 28 = .ok (.iand, 1) := by decide +kernel
theorem dX1_divideExactly_29 : decode cX1_divideExactly 29 = .ok (.istore 4, 2) := by decide +kernel
theorem dX1_divideExactly_31 : decode cX1_divideExactly 31 = .ok (.aload_n 0, 1) := by decide +kernel
theorem dX1_divideExactly_32 : decode cX1_divideExactly 32 = .ok (.aload_n 1, 1) := by decide +kernel
theorem dX1_divideExactly_33 : decode cX1_divideExactly 33 = .ok (.iload 4, 2) := by decide +kernel
theorem dX1_divideExactly_35 : decode cX1_divideExactly 35 = .ok (.ineg, 1) := by decide +kernel
theorem dX1_divideExactly_36 : decode cX1_divideExactly 36 = .ok (.i2l, 1) := by decide +kernel
theorem dX1_divideExactly_37 : decode cX1_divideExactly 37 = .ok (.iload_n 3, 1) := by decide +kernel
theorem dX1_divideExactly_38 : decode cX1_divideExactly 38 = .ok (.invokestatic 24, 3) := by decide +kernel
theorem dX1_divideExactly_41 : decode cX1_divideExactly 41 = .ok (.aload_n 0, 1) := by decide +kernel
theorem dX1_divideExactly_42 : decode cX1_divideExactly 42 = .ok (.iload_n 3, 1) := by decide +kernel
theorem dX1_divideExactly_43 : decode cX1_divideExactly 43 = .ok (.iload 4, 2) := by decide +kernel
theorem dX1_divideExactly_45 : decode cX1_divideExactly 45 = .ok (.iastore, 1) := by decide +kernel
theorem dX1_divideExactly_46 : decode cX1_divideExactly 46 = .ok (.iinc 3 1, 3) := by decide +kernel
theorem dX1_divideExactly_49 : decode cX1_divideExactly 49 = .ok (.goto (-34), 3) := by decide +kernel
theorem dX1_divideExactly_52 : decode cX1_divideExactly 52 = .ok (.return_, 1) := by decide +kernel
theorem dX1_inverseOf_0 : decode cX1_inverseOf 0 = .ok (.iload_n 0, 1) := by decide +kernel
theorem dX1_inverseOf_1 : decode cX1_inverseOf 1 = .ok (.istore_n 1, 1) := by decide +kernel
theorem dX1_inverseOf_2 : decode cX1_inverseOf 2 = .ok (.iconst 0, 1) := by decide +kernel
theorem dX1_inverseOf_3 : decode cX1_inverseOf 3 = .ok (.istore_n 2, 1) := by decide +kernel
theorem dX1_inverseOf_4 : decode cX1_inverseOf 4 = .ok (.iload_n 2, 1) := by decide +kernel
theorem dX1_inverseOf_5 : decode cX1_inverseOf 5 = .ok (.iconst 4, 1) := by decide +kernel
theorem dX1_inverseOf_6 : decode cX1_inverseOf 6 = .ok (.if_icmp .ge 17, 3) := by decide +kernel
theorem dX1_inverseOf_9 : decode cX1_inverseOf 9 = .ok (.iload_n 1, 1) := by decide +kernel
theorem dX1_inverseOf_10 : decode cX1_inverseOf 10 = .ok (.iconst 2, 1) := by decide +kernel
theorem dX1_inverseOf_11 : decode cX1_inverseOf 11 = .ok (.iload_n 0, 1) := by decide +kernel
theorem dX1_inverseOf_12 : decode cX1_inverseOf 12 = .ok (.iload_n 1, 1) := by decide +kernel
theorem dX1_inverseOf_13 : decode cX1_inverseOf 13 = .ok (.imul, 1) := by decide +kernel
theorem dX1_inverseOf_14 : decode cX1_inverseOf 14 = .ok (.isub, 1) := by decide +kernel
theorem dX1_inverseOf_15 : decode cX1_inverseOf 15 = .ok (.imul, 1) := by decide +kernel
theorem dX1_inverseOf_16 : decode cX1_inverseOf 16 = .ok (.istore_n 1, 1) := by decide +kernel
theorem dX1_inverseOf_17 : decode cX1_inverseOf 17 = .ok (.iinc 2 1, 3) := by decide +kernel
theorem dX1_inverseOf_20 : decode cX1_inverseOf 20 = .ok (.goto (-16), 3) := by decide +kernel
theorem dX1_inverseOf_23 : decode cX1_inverseOf 23 = .ok (.iload_n 1, 1) := by decide +kernel
theorem dX1_inverseOf_24 : decode cX1_inverseOf 24 = .ok (.ireturn, 1) := by decide +kernel
theorem dX1_gainRaised_0 : decode cX1_gainRaised 0 = .ok (.iload 4, 2) := by decide +kernel
theorem dX1_gainRaised_2 : decode cX1_gainRaised 2 = .ok (.ifCond .ge 4, 3) := by decide +kernel
theorem dX1_gainRaised_5 : decode cX1_gainRaised 5 = .ok (.return_, 1) := by decide +kernel
theorem dX1_gainRaised_6 : decode cX1_gainRaised 6 = .ok (.lconst 0, 1) := by decide +kernel
theorem dX1_gainRaised_7 : decode cX1_gainRaised 7 = .ok (.lstore 5, 2) := by decide +kernel
theorem dX1_gainRaised_9 : decode cX1_gainRaised 9 = .ok (.iload 4, 2) := by decide +kernel
theorem dX1_gainRaised_11 : decode cX1_gainRaised 11 = .ok (.istore 7, 2) := by decide +kernel
theorem dX1_gainRaised_13 : decode cX1_gainRaised 13 = .ok (.iconst 0, 1) := by decide +kernel
theorem dX1_gainRaised_14 : decode cX1_gainRaised 14 = .ok (.istore 8, 2) := by decide +kernel
theorem dX1_gainRaised_16 : decode cX1_gainRaised 16 = .ok (.iload 7, 2) := by decide +kernel
theorem dX1_gainRaised_18 : decode cX1_gainRaised 18 = .ok (.aload_n 0, 1) := by decide +kernel
theorem dX1_gainRaised_19 : decode cX1_gainRaised 19 = .ok (.arraylength, 1) := by decide +kernel
theorem dX1_gainRaised_20 : decode cX1_gainRaised 20 = .ok (.if_icmp .ge 73, 3) := by decide +kernel
theorem dX1_gainRaised_23 : decode cX1_gainRaised 23 = .ok (.iload 8, 2) := by decide +kernel
theorem dX1_gainRaised_25 : decode cX1_gainRaised 25 = .ok (.aload_n 1, 1) := by decide +kernel
theorem dX1_gainRaised_26 : decode cX1_gainRaised 26 = .ok (.arraylength, 1) := by decide +kernel
theorem dX1_gainRaised_27 : decode cX1_gainRaised 27 = .ok (.if_icmp .lt 10, 3) := by decide +kernel
theorem dX1_gainRaised_30 : decode cX1_gainRaised 30 = .ok (.lload 5, 2) := by decide +kernel
theorem dX1_gainRaised_32 : decode cX1_gainRaised 32 = .ok (.lconst 0, 1) := by decide +kernel
theorem dX1_gainRaised_33 : decode cX1_gainRaised 33 = .ok (.lcmp, 1) := by decide +kernel
theorem dX1_gainRaised_34 : decode cX1_gainRaised 34 = .ok (.ifCond .eq 59, 3) := by decide +kernel
theorem dX1_gainRaised_37 : decode cX1_gainRaised 37 = .ok (.lload 5, 2) := by decide +kernel
theorem dX1_gainRaised_39 : decode cX1_gainRaised 39 = .ok (.aload_n 0, 1) := by decide +kernel
theorem dX1_gainRaised_40 : decode cX1_gainRaised 40 = .ok (.iload 7, 2) := by decide +kernel
theorem dX1_gainRaised_42 : decode cX1_gainRaised 42 = .ok (.iaload, 1) := by decide +kernel
theorem dX1_gainRaised_43 : decode cX1_gainRaised 43 = .ok (.i2l, 1) := by decide +kernel
theorem dX1_gainRaised_44 : decode cX1_gainRaised 44 = .ok (.iload 8, 2) := by decide +kernel
theorem dX1_gainRaised_46 : decode cX1_gainRaised 46 = .ok (.aload_n 1, 1) := by decide +kernel
theorem dX1_gainRaised_47 : decode cX1_gainRaised 47 = .ok (.arraylength, 1) := by decide +kernel
theorem dX1_gainRaised_48 : decode cX1_gainRaised 48 = .ok (.if_icmp .ge 13, 3) := by decide +kernel
theorem dX1_gainRaised_51 : decode cX1_gainRaised 51 = .ok (.aload_n 1, 1) := by decide +kernel
theorem dX1_gainRaised_52 : decode cX1_gainRaised 52 = .ok (.iload 8, 2) := by decide +kernel
theorem dX1_gainRaised_54 : decode cX1_gainRaised 54 = .ok (.iaload, 1) := by decide +kernel
theorem dX1_gainRaised_55 : decode cX1_gainRaised 55 = .ok (.i2l, 1) := by decide +kernel
theorem dX1_gainRaised_56 : decode cX1_gainRaised 56 = .ok (.lload_n 2, 1) := by decide +kernel
theorem dX1_gainRaised_57 : decode cX1_gainRaised 57 = .ok (.lmul, 1) := by decide +kernel
theorem dX1_gainRaised_58 : decode cX1_gainRaised 58 = .ok (.goto 4, 3) := by decide +kernel
theorem dX1_gainRaised_61 : decode cX1_gainRaised 61 = .ok (.lconst 0, 1) := by decide +kernel
theorem dX1_gainRaised_62 : decode cX1_gainRaised 62 = .ok (.ladd, 1) := by decide +kernel
theorem dX1_gainRaised_63 : decode cX1_gainRaised 63 = .ok (.ladd, 1) := by decide +kernel
theorem dX1_gainRaised_64 : decode cX1_gainRaised 64 = .ok (.lstore 5, 2) := by decide +kernel
theorem dX1_gainRaised_66 : decode cX1_gainRaised 66 = .ok (.aload_n 0, 1) := by decide +kernel
theorem dX1_gainRaised_67 : decode cX1_gainRaised 67 = .ok (.iload 7, 2) := by decide +kernel
theorem dX1_gainRaised_69 : decode cX1_gainRaised 69 = .ok (.lload 5, 2) := by decide +kernel
theorem dX1_gainRaised_71 : decode cX1_gainRaised 71 = .ok (.ldc2_w 18, 3) := by decide +kernel
theorem dX1_gainRaised_74 : decode cX1_gainRaised 74 = .ok (.land, 1) := by decide +kernel
theorem dX1_gainRaised_75 : decode cX1_gainRaised 75 = .ok (.l2i, 1) := by decide +kernel
theorem dX1_gainRaised_76 : decode cX1_gainRaised 76 = .ok (.iastore, 1) := by decide +kernel
theorem dX1_gainRaised_77 : decode cX1_gainRaised 77 = .ok (.lload 5, 2) := by decide +kernel
theorem dX1_gainRaised_79 : decode cX1_gainRaised 79 = .ok (.bipush 30, 2) := by decide +kernel
theorem dX1_gainRaised_81 : decode cX1_gainRaised 81 = .ok (.lshr, 1) := by decide +kernel
theorem dX1_gainRaised_82 : decode cX1_gainRaised 82 = .ok (.lstore 5, 2) := by decide +kernel
theorem dX1_gainRaised_84 : decode cX1_gainRaised 84 = .ok (.iinc 7 1, 3) := by decide +kernel
theorem dX1_gainRaised_87 : decode cX1_gainRaised 87 = .ok (.iinc 8 1, 3) := by decide +kernel
theorem dX1_gainRaised_90 : decode cX1_gainRaised 90 = .ok (.goto (-74), 3) := by decide +kernel
theorem dX1_gainRaised_93 : decode cX1_gainRaised 93 = .ok (.return_, 1) := by decide +kernel
set_option maxRecDepth 20000 in
theorem ggX1_takeOff_X1_twosOf : GoodIn wsX1_takeOff wsX1_twosOf := goodIn_r _ [5, 6, 7, 8, 9, 10] rfl rfl
set_option maxRecDepth 20000 in
theorem gX1_takeOff_X1_twosOf : GoodIn wsX1_takeOff (va_wsS RX1 51 yX1_twosOf wsX1_twosOf) := goodIn_app (goodIn_r _ [2, 3, 4] rfl rfl) ggX1_takeOff_X1_twosOf
set_option maxRecDepth 20000 in
theorem ggX1_takeOff_X1_shiftDown : GoodIn wsX1_takeOff wsX1_shiftDown := goodIn_r _ [13, 14, 15, 16, 17, 1] rfl rfl
set_option maxRecDepth 20000 in
theorem gX1_takeOff_X1_shiftDown : GoodIn wsX1_takeOff (va_wsS RX1 55 yX1_shiftDown wsX1_shiftDown) := goodIn_app (goodIn_r _ [11, 12, 4] rfl rfl) ggX1_takeOff_X1_shiftDown
theorem dX1_takeOff_0 : decode cX1_takeOff 0 = .ok (.iconst 0, 1) := by decide +kernel
theorem dX1_takeOff_1 : decode cX1_takeOff 1 = .ok (.istore_n 3, 1) := by decide +kernel
theorem dX1_takeOff_2 : decode cX1_takeOff 2 = .ok (.iconst 0, 1) := by decide +kernel
theorem dX1_takeOff_3 : decode cX1_takeOff 3 = .ok (.istore 4, 2) := by decide +kernel
theorem dX1_takeOff_5 : decode cX1_takeOff 5 = .ok (.iload 4, 2) := by decide +kernel
theorem dX1_takeOff_7 : decode cX1_takeOff 7 = .ok (.iload_n 2, 1) := by decide +kernel
theorem dX1_takeOff_8 : decode cX1_takeOff 8 = .ok (.if_icmp .ge 48, 3) := by decide +kernel
theorem dX1_takeOff_11 : decode cX1_takeOff 11 = .ok (.iload 4, 2) := by decide +kernel
theorem dX1_takeOff_13 : decode cX1_takeOff 13 = .ok (.aload_n 0, 1) := by decide +kernel
theorem dX1_takeOff_14 : decode cX1_takeOff 14 = .ok (.arraylength, 1) := by decide +kernel
theorem dX1_takeOff_15 : decode cX1_takeOff 15 = .ok (.if_icmp .ge 41, 3) := by decide +kernel
theorem dX1_takeOff_18 : decode cX1_takeOff 18 = .ok (.iload 4, 2) := by decide +kernel
theorem dX1_takeOff_20 : decode cX1_takeOff 20 = .ok (.aload_n 1, 1) := by decide +kernel
theorem dX1_takeOff_21 : decode cX1_takeOff 21 = .ok (.arraylength, 1) := by decide +kernel
theorem dX1_takeOff_22 : decode cX1_takeOff 22 = .ok (.if_icmp .ge 34, 3) := by decide +kernel
theorem dX1_takeOff_25 : decode cX1_takeOff 25 = .ok (.iload_n 3, 1) := by decide +kernel
theorem dX1_takeOff_26 : decode cX1_takeOff 26 = .ok (.aload_n 0, 1) := by decide +kernel
theorem dX1_takeOff_27 : decode cX1_takeOff 27 = .ok (.iload 4, 2) := by decide +kernel
theorem dX1_takeOff_29 : decode cX1_takeOff 29 = .ok (.iaload, 1) := by decide +kernel
theorem dX1_takeOff_30 : decode cX1_takeOff 30 = .ok (.aload_n 1, 1) := by decide +kernel
theorem dX1_takeOff_31 : decode cX1_takeOff 31 = .ok (.iload 4, 2) := by decide +kernel
theorem dX1_takeOff_33 : decode cX1_takeOff 33 = .ok (.iaload, 1) := by decide +kernel
theorem dX1_takeOff_34 : decode cX1_takeOff 34 = .ok (.isub, 1) := by decide +kernel
theorem dX1_takeOff_35 : decode cX1_takeOff 35 = .ok (.iadd, 1) := by decide +kernel
theorem dX1_takeOff_36 : decode cX1_takeOff 36 = .ok (.istore_n 3, 1) := by decide +kernel
theorem dX1_takeOff_37 : decode cX1_takeOff 37 = .ok (.aload_n 0, 1) := by decide +kernel
theorem dX1_takeOff_38 : decode cX1_takeOff 38 = .ok (.iload 4, 2) := by decide +kernel
theorem dX1_takeOff_40 : decode cX1_takeOff 40 = .ok (.iload_n 3, 1) := by decide +kernel
theorem dX1_takeOff_41 : decode cX1_takeOff 41 = .ok (.ldc 17, 2) := by decide +kernel
theorem dX1_takeOff_43 : decode cX1_takeOff 43 = .ok (.iand, 1) := by decide +kernel
theorem dX1_takeOff_44 : decode cX1_takeOff 44 = .ok (.iastore, 1) := by decide +kernel
theorem dX1_takeOff_45 : decode cX1_takeOff 45 = .ok (.iload_n 3, 1) := by decide +kernel
theorem dX1_takeOff_46 : decode cX1_takeOff 46 = .ok (.bipush 30, 2) := by decide +kernel
theorem dX1_takeOff_48 : decode cX1_takeOff 48 = .ok (.ishr, 1) := by decide +kernel
theorem dX1_takeOff_49 : decode cX1_takeOff 49 = .ok (.istore_n 3, 1) := by decide +kernel
theorem dX1_takeOff_50 : decode cX1_takeOff 50 = .ok (.iinc 4 1, 3) := by decide +kernel
theorem dX1_takeOff_53 : decode cX1_takeOff 53 = .ok (.goto (-48), 3) := by decide +kernel
theorem dX1_takeOff_56 : decode cX1_takeOff 56 = .ok (.aload_n 0, 1) := by decide +kernel
theorem dX1_takeOff_57 : decode cX1_takeOff 57 = .ok (.aload_n 0, 1) := by decide +kernel
theorem dX1_takeOff_58 : decode cX1_takeOff 58 = .ok (.iload_n 2, 1) := by decide +kernel
theorem dX1_takeOff_59 : decode cX1_takeOff 59 = .ok (.invokestatic 51, 3) := by decide +kernel
theorem dX1_takeOff_62 : decode cX1_takeOff 62 = .ok (.iload_n 2, 1) := by decide +kernel
theorem dX1_takeOff_63 : decode cX1_takeOff 63 = .ok (.invokestatic 55, 3) := by decide +kernel
theorem dX1_takeOff_66 : decode cX1_takeOff 66 = .ok (.return_, 1) := by decide +kernel
set_option maxRecDepth 20000 in
theorem ggX2_init_X2_setNothing : GoodIn wsX2_init wsX2_setNothing := goodIn_r _ [16, 5, 8, 6, 7, 9, 17, 18, 19, 20, 21, 22, 23, 24, 25, 26, 27] rfl rfl
set_option maxRecDepth 20000 in
theorem gX2_init_X2_setNothing : GoodIn wsX2_init (wsV RX2 34 RX2 yX2_setNothing wsX2_setNothing) := goodIn_app (goodIn_r _ [12, 13, 14, 15] rfl rfl) ggX2_init_X2_setNothing
theorem dX2_init_0 : decode cX2_init 0 = .ok (.aload_n 0, 1) := by decide +kernel
theorem dX2_init_1 : decode cX2_init 1 = .ok (.invokespecial 1, 3) := by decide +kernel
theorem dX2_init_4 : decode cX2_init 4 = .ok (.aload_n 0, 1) := by decide +kernel
theorem dX2_init_5 : decode cX2_init 5 = .ok (.bipush 8, 2) := by decide +kernel
theorem dX2_init_7 : decode cX2_init 7 = .ok (.newarray .int, 2) := by decide +kernel
theorem dX2_init_9 : decode cX2_init 9 = .ok (.putfield 9, 3) := by decide +kernel
theorem dX2_init_12 : decode cX2_init 12 = .ok (.aload_n 0, 1) := by decide +kernel
theorem dX2_init_13 : decode cX2_init 13 = .ok (.bipush 8, 2) := by decide +kernel
theorem dX2_init_15 : decode cX2_init 15 = .ok (.newarray .int, 2) := by decide +kernel
theorem dX2_init_17 : decode cX2_init 17 = .ok (.putfield 15, 3) := by decide +kernel
theorem dX2_init_20 : decode cX2_init 20 = .ok (.aload_n 0, 1) := by decide +kernel
theorem dX2_init_21 : decode cX2_init 21 = .ok (.bipush 8, 2) := by decide +kernel
theorem dX2_init_23 : decode cX2_init 23 = .ok (.newarray .int, 2) := by decide +kernel
theorem dX2_init_25 : decode cX2_init 25 = .ok (.putfield 18, 3) := by decide +kernel
theorem dX2_init_28 : decode cX2_init 28 = .ok (.aload_n 0, 1) := by decide +kernel
theorem dX2_init_29 : decode cX2_init 29 = .ok (.bipush 8, 2) := by decide +kernel
theorem dX2_init_31 : decode cX2_init 31 = .ok (.newarray .int, 2) := by decide +kernel
theorem dX2_init_33 : decode cX2_init 33 = .ok (.putfield 21, 3) := by decide +kernel
theorem dX2_init_36 : decode cX2_init 36 = .ok (.aload_n 0, 1) := by decide +kernel
theorem dX2_init_37 : decode cX2_init 37 = .ok (.bipush 8, 2) := by decide +kernel
theorem dX2_init_39 : decode cX2_init 39 = .ok (.newarray .int, 2) := by decide +kernel
theorem dX2_init_41 : decode cX2_init 41 = .ok (.putfield 24, 3) := by decide +kernel
theorem dX2_init_44 : decode cX2_init 44 = .ok (.aload_n 0, 1) := by decide +kernel
theorem dX2_init_45 : decode cX2_init 45 = .ok (.bipush 8, 2) := by decide +kernel
theorem dX2_init_47 : decode cX2_init 47 = .ok (.newarray .int, 2) := by decide +kernel
theorem dX2_init_49 : decode cX2_init 49 = .ok (.putfield 27, 3) := by decide +kernel
theorem dX2_init_52 : decode cX2_init 52 = .ok (.aload_n 0, 1) := by decide +kernel
theorem dX2_init_53 : decode cX2_init 53 = .ok (.iconst 0, 1) := by decide +kernel
theorem dX2_init_54 : decode cX2_init 54 = .ok (.putfield 30, 3) := by decide +kernel
theorem dX2_init_57 : decode cX2_init 57 = .ok (.aload_n 0, 1) := by decide +kernel
theorem dX2_init_58 : decode cX2_init 58 = .ok (.invokevirtual 34, 3) := by decide +kernel
theorem dX2_init_61 : decode cX2_init 61 = .ok (.return_, 1) := by decide +kernel
theorem dX2_isShare_0 : decode cX2_isShare 0 = .ok (.iload_n 0, 1) := by decide +kernel
theorem dX2_isShare_1 : decode cX2_isShare 1 = .ok (.ifCond .lt 24, 3) := by decide +kernel
theorem dX2_isShare_4 : decode cX2_isShare 4 = .ok (.iload_n 0, 1) := by decide +kernel
theorem dX2_isShare_5 : decode cX2_isShare 5 = .ok (.bipush 100, 2) := by decide +kernel
theorem dX2_isShare_7 : decode cX2_isShare 7 = .ok (.if_icmp .gt 18, 3) := by decide +kernel
theorem dX2_isShare_10 : decode cX2_isShare 10 = .ok (.iload_n 1, 1) := by decide +kernel
theorem dX2_isShare_11 : decode cX2_isShare 11 = .ok (.iconst 1, 1) := by decide +kernel
theorem dX2_isShare_12 : decode cX2_isShare 12 = .ok (.if_icmp .lt 13, 3) := by decide +kernel
theorem dX2_isShare_15 : decode cX2_isShare 15 = .ok (.iload_n 1, 1) := by decide +kernel
theorem dX2_isShare_16 : decode cX2_isShare 16 = .ok (.bipush 100, 2) := by decide +kernel
theorem dX2_isShare_18 : decode cX2_isShare 18 = .ok (.if_icmp .gt 7, 3) := by decide +kernel
theorem dX2_isShare_21 : decode cX2_isShare 21 = .ok (.iconst 1, 1) := by decide +kernel
theorem dX2_isShare_22 : decode cX2_isShare 22 = .ok (.goto 4, 3) := by decide +kernel
theorem dX2_isShare_25 : decode cX2_isShare 25 = .ok (.iconst 0, 1) := by decide +kernel
theorem dX2_isShare_26 : decode cX2_isShare 26 = .ok (.ireturn, 1) := by decide +kernel
set_option maxRecDepth 20000 in
theorem ggX2_removeAll_X2_setNothing : GoodIn wsX2_removeAll wsX2_setNothing := goodIn_r _ [6, 7, 8, 9, 10, 11, 12, 13, 14, 15, 16, 17, 18, 19, 20, 21, 22] rfl rfl
set_option maxRecDepth 20000 in
theorem gX2_removeAll_X2_setNothing : GoodIn wsX2_removeAll (wsV RX2 34 RX2 yX2_setNothing wsX2_setNothing) := goodIn_app (goodIn_r _ [2, 3, 4, 5] rfl rfl) ggX2_removeAll_X2_setNothing
theorem dX2_removeAll_0 : decode cX2_removeAll 0 = .ok (.aload_n 0, 1) := by decide +kernel
theorem dX2_removeAll_1 : decode cX2_removeAll 1 = .ok (.iconst 0, 1) := by decide +kernel
theorem dX2_removeAll_2 : decode cX2_removeAll 2 = .ok (.putfield 30, 3) := by decide +kernel
theorem dX2_removeAll_5 : decode cX2_removeAll 5 = .ok (.aload_n 0, 1) := by decide +kernel
theorem dX2_removeAll_6 : decode cX2_removeAll 6 = .ok (.invokevirtual 34, 3) := by decide +kernel
theorem dX2_removeAll_9 : decode cX2_removeAll 9 = .ok (.return_, 1) := by decide +kernel
set_option maxRecDepth 20000 in
theorem ggX2_append_X1_put : GoodIn wsX2_append wsX1_put := goodIn_r _ [11] rfl rfl
set_option maxRecDepth 20000 in
theorem gX2_append_X1_put : GoodIn wsX2_append (va_wsS RX2 37 yX1_put wsX1_put) := goodIn_app (goodIn_r _ [8, 9, 10] rfl rfl) ggX2_append_X1_put
set_option maxRecDepth 20000 in
theorem ggX2_append_X1_scale : GoodIn wsX2_append wsX1_scale := goodIn_r _ [14, 15] rfl rfl
set_option maxRecDepth 20000 in
theorem gX2_append_X1_scale : GoodIn wsX2_append (va_wsS RX2 41 yX1_scale wsX1_scale) := goodIn_app (goodIn_r _ [12, 13, 10] rfl rfl) ggX2_append_X1_scale
set_option maxRecDepth 20000 in
theorem ggX2_append_X1_gain : GoodIn wsX2_append wsX1_gain := goodIn_r _ [18, 15] rfl rfl
set_option maxRecDepth 20000 in
theorem gX2_append_X1_gain : GoodIn wsX2_append (va_wsS RX2 45 yX1_gain wsX1_gain) := goodIn_app (goodIn_r _ [16, 17, 10] rfl rfl) ggX2_append_X1_gain
set_option maxRecDepth 20000 in
theorem ggX2_append_X1_signOf : GoodIn wsX2_append wsX1_signOf := goodIn_r _ [21] rfl rfl
set_option maxRecDepth 20000 in
theorem gX2_append_X1_signOf : GoodIn wsX2_append (va_wsS RX2 49 yX1_signOf wsX1_signOf) := goodIn_app (goodIn_r _ [19, 20, 10] rfl rfl) ggX2_append_X1_signOf
set_option maxRecDepth 20000 in
theorem ggX2_append_X2_passPair : GoodIn wsX2_append wsX2_passPair := goodIn_r _ [26, 2, 8, 9, 10, 11, 12, 13, 14, 15, 16, 17, 18, 27, 28, 29, 30, 31, 32, 33] rfl rfl
set_option maxRecDepth 20000 in
theorem gX2_append_X2_passPair : GoodIn wsX2_append (wsV RX2 53 RX2 yX2_passPair wsX2_passPair) := goodIn_app (goodIn_r _ [22, 23, 24, 25] rfl rfl) ggX2_append_X2_passPair
theorem dX2_append_0 : decode cX2_append 0 = .ok (.aload_n 0, 1) := by decide +kernel
theorem dX2_append_1 : decode cX2_append 1 = .ok (.getfield 30, 3) := by decide +kernel
theorem dX2_append_4 : decode cX2_append 4 = .ok (.bipush 8, 2) := by decide +kernel
theorem dX2_append_6 : decode cX2_append 6 = .ok (.if_icmp .lt 5, 3) := by decide +kernel
theorem dX2_append_9 : decode cX2_append 9 = .ok (.iconst 0, 1) := by decide +kernel
theorem dX2_append_10 : decode cX2_append 10 = .ok (.ireturn, 1) := by decide +kernel
theorem dX2_append_11 : decode cX2_append 11 = .ok (.aload_n 0, 1) := by decide +kernel
theorem dX2_append_12 : decode cX2_append 12 = .ok (.dup, 1) := by decide +kernel
theorem dX2_append_13 : decode cX2_append 13 = .ok (.getfield 30, 3) := by decide +kernel
theorem dX2_append_16 : decode cX2_append 16 = .ok (.iconst 1, 1) := by decide +kernel
theorem dX2_append_17 : decode cX2_append 17 = .ok (.iadd, 1) := by decide +kernel
theorem dX2_append_18 : decode cX2_append 18 = .ok (.putfield 30, 3) := by decide +kernel
theorem dX2_append_21 : decode cX2_append 21 = .ok (.iload_n 2, 1) := by decide +kernel
theorem dX2_append_22 : decode cX2_append 22 = .ok (.iload 4, 2) := by decide +kernel
theorem dX2_append_24 : decode cX2_append 24 = .ok (.imul, 1) := by decide +kernel
theorem dX2_append_25 : decode cX2_append 25 = .ok (.i2l, 1) := by decide +kernel
theorem dX2_append_26 : decode cX2_append 26 = .ok (.lstore 5, 2) := by decide +kernel
theorem dX2_append_28 : decode cX2_append 28 = .ok (.iload_n 1, 1) := by decide +kernel
theorem dX2_append_29 : decode cX2_append 29 = .ok (.iload 4, 2) := by decide +kernel
theorem dX2_append_31 : decode cX2_append 31 = .ok (.imul, 1) := by decide +kernel
theorem dX2_append_32 : decode cX2_append 32 = .ok (.i2l, 1) := by decide +kernel
theorem dX2_append_33 : decode cX2_append 33 = .ok (.lstore 7, 2) := by decide +kernel
theorem dX2_append_35 : decode cX2_append 35 = .ok (.iload_n 3, 1) := by decide +kernel
theorem dX2_append_36 : decode cX2_append 36 = .ok (.iload_n 2, 1) := by decide +kernel
theorem dX2_append_37 : decode cX2_append 37 = .ok (.imul, 1) := by decide +kernel
theorem dX2_append_38 : decode cX2_append 38 = .ok (.i2l, 1) := by decide +kernel
theorem dX2_append_39 : decode cX2_append 39 = .ok (.lstore 9, 2) := by decide +kernel
theorem dX2_append_41 : decode cX2_append 41 = .ok (.aload_n 0, 1) := by decide +kernel
theorem dX2_append_42 : decode cX2_append 42 = .ok (.getfield 27, 3) := by decide +kernel
theorem dX2_append_45 : decode cX2_append 45 = .ok (.aload_n 0, 1) := by decide +kernel
theorem dX2_append_46 : decode cX2_append 46 = .ok (.getfield 18, 3) := by decide +kernel
theorem dX2_append_49 : decode cX2_append 49 = .ok (.invokestatic 37, 3) := by decide +kernel
theorem dX2_append_52 : decode cX2_append 52 = .ok (.aload_n 0, 1) := by decide +kernel
theorem dX2_append_53 : decode cX2_append 53 = .ok (.getfield 27, 3) := by decide +kernel
theorem dX2_append_56 : decode cX2_append 56 = .ok (.lload 5, 2) := by decide +kernel
theorem dX2_append_58 : decode cX2_append 58 = .ok (.invokestatic 41, 3) := by decide +kernel
theorem dX2_append_61 : decode cX2_append 61 = .ok (.aload_n 0, 1) := by decide +kernel
theorem dX2_append_62 : decode cX2_append 62 = .ok (.getfield 27, 3) := by decide +kernel
theorem dX2_append_65 : decode cX2_append 65 = .ok (.aload_n 0, 1) := by decide +kernel
theorem dX2_append_66 : decode cX2_append 66 = .ok (.getfield 21, 3) := by decide +kernel
theorem dX2_append_69 : decode cX2_append 69 = .ok (.lload 7, 2) := by decide +kernel
theorem dX2_append_71 : decode cX2_append 71 = .ok (.lneg, 1) := by decide +kernel
theorem dX2_append_72 : decode cX2_append 72 = .ok (.invokestatic 45, 3) := by decide +kernel
theorem dX2_append_75 : decode cX2_append 75 = .ok (.aload_n 0, 1) := by decide +kernel
theorem dX2_append_76 : decode cX2_append 76 = .ok (.getfield 27, 3) := by decide +kernel
theorem dX2_append_79 : decode cX2_append 79 = .ok (.invokestatic 49, 3) := by decide +kernel
theorem dX2_append_82 : decode cX2_append 82 = .ok (.ifCond .eq 93, 3) := by decide +kernel
theorem dX2_append_85 : decode cX2_append 85 = .ok (.aload_n 0, 1) := by decide +kernel
theorem dX2_append_86 : decode cX2_append 86 = .ok (.aload_n 0, 1) := by decide +kernel
theorem dX2_append_87 : decode cX2_append 87 = .ok (.getfield 18, 3) := by decide +kernel
theorem dX2_append_90 : decode cX2_append 90 = .ok (.aload_n 0, 1) := by decide +kernel
theorem dX2_append_91 : decode cX2_append 91 = .ok (.getfield 21, 3) := by decide +kernel
theorem dX2_append_94 : decode cX2_append 94 = .ok (.lload 5, 2) := by decide +kernel
theorem dX2_append_96 : decode cX2_append 96 = .ok (.lload 5, 2) := by decide +kernel
theorem dX2_append_98 : decode cX2_append 98 = .ok (.lmul, 1) := by decide +kernel
theorem dX2_append_99 : decode cX2_append 99 = .ok (.lload 7, 2) := by decide +kernel
theorem dX2_append_101 : decode cX2_append 101 = .ok (.lneg, 1) := by decide +kernel
theorem dX2_append_102 : decode cX2_append 102 = .ok (.lload 5, 2) := by decide +kernel
theorem dX2_append_104 : decode cX2_append 104 = .ok (.lmul, 1) := by decide +kernel
theorem dX2_append_105 : decode cX2_append 105 = .ok (.lload 7, 2) := by decide +kernel
theorem dX2_append_107 : decode cX2_append 107 = .ok (.lload 5, 2) := by decide +kernel
theorem dX2_append_109 : decode cX2_append 109 = .ok (.lmul, 1) := by decide +kernel
theorem dX2_append_110 : decode cX2_append 110 = .ok (.lload 9, 2) := by decide +kernel
theorem dX2_append_112 : decode cX2_append 112 = .ok (.lload 9, 2) := by decide +kernel
theorem dX2_append_114 : decode cX2_append 114 = .ok (.lmul, 1) := by decide +kernel
theorem dX2_append_115 : decode cX2_append 115 = .ok (.lload 7, 2) := by decide +kernel
theorem dX2_append_117 : decode cX2_append 117 = .ok (.lload 7, 2) := by decide +kernel
theorem dX2_append_119 : decode cX2_append 119 = .ok (.lmul, 1) := by decide +kernel
theorem dX2_append_120 : decode cX2_append 120 = .ok (.lsub, 1) := by decide +kernel
theorem dX2_append_121 : decode cX2_append 121 = .ok (.invokevirtual 53, 3) := by decide +kernel
theorem dX2_append_124 : decode cX2_append 124 = .ok (.aload_n 0, 1) := by decide +kernel
theorem dX2_append_125 : decode cX2_append 125 = .ok (.aload_n 0, 1) := by decide +kernel
theorem dX2_append_126 : decode cX2_append 126 = .ok (.getfield 9, 3) := by decide +kernel
theorem dX2_append_129 : decode cX2_append 129 = .ok (.aload_n 0, 1) := by decide +kernel
theorem dX2_append_130 : decode cX2_append 130 = .ok (.getfield 15, 3) := by decide +kernel
theorem dX2_append_133 : decode cX2_append 133 = .ok (.lload 5, 2) := by decide +kernel
theorem dX2_append_135 : decode cX2_append 135 = .ok (.lload 5, 2) := by decide +kernel
theorem dX2_append_137 : decode cX2_append 137 = .ok (.lmul, 1) := by decide +kernel
theorem dX2_append_138 : decode cX2_append 138 = .ok (.lload 7, 2) := by decide +kernel
theorem dX2_append_140 : decode cX2_append 140 = .ok (.lload 5, 2) := by decide +kernel
theorem dX2_append_142 : decode cX2_append 142 = .ok (.lmul, 1) := by decide +kernel
theorem dX2_append_143 : decode cX2_append 143 = .ok (.lload 7, 2) := by decide +kernel
theorem dX2_append_145 : decode cX2_append 145 = .ok (.lneg, 1) := by decide +kernel
theorem dX2_append_146 : decode cX2_append 146 = .ok (.lload 5, 2) := by decide +kernel
theorem dX2_append_148 : decode cX2_append 148 = .ok (.lmul, 1) := by decide +kernel
theorem dX2_append_149 : decode cX2_append 149 = .ok (.lload 9, 2) := by decide +kernel
theorem dX2_append_151 : decode cX2_append 151 = .ok (.lload 9, 2) := by decide +kernel
theorem dX2_append_153 : decode cX2_append 153 = .ok (.lmul, 1) := by decide +kernel
theorem dX2_append_154 : decode cX2_append 154 = .ok (.lload 7, 2) := by decide +kernel
theorem dX2_append_156 : decode cX2_append 156 = .ok (.lload 7, 2) := by decide +kernel
theorem dX2_append_158 : decode cX2_append 158 = .ok (.lmul, 1) := by decide +kernel
theorem dX2_append_159 : decode cX2_append 159 = .ok (.lsub, 1) := by decide +kernel
theorem dX2_append_160 : decode cX2_append 160 = .ok (.invokevirtual 53, 3) := by decide +kernel
theorem dX2_append_163 : decode cX2_append 163 = .ok (.aload_n 0, 1) := by decide +kernel
theorem dX2_append_164 : decode cX2_append 164 = .ok (.getfield 24, 3) := by decide +kernel
theorem dX2_append_167 : decode cX2_append 167 = .ok (.lload 9, 2) := by decide +kernel
theorem dX2_append_169 : decode cX2_append 169 = .ok (.lload 5, 2) := by decide +kernel
theorem dX2_append_171 : decode cX2_append 171 = .ok (.lmul, 1) := by decide +kernel
theorem dX2_append_172 : decode cX2_append 172 = .ok (.invokestatic 41, 3) := by decide +kernel
theorem dX2_append_175 : decode cX2_append 175 = .ok (.iconst 1, 1) := by decide +kernel
theorem dX2_append_176 : decode cX2_append 176 = .ok (.ireturn, 1) := by decide +kernel
set_option maxRecDepth 20000 in
theorem ggX2_tell_X1_put : GoodIn wsX2_tell wsX1_put := goodIn_r _ [11] rfl rfl
set_option maxRecDepth 20000 in
theorem gX2_tell_X1_put : GoodIn wsX2_tell (va_wsS RX2 37 yX1_put wsX1_put) := goodIn_app (goodIn_r _ [8, 9, 10] rfl rfl) ggX2_tell_X1_put
set_option maxRecDepth 20000 in
theorem ggX2_tell_X1_gain : GoodIn wsX2_tell wsX1_gain := goodIn_r _ [14, 15] rfl rfl
set_option maxRecDepth 20000 in
theorem gX2_tell_X1_gain : GoodIn wsX2_tell (va_wsS RX2 45 yX1_gain wsX1_gain) := goodIn_app (goodIn_r _ [12, 13, 10] rfl rfl) ggX2_tell_X1_gain
set_option maxRecDepth 20000 in
theorem ggX2_tell_X2_rowOf : GoodIn wsX2_tell wsX2_rowOf := goodIn_r _ [20, 3, 21, 5, 22, 23, 24, 25, 26, 27, 28] rfl rfl
set_option maxRecDepth 20000 in
theorem gX2_tell_X2_rowOf : GoodIn wsX2_tell (wsV RX2 64 RX2 yX2_rowOf wsX2_rowOf) := goodIn_app (goodIn_r _ [16, 17, 18, 19] rfl rfl) ggX2_tell_X2_rowOf
theorem dX2_tell_0 : decode cX2_tell 0 = .ok (.iload_n 2, 1) := by decide +kernel
theorem dX2_tell_1 : decode cX2_tell 1 = .ok (.iconst 3, 1) := by decide +kernel
theorem dX2_tell_2 : decode cX2_tell 2 = .ok (.if_icmp .ne 56, 3) := by decide +kernel
theorem dX2_tell_5 : decode cX2_tell 5 = .ok (.aload_n 0, 1) := by decide +kernel
theorem dX2_tell_6 : decode cX2_tell 6 = .ok (.getfield 27, 3) := by decide +kernel
theorem dX2_tell_9 : decode cX2_tell 9 = .ok (.aload_n 0, 1) := by decide +kernel
theorem dX2_tell_10 : decode cX2_tell 10 = .ok (.getfield 18, 3) := by decide +kernel
theorem dX2_tell_13 : decode cX2_tell 13 = .ok (.invokestatic 37, 3) := by decide +kernel
theorem dX2_tell_16 : decode cX2_tell 16 = .ok (.aload_n 0, 1) := by decide +kernel
theorem dX2_tell_17 : decode cX2_tell 17 = .ok (.getfield 27, 3) := by decide +kernel
theorem dX2_tell_20 : decode cX2_tell 20 = .ok (.aload_n 0, 1) := by decide +kernel
theorem dX2_tell_21 : decode cX2_tell 21 = .ok (.getfield 9, 3) := by decide +kernel
theorem dX2_tell_24 : decode cX2_tell 24 = .ok (.ldc2_w 57, 3) := by decide +kernel
theorem dX2_tell_27 : decode cX2_tell 27 = .ok (.invokestatic 45, 3) := by decide +kernel
theorem dX2_tell_30 : decode cX2_tell 30 = .ok (.aload_n 0, 1) := by decide +kernel
theorem dX2_tell_31 : decode cX2_tell 31 = .ok (.getfield 27, 3) := by decide +kernel
theorem dX2_tell_34 : decode cX2_tell 34 = .ok (.aload_n 0, 1) := by decide +kernel
theorem dX2_tell_35 : decode cX2_tell 35 = .ok (.getfield 24, 3) := by decide +kernel
theorem dX2_tell_38 : decode cX2_tell 38 = .ok (.ldc2_w 57, 3) := by decide +kernel
theorem dX2_tell_41 : decode cX2_tell 41 = .ok (.invokestatic 45, 3) := by decide +kernel
theorem dX2_tell_44 : decode cX2_tell 44 = .ok (.aload_n 1, 1) := by decide +kernel
theorem dX2_tell_45 : decode cX2_tell 45 = .ok (.getfield 59, 3) := by decide +kernel
theorem dX2_tell_48 : decode cX2_tell 48 = .ok (.aload_n 0, 1) := by decide +kernel
theorem dX2_tell_49 : decode cX2_tell 49 = .ok (.getfield 27, 3) := by decide +kernel
theorem dX2_tell_52 : decode cX2_tell 52 = .ok (.invokestatic 37, 3) := by decide +kernel
theorem dX2_tell_55 : decode cX2_tell 55 = .ok (.goto 15, 3) := by decide +kernel
theorem dX2_tell_58 : decode cX2_tell 58 = .ok (.aload_n 1, 1) := by decide +kernel
theorem dX2_tell_59 : decode cX2_tell 59 = .ok (.getfield 59, 3) := by decide +kernel
theorem dX2_tell_62 : decode cX2_tell 62 = .ok (.aload_n 0, 1) := by decide +kernel
theorem dX2_tell_63 : decode cX2_tell 63 = .ok (.iload_n 2, 1) := by decide +kernel
theorem dX2_tell_64 : decode cX2_tell 64 = .ok (.invokevirtual 64, 3) := by decide +kernel
theorem dX2_tell_67 : decode cX2_tell 67 = .ok (.invokestatic 37, 3) := by decide +kernel
theorem dX2_tell_70 : decode cX2_tell 70 = .ok (.aload_n 1, 1) := by decide +kernel
theorem dX2_tell_71 : decode cX2_tell 71 = .ok (.getfield 68, 3) := by decide +kernel
theorem dX2_tell_74 : decode cX2_tell 74 = .ok (.aload_n 0, 1) := by decide +kernel
theorem dX2_tell_75 : decode cX2_tell 75 = .ok (.getfield 18, 3) := by decide +kernel
theorem dX2_tell_78 : decode cX2_tell 78 = .ok (.invokestatic 37, 3) := by decide +kernel
theorem dX2_tell_81 : decode cX2_tell 81 = .ok (.return_, 1) := by decide +kernel
theorem dX2_rowOf_0 : decode cX2_rowOf 0 = .ok (.iload_n 1, 1) := by decide +kernel
theorem dX2_rowOf_1 : decode cX2_rowOf 1 = .ok (.ifCond .ne 8, 3) := by decide +kernel
theorem dX2_rowOf_4 : decode cX2_rowOf 4 = .ok (.aload_n 0, 1) := by decide +kernel
theorem dX2_rowOf_5 : decode cX2_rowOf 5 = .ok (.getfield 9, 3) := by decide +kernel
theorem dX2_rowOf_8 : decode cX2_rowOf 8 = .ok (.areturn, 1) := by decide +kernel
theorem dX2_rowOf_9 : decode cX2_rowOf 9 = .ok (.iload_n 1, 1) := by decide +kernel
theorem dX2_rowOf_10 : decode cX2_rowOf 10 = .ok (.iconst 1, 1) := by decide +kernel
theorem dX2_rowOf_11 : decode cX2_rowOf 11 = .ok (.if_icmp .ne 10, 3) := by decide +kernel
theorem dX2_rowOf_14 : decode cX2_rowOf 14 = .ok (.aload_n 0, 1) := by decide +kernel
theorem dX2_rowOf_15 : decode cX2_rowOf 15 = .ok (.getfield 21, 3) := by decide +kernel
theorem dX2_rowOf_18 : decode cX2_rowOf 18 = .ok (.goto 7, 3) := by decide +kernel
theorem dX2_rowOf_21 : decode cX2_rowOf 21 = .ok (.aload_n 0, 1) := by decide +kernel
theorem dX2_rowOf_22 : decode cX2_rowOf 22 = .ok (.getfield 24, 3) := by decide +kernel
theorem dX2_rowOf_25 : decode cX2_rowOf 25 = .ok (.areturn, 1) := by decide +kernel
set_option maxRecDepth 20000 in
theorem ggX2_setNothing_X1_set : GoodIn wsX2_setNothing wsX1_set := goodIn_r _ [9] rfl rfl
set_option maxRecDepth 20000 in
theorem gX2_setNothing_X1_set : GoodIn wsX2_setNothing (va_wsS RX2 71 yX1_set wsX1_set) := goodIn_app (goodIn_r _ [6, 7, 8] rfl rfl) ggX2_setNothing_X1_set
theorem dX2_setNothing_0 : decode cX2_setNothing 0 = .ok (.aload_n 0, 1) := by decide +kernel
theorem dX2_setNothing_1 : decode cX2_setNothing 1 = .ok (.getfield 9, 3) := by decide +kernel
theorem dX2_setNothing_4 : decode cX2_setNothing 4 = .ok (.iconst 0, 1) := by decide +kernel
theorem dX2_setNothing_5 : decode cX2_setNothing 5 = .ok (.invokestatic 71, 3) := by decide +kernel
theorem dX2_setNothing_8 : decode cX2_setNothing 8 = .ok (.aload_n 0, 1) := by decide +kernel
theorem dX2_setNothing_9 : decode cX2_setNothing 9 = .ok (.getfield 21, 3) := by decide +kernel
theorem dX2_setNothing_12 : decode cX2_setNothing 12 = .ok (.iconst 0, 1) := by decide +kernel
theorem dX2_setNothing_13 : decode cX2_setNothing 13 = .ok (.invokestatic 71, 3) := by decide +kernel
theorem dX2_setNothing_16 : decode cX2_setNothing 16 = .ok (.aload_n 0, 1) := by decide +kernel
theorem dX2_setNothing_17 : decode cX2_setNothing 17 = .ok (.getfield 15, 3) := by decide +kernel
theorem dX2_setNothing_20 : decode cX2_setNothing 20 = .ok (.iconst 1, 1) := by decide +kernel
theorem dX2_setNothing_21 : decode cX2_setNothing 21 = .ok (.invokestatic 71, 3) := by decide +kernel
theorem dX2_setNothing_24 : decode cX2_setNothing 24 = .ok (.aload_n 0, 1) := by decide +kernel
theorem dX2_setNothing_25 : decode cX2_setNothing 25 = .ok (.getfield 18, 3) := by decide +kernel
theorem dX2_setNothing_28 : decode cX2_setNothing 28 = .ok (.iconst 1, 1) := by decide +kernel
theorem dX2_setNothing_29 : decode cX2_setNothing 29 = .ok (.invokestatic 71, 3) := by decide +kernel
theorem dX2_setNothing_32 : decode cX2_setNothing 32 = .ok (.aload_n 0, 1) := by decide +kernel
theorem dX2_setNothing_33 : decode cX2_setNothing 33 = .ok (.getfield 24, 3) := by decide +kernel
theorem dX2_setNothing_36 : decode cX2_setNothing 36 = .ok (.iconst 1, 1) := by decide +kernel
theorem dX2_setNothing_37 : decode cX2_setNothing 37 = .ok (.invokestatic 71, 3) := by decide +kernel
theorem dX2_setNothing_40 : decode cX2_setNothing 40 = .ok (.return_, 1) := by decide +kernel
set_option maxRecDepth 20000 in
theorem ggX2_passPair_X1_put : GoodIn wsX2_passPair wsX1_put := goodIn_r _ [5] rfl rfl
set_option maxRecDepth 20000 in
theorem gX2_passPair_X1_put : GoodIn wsX2_passPair (va_wsS RX2 37 yX1_put wsX1_put) := goodIn_app (goodIn_r _ [2, 3, 4] rfl rfl) ggX2_passPair_X1_put
set_option maxRecDepth 20000 in
theorem ggX2_passPair_X1_scale : GoodIn wsX2_passPair wsX1_scale := goodIn_r _ [8, 9] rfl rfl
set_option maxRecDepth 20000 in
theorem gX2_passPair_X1_scale : GoodIn wsX2_passPair (va_wsS RX2 41 yX1_scale wsX1_scale) := goodIn_app (goodIn_r _ [6, 7, 4] rfl rfl) ggX2_passPair_X1_scale
set_option maxRecDepth 20000 in
theorem ggX2_passPair_X1_gain : GoodIn wsX2_passPair wsX1_gain := goodIn_r _ [12, 9] rfl rfl
set_option maxRecDepth 20000 in
theorem gX2_passPair_X1_gain : GoodIn wsX2_passPair (va_wsS RX2 45 yX1_gain wsX1_gain) := goodIn_app (goodIn_r _ [10, 11, 4] rfl rfl) ggX2_passPair_X1_gain
theorem dX2_passPair_0 : decode cX2_passPair 0 = .ok (.aload_n 0, 1) := by decide +kernel
theorem dX2_passPair_1 : decode cX2_passPair 1 = .ok (.getfield 27, 3) := by decide +kernel
theorem dX2_passPair_4 : decode cX2_passPair 4 = .ok (.aload_n 1, 1) := by decide +kernel
theorem dX2_passPair_5 : decode cX2_passPair 5 = .ok (.invokestatic 37, 3) := by decide +kernel
theorem dX2_passPair_8 : decode cX2_passPair 8 = .ok (.aload_n 0, 1) := by decide +kernel
theorem dX2_passPair_9 : decode cX2_passPair 9 = .ok (.getfield 27, 3) := by decide +kernel
theorem dX2_passPair_12 : decode cX2_passPair 12 = .ok (.lload_n 3, 1) := by decide +kernel
theorem dX2_passPair_13 : decode cX2_passPair 13 = .ok (.invokestatic 41, 3) := by decide +kernel
theorem dX2_passPair_16 : decode cX2_passPair 16 = .ok (.aload_n 0, 1) := by decide +kernel
theorem dX2_passPair_17 : decode cX2_passPair 17 = .ok (.getfield 27, 3) := by decide +kernel
theorem dX2_passPair_20 : decode cX2_passPair 20 = .ok (.aload_n 2, 1) := by decide +kernel
theorem dX2_passPair_21 : decode cX2_passPair 21 = .ok (.lload 5, 2) := by decide +kernel
theorem dX2_passPair_23 : decode cX2_passPair 23 = .ok (.invokestatic 45, 3) := by decide +kernel
theorem dX2_passPair_26 : decode cX2_passPair 26 = .ok (.aload_n 2, 1) := by decide +kernel
theorem dX2_passPair_27 : decode cX2_passPair 27 = .ok (.lload 9, 2) := by decide +kernel
theorem dX2_passPair_29 : decode cX2_passPair 29 = .ok (.invokestatic 41, 3) := by decide +kernel
theorem dX2_passPair_32 : decode cX2_passPair 32 = .ok (.aload_n 2, 1) := by decide +kernel
theorem dX2_passPair_33 : decode cX2_passPair 33 = .ok (.aload_n 1, 1) := by decide +kernel
theorem dX2_passPair_34 : decode cX2_passPair 34 = .ok (.lload 7, 2) := by decide +kernel
theorem dX2_passPair_36 : decode cX2_passPair 36 = .ok (.invokestatic 45, 3) := by decide +kernel
theorem dX2_passPair_39 : decode cX2_passPair 39 = .ok (.aload_n 1, 1) := by decide +kernel
theorem dX2_passPair_40 : decode cX2_passPair 40 = .ok (.aload_n 0, 1) := by decide +kernel
theorem dX2_passPair_41 : decode cX2_passPair 41 = .ok (.getfield 27, 3) := by decide +kernel
theorem dX2_passPair_44 : decode cX2_passPair 44 = .ok (.invokestatic 37, 3) := by decide +kernel
theorem dX2_passPair_47 : decode cX2_passPair 47 = .ok (.return_, 1) := by decide +kernel
theorem dX3_init_0 : decode cX3_init 0 = .ok (.aload_n 0, 1) := by decide +kernel
theorem dX3_init_1 : decode cX3_init 1 = .ok (.invokespecial 3, 3) := by decide +kernel
theorem dX3_init_4 : decode cX3_init 4 = .ok (.aload_n 0, 1) := by decide +kernel
theorem dX3_init_5 : decode cX3_init 5 = .ok (.iconst 2, 1) := by decide +kernel
theorem dX3_init_6 : decode cX3_init 6 = .ok (.newarray .int, 2) := by decide +kernel
theorem dX3_init_8 : decode cX3_init 8 = .ok (.dup, 1) := by decide +kernel
theorem dX3_init_9 : decode cX3_init 9 = .ok (.iconst 0, 1) := by decide +kernel
theorem dX3_init_10 : decode cX3_init 10 = .ok (.iconst 1, 1) := by decide +kernel
theorem dX3_init_11 : decode cX3_init 11 = .ok (.iastore, 1) := by decide +kernel
theorem dX3_init_12 : decode cX3_init 12 = .ok (.dup, 1) := by decide +kernel
theorem dX3_init_13 : decode cX3_init 13 = .ok (.iconst 1, 1) := by decide +kernel
theorem dX3_init_14 : decode cX3_init 14 = .ok (.iconst 1, 1) := by decide +kernel
theorem dX3_init_15 : decode cX3_init 15 = .ok (.iastore, 1) := by decide +kernel
theorem dX3_init_16 : decode cX3_init 16 = .ok (.putfield 9, 3) := by decide +kernel
theorem dX3_init_19 : decode cX3_init 19 = .ok (.aload_n 0, 1) := by decide +kernel
theorem dX3_init_20 : decode cX3_init 20 = .ok (.iconst 2, 1) := by decide +kernel
theorem dX3_init_21 : decode cX3_init 21 = .ok (.newarray .int, 2) := by decide +kernel
theorem dX3_init_23 : decode cX3_init 23 = .ok (.dup, 1) := by decide +kernel
theorem dX3_init_24 : decode cX3_init 24 = .ok (.iconst 0, 1) := by decide +kernel
theorem dX3_init_25 : decode cX3_init 25 = .ok (.iconst 1, 1) := by decide +kernel
theorem dX3_init_26 : decode cX3_init 26 = .ok (.iastore, 1) := by decide +kernel
theorem dX3_init_27 : decode cX3_init 27 = .ok (.dup, 1) := by decide +kernel
theorem dX3_init_28 : decode cX3_init 28 = .ok (.iconst 1, 1) := by decide +kernel
theorem dX3_init_29 : decode cX3_init 29 = .ok (.iconst 1, 1) := by decide +kernel
theorem dX3_init_30 : decode cX3_init 30 = .ok (.iastore, 1) := by decide +kernel
theorem dX3_init_31 : decode cX3_init 31 = .ok (.putfield 15, 3) := by decide +kernel
theorem dX3_init_34 : decode cX3_init 34 = .ok (.aload_n 0, 1) := by decide +kernel
theorem dX3_init_35 : decode cX3_init 35 = .ok (.bipush 6, 2) := by decide +kernel
theorem dX3_init_37 : decode cX3_init 37 = .ok (.newarray .int, 2) := by decide +kernel
theorem dX3_init_39 : decode cX3_init 39 = .ok (.putfield 18, 3) := by decide +kernel
theorem dX3_init_42 : decode cX3_init 42 = .ok (.aload_n 0, 1) := by decide +kernel
theorem dX3_init_43 : decode cX3_init 43 = .ok (.bipush 6, 2) := by decide +kernel
theorem dX3_init_45 : decode cX3_init 45 = .ok (.newarray .int, 2) := by decide +kernel
theorem dX3_init_47 : decode cX3_init 47 = .ok (.putfield 21, 3) := by decide +kernel
theorem dX3_init_50 : decode cX3_init 50 = .ok (.aload_n 0, 1) := by decide +kernel
theorem dX3_init_51 : decode cX3_init 51 = .ok (.bipush 6, 2) := by decide +kernel
theorem dX3_init_53 : decode cX3_init 53 = .ok (.newarray .int, 2) := by decide +kernel
theorem dX3_init_55 : decode cX3_init 55 = .ok (.putfield 24, 3) := by decide +kernel
theorem dX3_init_58 : decode cX3_init 58 = .ok (.aload_n 0, 1) := by decide +kernel
theorem dX3_init_59 : decode cX3_init 59 = .ok (.iconst 0, 1) := by decide +kernel
theorem dX3_init_60 : decode cX3_init 60 = .ok (.putfield 27, 3) := by decide +kernel
theorem dX3_init_63 : decode cX3_init 63 = .ok (.return_, 1) := by decide +kernel
theorem dX3_lowest_0 : decode cX3_lowest 0 = .ok (.bipush 9, 2) := by decide +kernel
theorem dX3_lowest_2 : decode cX3_lowest 2 = .ok (.istore_n 2, 1) := by decide +kernel
theorem dX3_lowest_3 : decode cX3_lowest 3 = .ok (.iload_n 2, 1) := by decide +kernel
theorem dX3_lowest_4 : decode cX3_lowest 4 = .ok (.iconst 1, 1) := by decide +kernel
theorem dX3_lowest_5 : decode cX3_lowest 5 = .ok (.if_icmp .le 25, 3) := by decide +kernel
theorem dX3_lowest_8 : decode cX3_lowest 8 = .ok (.iload_n 0, 1) := by decide +kernel
theorem dX3_lowest_9 : decode cX3_lowest 9 = .ok (.iload_n 2, 1) := by decide +kernel
theorem dX3_lowest_10 : decode cX3_lowest 10 = .ok (.irem, 1) := by decide +kernel
theorem dX3_lowest_11 : decode cX3_lowest 11 = .ok (.ifCond .ne 13, 3) := by decide +kernel
theorem dX3_lowest_14 : decode cX3_lowest 14 = .ok (.iload_n 1, 1) := by decide +kernel
theorem dX3_lowest_15 : decode cX3_lowest 15 = .ok (.iload_n 2, 1) := by decide +kernel
theorem dX3_lowest_16 : decode cX3_lowest 16 = .ok (.irem, 1) := by decide +kernel
theorem dX3_lowest_17 : decode cX3_lowest 17 = .ok (.ifCond .ne 7, 3) := by decide +kernel
theorem dX3_lowest_20 : decode cX3_lowest 20 = .ok (.iload_n 0, 1) := by decide +kernel
theorem dX3_lowest_21 : decode cX3_lowest 21 = .ok (.iload_n 2, 1) := by decide +kernel
theorem dX3_lowest_22 : decode cX3_lowest 22 = .ok (.idiv, 1) := by decide +kernel
theorem dX3_lowest_23 : decode cX3_lowest 23 = .ok (.ireturn, 1) := by decide +kernel
theorem dX3_lowest_24 : decode cX3_lowest 24 = .ok (.iinc 2 (-1), 3) := by decide +kernel
theorem dX3_lowest_27 : decode cX3_lowest 27 = .ok (.goto (-24), 3) := by decide +kernel
theorem dX3_lowest_30 : decode cX3_lowest 30 = .ok (.iload_n 0, 1) := by decide +kernel
theorem dX3_lowest_31 : decode cX3_lowest 31 = .ok (.ireturn, 1) := by decide +kernel
set_option maxRecDepth 20000 in
theorem ggX3_setEdge_X3_lowest : GoodIn wsX3_setEdge wsX3_lowest := goodIn_r _ [6] rfl rfl
set_option maxRecDepth 20000 in
theorem gX3_setEdge_X3_lowest : GoodIn wsX3_setEdge (va_wsS RX3 31 yX3_lowest wsX3_lowest) := goodIn_app (goodIn_r _ [3, 4, 5] rfl rfl) ggX3_setEdge_X3_lowest
theorem dX3_setEdge_0 : decode cX3_setEdge 0 = .ok (.iload_n 1, 1) := by decide +kernel
theorem dX3_setEdge_1 : decode cX3_setEdge 1 = .ok (.ifCond .ne 7, 3) := by decide +kernel
theorem dX3_setEdge_4 : decode cX3_setEdge 4 = .ok (.iconst 0, 1) := by decide +kernel
theorem dX3_setEdge_5 : decode cX3_setEdge 5 = .ok (.goto 4, 3) := by decide +kernel
theorem dX3_setEdge_8 : decode cX3_setEdge 8 = .ok (.iconst 1, 1) := by decide +kernel
theorem dX3_setEdge_9 : decode cX3_setEdge 9 = .ok (.istore 4, 2) := by decide +kernel
theorem dX3_setEdge_11 : decode cX3_setEdge 11 = .ok (.aload_n 0, 1) := by decide +kernel
theorem dX3_setEdge_12 : decode cX3_setEdge 12 = .ok (.getfield 9, 3) := by decide +kernel
theorem dX3_setEdge_15 : decode cX3_setEdge 15 = .ok (.iload 4, 2) := by decide +kernel
theorem dX3_setEdge_17 : decode cX3_setEdge 17 = .ok (.iload_n 2, 1) := by decide +kernel
theorem dX3_setEdge_18 : decode cX3_setEdge 18 = .ok (.iload_n 3, 1) := by decide +kernel
theorem dX3_setEdge_19 : decode cX3_setEdge 19 = .ok (.invokestatic 31, 3) := by decide +kernel
theorem dX3_setEdge_22 : decode cX3_setEdge 22 = .ok (.iastore, 1) := by decide +kernel
theorem dX3_setEdge_23 : decode cX3_setEdge 23 = .ok (.aload_n 0, 1) := by decide +kernel
theorem dX3_setEdge_24 : decode cX3_setEdge 24 = .ok (.getfield 15, 3) := by decide +kernel
theorem dX3_setEdge_27 : decode cX3_setEdge 27 = .ok (.iload 4, 2) := by decide +kernel
theorem dX3_setEdge_29 : decode cX3_setEdge 29 = .ok (.iload_n 3, 1) := by decide +kernel
theorem dX3_setEdge_30 : decode cX3_setEdge 30 = .ok (.iload_n 2, 1) := by decide +kernel
theorem dX3_setEdge_31 : decode cX3_setEdge 31 = .ok (.invokestatic 31, 3) := by decide +kernel
theorem dX3_setEdge_34 : decode cX3_setEdge 34 = .ok (.iastore, 1) := by decide +kernel
theorem dX3_setEdge_35 : decode cX3_setEdge 35 = .ok (.return_, 1) := by decide +kernel
theorem dX3_edgePart_0 : decode cX3_edgePart 0 = .ok (.iload_n 1, 1) := by decide +kernel
theorem dX3_edgePart_1 : decode cX3_edgePart 1 = .ok (.ifCond .ne 7, 3) := by decide +kernel
theorem dX3_edgePart_4 : decode cX3_edgePart 4 = .ok (.iconst 0, 1) := by decide +kernel
theorem dX3_edgePart_5 : decode cX3_edgePart 5 = .ok (.goto 4, 3) := by decide +kernel
theorem dX3_edgePart_8 : decode cX3_edgePart 8 = .ok (.iconst 1, 1) := by decide +kernel
theorem dX3_edgePart_9 : decode cX3_edgePart 9 = .ok (.istore_n 3, 1) := by decide +kernel
theorem dX3_edgePart_10 : decode cX3_edgePart 10 = .ok (.iload_n 2, 1) := by decide +kernel
theorem dX3_edgePart_11 : decode cX3_edgePart 11 = .ok (.ifCond .ne 12, 3) := by decide +kernel
theorem dX3_edgePart_14 : decode cX3_edgePart 14 = .ok (.aload_n 0, 1) := by decide +kernel
theorem dX3_edgePart_15 : decode cX3_edgePart 15 = .ok (.getfield 9, 3) := by decide +kernel
theorem dX3_edgePart_18 : decode cX3_edgePart 18 = .ok (.iload_n 3, 1) := by decide +kernel
theorem dX3_edgePart_19 : decode cX3_edgePart 19 = .ok (.iaload, 1) := by decide +kernel
theorem dX3_edgePart_20 : decode cX3_edgePart 20 = .ok (.goto 9, 3) := by decide +kernel
theorem dX3_edgePart_23 : decode cX3_edgePart 23 = .ok (.aload_n 0, 1) := by decide +kernel
theorem dX3_edgePart_24 : decode cX3_edgePart 24 = .ok (.getfield 15, 3) := by decide +kernel
theorem dX3_edgePart_27 : decode cX3_edgePart 27 = .ok (.iload_n 3, 1) := by decide +kernel
theorem dX3_edgePart_28 : decode cX3_edgePart 28 = .ok (.iaload, 1) := by decide +kernel
theorem dX3_edgePart_29 : decode cX3_edgePart 29 = .ok (.ireturn, 1) := by decide +kernel
theorem dX3_hasEdgesOf_0 : decode cX3_hasEdgesOf 0 = .ok (.aload_n 0, 1) := by decide +kernel
theorem dX3_hasEdgesOf_1 : decode cX3_hasEdgesOf 1 = .ok (.getfield 9, 3) := by decide +kernel
theorem dX3_hasEdgesOf_4 : decode cX3_hasEdgesOf 4 = .ok (.iconst 0, 1) := by decide +kernel
theorem dX3_hasEdgesOf_5 : decode cX3_hasEdgesOf 5 = .ok (.iaload, 1) := by decide +kernel
theorem dX3_hasEdgesOf_6 : decode cX3_hasEdgesOf 6 = .ok (.aload_n 1, 1) := by decide +kernel
theorem dX3_hasEdgesOf_7 : decode cX3_hasEdgesOf 7 = .ok (.getfield 9, 3) := by decide +kernel
theorem dX3_hasEdgesOf_10 : decode cX3_hasEdgesOf 10 = .ok (.iconst 0, 1) := by decide +kernel
theorem dX3_hasEdgesOf_11 : decode cX3_hasEdgesOf 11 = .ok (.iaload, 1) := by decide +kernel
theorem dX3_hasEdgesOf_12 : decode cX3_hasEdgesOf 12 = .ok (.if_icmp .ne 52, 3) := by decide +kernel
theorem dX3_hasEdgesOf_15 : decode cX3_hasEdgesOf 15 = .ok (.aload_n 0, 1) := by decide +kernel
theorem dX3_hasEdgesOf_16 : decode cX3_hasEdgesOf 16 = .ok (.getfield 15, 3) := by decide +kernel
theorem dX3_hasEdgesOf_19 : decode cX3_hasEdgesOf 19 = .ok (.iconst 0, 1) := by decide +kernel
theorem dX3_hasEdgesOf_20 : decode cX3_hasEdgesOf 20 = .ok (.iaload, 1) := by decide +kernel
theorem dX3_hasEdgesOf_21 : decode cX3_hasEdgesOf 21 = .ok (.aload_n 1, 1) := by decide +kernel
theorem dX3_hasEdgesOf_22 : decode cX3_hasEdgesOf 22 = .ok (.getfield 15, 3) := by decide +kernel
theorem dX3_hasEdgesOf_25 : decode cX3_hasEdgesOf 25 = .ok (.iconst 0, 1) := by decide +kernel
theorem dX3_hasEdgesOf_26 : decode cX3_hasEdgesOf 26 = .ok (.iaload, 1) := by decide +kernel
theorem dX3_hasEdgesOf_27 : decode cX3_hasEdgesOf 27 = .ok (.if_icmp .ne 37, 3) := by decide +kernel
theorem dX3_hasEdgesOf_30 : decode cX3_hasEdgesOf 30 = .ok (.aload_n 0, 1) := by decide +kernel
theorem dX3_hasEdgesOf_31 : decode cX3_hasEdgesOf 31 = .ok (.getfield 9, 3) := by decide +kernel
theorem dX3_hasEdgesOf_34 : decode cX3_hasEdgesOf 34 = .ok (.iconst 1, 1) := by decide +kernel
theorem dX3_hasEdgesOf_35 : decode cX3_hasEdgesOf 35 = .ok (.iaload, 1) := by decide +kernel
theorem dX3_hasEdgesOf_36 : decode cX3_hasEdgesOf 36 = .ok (.aload_n 1, 1) := by decide +kernel
theorem dX3_hasEdgesOf_37 : decode cX3_hasEdgesOf 37 = .ok (.getfield 9, 3) := by decide +kernel
theorem dX3_hasEdgesOf_40 : decode cX3_hasEdgesOf 40 = .ok (.iconst 1, 1) := by decide +kernel
theorem dX3_hasEdgesOf_41 : decode cX3_hasEdgesOf 41 = .ok (.iaload, 1) := by decide +kernel
theorem dX3_hasEdgesOf_42 : decode cX3_hasEdgesOf 42 = .ok (.if_icmp .ne 22, 3) := by decide +kernel
theorem dX3_hasEdgesOf_45 : decode cX3_hasEdgesOf 45 = .ok (.aload_n 0, 1) := by decide +kernel
theorem dX3_hasEdgesOf_46 : decode cX3_hasEdgesOf 46 = .ok (.getfield 15, 3) := by decide +kernel
theorem dX3_hasEdgesOf_49 : decode cX3_hasEdgesOf 49 = .ok (.iconst 1, 1) := by decide +kernel
theorem dX3_hasEdgesOf_50 : decode cX3_hasEdgesOf 50 = .ok (.iaload, 1) := by decide +kernel
theorem dX3_hasEdgesOf_51 : decode cX3_hasEdgesOf 51 = .ok (.aload_n 1, 1) := by decide +kernel
theorem dX3_hasEdgesOf_52 : decode cX3_hasEdgesOf 52 = .ok (.getfield 15, 3) := by decide +kernel
theorem dX3_hasEdgesOf_55 : decode cX3_hasEdgesOf 55 = .ok (.iconst 1, 1) := by decide +kernel
theorem dX3_hasEdgesOf_56 : decode cX3_hasEdgesOf 56 = .ok (.iaload, 1) := by decide +kernel
theorem dX3_hasEdgesOf_57 : decode cX3_hasEdgesOf 57 = .ok (.if_icmp .ne 7, 3) := by decide +kernel
theorem dX3_hasEdgesOf_60 : decode cX3_hasEdgesOf 60 = .ok (.iconst 1, 1) := by decide +kernel
theorem dX3_hasEdgesOf_61 : decode cX3_hasEdgesOf 61 = .ok (.goto 4, 3) := by decide +kernel
theorem dX3_hasEdgesOf_64 : decode cX3_hasEdgesOf 64 = .ok (.iconst 0, 1) := by decide +kernel
theorem dX3_hasEdgesOf_65 : decode cX3_hasEdgesOf 65 = .ok (.ireturn, 1) := by decide +kernel
set_option maxRecDepth 20000 in
theorem ggX3_insert_X3_moveLayer : GoodIn wsX3_insert wsX3_moveLayer := goodIn_r _ [9, 2, 3, 4, 13, 14, 15, 16, 17, 18] rfl rfl
set_option maxRecDepth 20000 in
theorem gX3_insert_X3_moveLayer : GoodIn wsX3_insert (wsV RX3 35 RX3 yX3_moveLayer wsX3_moveLayer) := goodIn_app (goodIn_r _ [5, 6, 7, 8] rfl rfl) ggX3_insert_X3_moveLayer
set_option maxRecDepth 20000 in
theorem ggX3_insert_X3_lowest : GoodIn wsX3_insert wsX3_lowest := goodIn_r _ [12] rfl rfl
set_option maxRecDepth 20000 in
theorem gX3_insert_X3_lowest : GoodIn wsX3_insert (va_wsS RX3 31 yX3_lowest wsX3_lowest) := goodIn_app (goodIn_r _ [10, 11, 8] rfl rfl) ggX3_insert_X3_lowest
theorem dX3_insert_0 : decode cX3_insert 0 = .ok (.aload_n 0, 1) := by decide +kernel
theorem dX3_insert_1 : decode cX3_insert 1 = .ok (.getfield 27, 3) := by decide +kernel
theorem dX3_insert_4 : decode cX3_insert 4 = .ok (.bipush 6, 2) := by decide +kernel
theorem dX3_insert_6 : decode cX3_insert 6 = .ok (.if_icmp .ge 15, 3) := by decide +kernel
theorem dX3_insert_9 : decode cX3_insert 9 = .ok (.iload_n 1, 1) := by decide +kernel
theorem dX3_insert_10 : decode cX3_insert 10 = .ok (.ifCond .lt 11, 3) := by decide +kernel
theorem dX3_insert_13 : decode cX3_insert 13 = .ok (.iload_n 1, 1) := by decide +kernel
theorem dX3_insert_14 : decode cX3_insert 14 = .ok (.aload_n 0, 1) := by decide +kernel
theorem dX3_insert_15 : decode cX3_insert 15 = .ok (.getfield 27, 3) := by decide +kernel
theorem dX3_insert_18 : decode cX3_insert 18 = .ok (.if_icmp .le 5, 3) := by decide +kernel
theorem dX3_insert_21 : decode cX3_insert 21 = .ok (.iconst 0, 1) := by decide +kernel
theorem dX3_insert_22 : decode cX3_insert 22 = .ok (.ireturn, 1) := by decide +kernel
theorem dX3_insert_23 : decode cX3_insert 23 = .ok (.aload_n 0, 1) := by decide +kernel
theorem dX3_insert_24 : decode cX3_insert 24 = .ok (.getfield 27, 3) := by decide +kernel
theorem dX3_insert_27 : decode cX3_insert 27 = .ok (.istore 5, 2) := by decide +kernel
theorem dX3_insert_29 : decode cX3_insert 29 = .ok (.iload 5, 2) := by decide +kernel
theorem dX3_insert_31 : decode cX3_insert 31 = .ok (.iload_n 1, 1) := by decide +kernel
theorem dX3_insert_32 : decode cX3_insert 32 = .ok (.if_icmp .le 19, 3) := by decide +kernel
theorem dX3_insert_35 : decode cX3_insert 35 = .ok (.aload_n 0, 1) := by decide +kernel
theorem dX3_insert_36 : decode cX3_insert 36 = .ok (.iload 5, 2) := by decide +kernel
theorem dX3_insert_38 : decode cX3_insert 38 = .ok (.iconst 1, 1) := by decide +kernel
theorem dX3_insert_39 : decode cX3_insert 39 = .ok (.isub, 1) := by decide +kernel
theorem dX3_insert_40 : decode cX3_insert 40 = .ok (.iload 5, 2) := by decide +kernel
theorem dX3_insert_42 : decode cX3_insert 42 = .ok (.invokevirtual 35, 3) := by decide +kernel
theorem dX3_insert_45 : decode cX3_insert 45 = .ok (.iinc 5 (-1), 3) := by decide +kernel
theorem dX3_insert_48 : decode cX3_insert 48 = .ok (.goto (-19), 3) := by decide +kernel
theorem dX3_insert_51 : decode cX3_insert 51 = .ok (.aload_n 0, 1) := by decide +kernel
theorem dX3_insert_52 : decode cX3_insert 52 = .ok (.getfield 18, 3) := by decide +kernel
theorem dX3_insert_55 : decode cX3_insert 55 = .ok (.iload_n 1, 1) := by decide +kernel
theorem dX3_insert_56 : decode cX3_insert 56 = .ok (.iload_n 2, 1) := by decide +kernel
theorem dX3_insert_57 : decode cX3_insert 57 = .ok (.iload_n 3, 1) := by decide +kernel
theorem dX3_insert_58 : decode cX3_insert 58 = .ok (.invokestatic 31, 3) := by decide +kernel
theorem dX3_insert_61 : decode cX3_insert 61 = .ok (.iastore, 1) := by decide +kernel
theorem dX3_insert_62 : decode cX3_insert 62 = .ok (.aload_n 0, 1) := by decide +kernel
theorem dX3_insert_63 : decode cX3_insert 63 = .ok (.getfield 21, 3) := by decide +kernel
theorem dX3_insert_66 : decode cX3_insert 66 = .ok (.iload_n 1, 1) := by decide +kernel
theorem dX3_insert_67 : decode cX3_insert 67 = .ok (.iload_n 3, 1) := by decide +kernel
theorem dX3_insert_68 : decode cX3_insert 68 = .ok (.iload_n 2, 1) := by decide +kernel
theorem dX3_insert_69 : decode cX3_insert 69 = .ok (.invokestatic 31, 3) := by decide +kernel
theorem dX3_insert_72 : decode cX3_insert 72 = .ok (.iastore, 1) := by decide +kernel
theorem dX3_insert_73 : decode cX3_insert 73 = .ok (.aload_n 0, 1) := by decide +kernel
theorem dX3_insert_74 : decode cX3_insert 74 = .ok (.getfield 24, 3) := by decide +kernel
theorem dX3_insert_77 : decode cX3_insert 77 = .ok (.iload_n 1, 1) := by decide +kernel
theorem dX3_insert_78 : decode cX3_insert 78 = .ok (.iload 4, 2) := by decide +kernel
theorem dX3_insert_80 : decode cX3_insert 80 = .ok (.iastore, 1) := by decide +kernel
theorem dX3_insert_81 : decode cX3_insert 81 = .ok (.aload_n 0, 1) := by decide +kernel
theorem dX3_insert_82 : decode cX3_insert 82 = .ok (.dup, 1) := by decide +kernel
theorem dX3_insert_83 : decode cX3_insert 83 = .ok (.getfield 27, 3) := by decide +kernel
theorem dX3_insert_86 : decode cX3_insert 86 = .ok (.iconst 1, 1) := by decide +kernel
theorem dX3_insert_87 : decode cX3_insert 87 = .ok (.iadd, 1) := by decide +kernel
theorem dX3_insert_88 : decode cX3_insert 88 = .ok (.putfield 27, 3) := by decide +kernel
theorem dX3_insert_91 : decode cX3_insert 91 = .ok (.iconst 1, 1) := by decide +kernel
theorem dX3_insert_92 : decode cX3_insert 92 = .ok (.ireturn, 1) := by decide +kernel
set_option maxRecDepth 20000 in
theorem ggX3_remove_X3_moveLayer : GoodIn wsX3_remove wsX3_moveLayer := goodIn_r _ [6, 7, 8, 9, 10, 11, 12, 13, 14, 15] rfl rfl
set_option maxRecDepth 20000 in
theorem gX3_remove_X3_moveLayer : GoodIn wsX3_remove (wsV RX3 35 RX3 yX3_moveLayer wsX3_moveLayer) := goodIn_app (goodIn_r _ [2, 3, 4, 5] rfl rfl) ggX3_remove_X3_moveLayer
theorem dX3_remove_0 : decode cX3_remove 0 = .ok (.iload_n 1, 1) := by decide +kernel
theorem dX3_remove_1 : decode cX3_remove 1 = .ok (.ifCond .lt 11, 3) := by decide +kernel
theorem dX3_remove_4 : decode cX3_remove 4 = .ok (.iload_n 1, 1) := by decide +kernel
theorem dX3_remove_5 : decode cX3_remove 5 = .ok (.aload_n 0, 1) := by decide +kernel
theorem dX3_remove_6 : decode cX3_remove 6 = .ok (.getfield 27, 3) := by decide +kernel
theorem dX3_remove_9 : decode cX3_remove 9 = .ok (.if_icmp .lt 4, 3) := by decide +kernel
theorem dX3_remove_12 : decode cX3_remove 12 = .ok (.return_, 1) := by decide +kernel
theorem dX3_remove_13 : decode cX3_remove 13 = .ok (.aload_n 0, 1) := by decide +kernel
theorem dX3_remove_14 : decode cX3_remove 14 = .ok (.dup, 1) := by decide +kernel
theorem dX3_remove_15 : decode cX3_remove 15 = .ok (.getfield 27, 3) := by decide +kernel
theorem dX3_remove_18 : decode cX3_remove 18 = .ok (.iconst 1, 1) := by decide +kernel
theorem dX3_remove_19 : decode cX3_remove 19 = .ok (.isub, 1) := by decide +kernel
theorem dX3_remove_20 : decode cX3_remove 20 = .ok (.putfield 27, 3) := by decide +kernel
theorem dX3_remove_23 : decode cX3_remove 23 = .ok (.iload_n 1, 1) := by decide +kernel
theorem dX3_remove_24 : decode cX3_remove 24 = .ok (.istore_n 2, 1) := by decide +kernel
theorem dX3_remove_25 : decode cX3_remove 25 = .ok (.iload_n 2, 1) := by decide +kernel
theorem dX3_remove_26 : decode cX3_remove 26 = .ok (.aload_n 0, 1) := by decide +kernel
theorem dX3_remove_27 : decode cX3_remove 27 = .ok (.getfield 27, 3) := by decide +kernel
theorem dX3_remove_30 : decode cX3_remove 30 = .ok (.if_icmp .ge 17, 3) := by decide +kernel
theorem dX3_remove_33 : decode cX3_remove 33 = .ok (.aload_n 0, 1) := by decide +kernel
theorem dX3_remove_34 : decode cX3_remove 34 = .ok (.iload_n 2, 1) := by decide +kernel
theorem dX3_remove_35 : decode cX3_remove 35 = .ok (.iconst 1, 1) := by decide +kernel
theorem dX3_remove_36 : decode cX3_remove 36 = .ok (.iadd, 1) := by decide +kernel
theorem dX3_remove_37 : decode cX3_remove 37 = .ok (.iload_n 2, 1) := by decide +kernel
theorem dX3_remove_38 : decode cX3_remove 38 = .ok (.invokevirtual 35, 3) := by decide +kernel
theorem dX3_remove_41 : decode cX3_remove 41 = .ok (.iinc 2 1, 3) := by decide +kernel
theorem dX3_remove_44 : decode cX3_remove 44 = .ok (.goto (-19), 3) := by decide +kernel
theorem dX3_remove_47 : decode cX3_remove 47 = .ok (.return_, 1) := by decide +kernel
theorem dX3_removeAll_0 : decode cX3_removeAll 0 = .ok (.aload_n 0, 1) := by decide +kernel
theorem dX3_removeAll_1 : decode cX3_removeAll 1 = .ok (.iconst 0, 1) := by decide +kernel
theorem dX3_removeAll_2 : decode cX3_removeAll 2 = .ok (.putfield 27, 3) := by decide +kernel
theorem dX3_removeAll_5 : decode cX3_removeAll 5 = .ok (.return_, 1) := by decide +kernel
theorem dX3_layerPart_0 : decode cX3_layerPart 0 = .ok (.iload_n 1, 1) := by decide +kernel
theorem dX3_layerPart_1 : decode cX3_layerPart 1 = .ok (.ifCond .lt 11, 3) := by decide +kernel
theorem dX3_layerPart_4 : decode cX3_layerPart 4 = .ok (.iload_n 1, 1) := by decide +kernel
theorem dX3_layerPart_5 : decode cX3_layerPart 5 = .ok (.aload_n 0, 1) := by decide +kernel
theorem dX3_layerPart_6 : decode cX3_layerPart 6 = .ok (.getfield 27, 3) := by decide +kernel
theorem dX3_layerPart_9 : decode cX3_layerPart 9 = .ok (.if_icmp .lt 5, 3) := by decide +kernel
theorem dX3_layerPart_12 : decode cX3_layerPart 12 = .ok (.iconst 0, 1) := by decide +kernel
theorem dX3_layerPart_13 : decode cX3_layerPart 13 = .ok (.ireturn, 1) := by decide +kernel
theorem dX3_layerPart_14 : decode cX3_layerPart 14 = .ok (.iload_n 2, 1) := by decide +kernel
theorem dX3_layerPart_15 : decode cX3_layerPart 15 = .ok (.ifCond .ne 10, 3) := by decide +kernel
theorem dX3_layerPart_18 : decode cX3_layerPart 18 = .ok (.aload_n 0, 1) := by decide +kernel
theorem dX3_layerPart_19 : decode cX3_layerPart 19 = .ok (.getfield 18, 3) := by decide +kernel
theorem dX3_layerPart_22 : decode cX3_layerPart 22 = .ok (.iload_n 1, 1) := by decide +kernel
theorem dX3_layerPart_23 : decode cX3_layerPart 23 = .ok (.iaload, 1) := by decide +kernel
theorem dX3_layerPart_24 : decode cX3_layerPart 24 = .ok (.ireturn, 1) := by decide +kernel
theorem dX3_layerPart_25 : decode cX3_layerPart 25 = .ok (.iload_n 2, 1) := by decide +kernel
theorem dX3_layerPart_26 : decode cX3_layerPart 26 = .ok (.iconst 1, 1) := by decide +kernel
theorem dX3_layerPart_27 : decode cX3_layerPart 27 = .ok (.if_icmp .ne 12, 3) := by decide +kernel
theorem dX3_layerPart_30 : decode cX3_layerPart 30 = .ok (.aload_n 0, 1) := by decide +kernel
theorem dX3_layerPart_31 : decode cX3_layerPart 31 = .ok (.getfield 21, 3) := by decide +kernel
theorem dX3_layerPart_34 : decode cX3_layerPart 34 = .ok (.iload_n 1, 1) := by decide +kernel
theorem dX3_layerPart_35 : decode cX3_layerPart 35 = .ok (.iaload, 1) := by decide +kernel
theorem dX3_layerPart_36 : decode cX3_layerPart 36 = .ok (.goto 9, 3) := by decide +kernel
theorem dX3_layerPart_39 : decode cX3_layerPart 39 = .ok (.aload_n 0, 1) := by decide +kernel
theorem dX3_layerPart_40 : decode cX3_layerPart 40 = .ok (.getfield 24, 3) := by decide +kernel
theorem dX3_layerPart_43 : decode cX3_layerPart 43 = .ok (.iload_n 1, 1) := by decide +kernel
theorem dX3_layerPart_44 : decode cX3_layerPart 44 = .ok (.iaload, 1) := by decide +kernel
theorem dX3_layerPart_45 : decode cX3_layerPart 45 = .ok (.ireturn, 1) := by decide +kernel
set_option maxRecDepth 20000 in
theorem ggX3_reverse_X3_swap : GoodIn wsX3_reverse wsX3_swap := goodIn_r _ [10] rfl rfl
set_option maxRecDepth 20000 in
theorem gX3_reverse_X3_swap : GoodIn wsX3_reverse (va_wsS RX3 39 yX3_swap wsX3_swap) := goodIn_app (goodIn_r _ [7, 8, 9] rfl rfl) ggX3_reverse_X3_swap
theorem dX3_reverse_0 : decode cX3_reverse 0 = .ok (.aload_n 0, 1) := by decide +kernel
theorem dX3_reverse_1 : decode cX3_reverse 1 = .ok (.getfield 9, 3) := by decide +kernel
theorem dX3_reverse_4 : decode cX3_reverse 4 = .ok (.iconst 0, 1) := by decide +kernel
theorem dX3_reverse_5 : decode cX3_reverse 5 = .ok (.iconst 1, 1) := by decide +kernel
theorem dX3_reverse_6 : decode cX3_reverse 6 = .ok (.invokestatic 39, 3) := by decide +kernel
theorem dX3_reverse_9 : decode cX3_reverse 9 = .ok (.aload_n 0, 1) := by decide +kernel
theorem dX3_reverse_10 : decode cX3_reverse 10 = .ok (.getfield 15, 3) := by decide +kernel
theorem dX3_reverse_13 : decode cX3_reverse 13 = .ok (.iconst 0, 1) := by decide +kernel
theorem dX3_reverse_14 : decode cX3_reverse 14 = .ok (.iconst 1, 1) := by decide +kernel
theorem dX3_reverse_15 : decode cX3_reverse 15 = .ok (.invokestatic 39, 3) := by decide +kernel
theorem dX3_reverse_18 : decode cX3_reverse 18 = .ok (.iconst 0, 1) := by decide +kernel
theorem dX3_reverse_19 : decode cX3_reverse 19 = .ok (.istore_n 1, 1) := by decide +kernel
theorem dX3_reverse_20 : decode cX3_reverse 20 = .ok (.aload_n 0, 1) := by decide +kernel
theorem dX3_reverse_21 : decode cX3_reverse 21 = .ok (.getfield 27, 3) := by decide +kernel
theorem dX3_reverse_24 : decode cX3_reverse 24 = .ok (.iconst 1, 1) := by decide +kernel
theorem dX3_reverse_25 : decode cX3_reverse 25 = .ok (.isub, 1) := by decide +kernel
theorem dX3_reverse_26 : decode cX3_reverse 26 = .ok (.istore_n 2, 1) := by decide +kernel
theorem dX3_reverse_27 : decode cX3_reverse 27 = .ok (.iload_n 1, 1) := by decide +kernel
theorem dX3_reverse_28 : decode cX3_reverse 28 = .ok (.iload_n 2, 1) := by decide +kernel
theorem dX3_reverse_29 : decode cX3_reverse 29 = .ok (.if_icmp .ge 39, 3) := by decide +kernel
theorem dX3_reverse_32 : decode cX3_reverse 32 = .ok (.aload_n 0, 1) := by decide +kernel
theorem dX3_reverse_33 : decode cX3_reverse 33 = .ok (.getfield 18, 3) := by decide +kernel
theorem dX3_reverse_36 : decode cX3_reverse 36 = .ok (.iload_n 1, 1) := by decide +kernel
theorem dX3_reverse_37 : decode cX3_reverse 37 = .ok (.iload_n 2, 1) := by decide +kernel
theorem dX3_reverse_38 : decode cX3_reverse 38 = .ok (.invokestatic 39, 3) := by decide +kernel
theorem dX3_reverse_41 : decode cX3_reverse 41 = .ok (.aload_n 0, 1) := by decide +kernel
theorem dX3_reverse_42 : decode cX3_reverse 42 = .ok (.getfield 21, 3) := by decide +kernel
theorem dX3_reverse_45 : decode cX3_reverse 45 = .ok (.iload_n 1, 1) := by decide +kernel
theorem dX3_reverse_46 : decode cX3_reverse 46 = .ok (.iload_n 2, 1) := by decide +kernel
theorem dX3_reverse_47 : decode cX3_reverse 47 = .ok (.invokestatic 39, 3) := by decide +kernel
theorem dX3_reverse_50 : decode cX3_reverse 50 = .ok (.aload_n 0, 1) := by decide +kernel
theorem dX3_reverse_51 : decode cX3_reverse 51 = .ok (.getfield 24, 3) := by decide +kernel
theorem dX3_reverse_54 : decode cX3_reverse 54 = .ok (.iload_n 1, 1) := by decide +kernel
theorem dX3_reverse_55 : decode cX3_reverse 55 = .ok (.iload_n 2, 1) := by decide +kernel
theorem dX3_reverse_56 : decode cX3_reverse 56 = .ok (.invokestatic 39, 3) := by decide +kernel
theorem dX3_reverse_59 : decode cX3_reverse 59 = .ok (.iinc 1 1, 3) := by decide +kernel
theorem dX3_reverse_62 : decode cX3_reverse 62 = .ok (.iinc 2 (-1), 3) := by decide +kernel
theorem dX3_reverse_65 : decode cX3_reverse 65 = .ok (.goto (-38), 3) := by decide +kernel
theorem dX3_reverse_68 : decode cX3_reverse 68 = .ok (.return_, 1) := by decide +kernel
theorem dX3_becomeLike_0 : decode cX3_becomeLike 0 = .ok (.aload_n 1, 1) := by decide +kernel
theorem dX3_becomeLike_1 : decode cX3_becomeLike 1 = .ok (.getfield 9, 3) := by decide +kernel
theorem dX3_becomeLike_4 : decode cX3_becomeLike 4 = .ok (.iconst 0, 1) := by decide +kernel
theorem dX3_becomeLike_5 : decode cX3_becomeLike 5 = .ok (.aload_n 0, 1) := by decide +kernel
theorem dX3_becomeLike_6 : decode cX3_becomeLike 6 = .ok (.getfield 9, 3) := by decide +kernel
theorem dX3_becomeLike_9 : decode cX3_becomeLike 9 = .ok (.iconst 0, 1) := by decide +kernel
theorem dX3_becomeLike_10 : decode cX3_becomeLike 10 = .ok (.iconst 2, 1) := by decide +kernel
theorem dX3_becomeLike_11 : decode cX3_becomeLike 11 = .ok (.invokestatic 43, 3) := by decide +kernel
theorem dX3_becomeLike_14 : decode cX3_becomeLike 14 = .ok (.aload_n 1, 1) := by decide +kernel
theorem dX3_becomeLike_15 : decode cX3_becomeLike 15 = .ok (.getfield 15, 3) := by decide +kernel
theorem dX3_becomeLike_18 : decode cX3_becomeLike 18 = .ok (.iconst 0, 1) := by decide +kernel
theorem dX3_becomeLike_19 : decode cX3_becomeLike 19 = .ok (.aload_n 0, 1) := by decide +kernel
theorem dX3_becomeLike_20 : decode cX3_becomeLike 20 = .ok (.getfield 15, 3) := by decide +kernel
theorem dX3_becomeLike_23 : decode cX3_becomeLike 23 = .ok (.iconst 0, 1) := by decide +kernel
theorem dX3_becomeLike_24 : decode cX3_becomeLike 24 = .ok (.iconst 2, 1) := by decide +kernel
theorem dX3_becomeLike_25 : decode cX3_becomeLike 25 = .ok (.invokestatic 43, 3) := by decide +kernel
theorem dX3_becomeLike_28 : decode cX3_becomeLike 28 = .ok (.aload_n 1, 1) := by decide +kernel
theorem dX3_becomeLike_29 : decode cX3_becomeLike 29 = .ok (.getfield 18, 3) := by decide +kernel
theorem dX3_becomeLike_32 : decode cX3_becomeLike 32 = .ok (.iconst 0, 1) := by decide +kernel
theorem dX3_becomeLike_33 : decode cX3_becomeLike 33 = .ok (.aload_n 0, 1) := by decide +kernel
theorem dX3_becomeLike_34 : decode cX3_becomeLike 34 = .ok (.getfield 18, 3) := by decide +kernel
theorem dX3_becomeLike_37 : decode cX3_becomeLike 37 = .ok (.iconst 0, 1) := by decide +kernel
theorem dX3_becomeLike_38 : decode cX3_becomeLike 38 = .ok (.bipush 6, 2) := by decide +kernel
theorem dX3_becomeLike_40 : decode cX3_becomeLike 40 = .ok (.invokestatic 43, 3) := by decide +kernel
theorem dX3_becomeLike_43 : decode cX3_becomeLike 43 = .ok (.aload_n 1, 1) := by decide +kernel
theorem dX3_becomeLike_44 : decode cX3_becomeLike 44 = .ok (.getfield 21, 3) := by decide +kernel
theorem dX3_becomeLike_47 : decode cX3_becomeLike 47 = .ok (.iconst 0, 1) := by decide +kernel
theorem dX3_becomeLike_48 : decode cX3_becomeLike 48 = .ok (.aload_n 0, 1) := by decide +kernel
theorem dX3_becomeLike_49 : decode cX3_becomeLike 49 = .ok (.getfield 21, 3) := by decide +kernel
theorem dX3_becomeLike_52 : decode cX3_becomeLike 52 = .ok (.iconst 0, 1) := by decide +kernel
theorem dX3_becomeLike_53 : decode cX3_becomeLike 53 = .ok (.bipush 6, 2) := by decide +kernel
theorem dX3_becomeLike_55 : decode cX3_becomeLike 55 = .ok (.invokestatic 43, 3) := by decide +kernel
theorem dX3_becomeLike_58 : decode cX3_becomeLike 58 = .ok (.aload_n 1, 1) := by decide +kernel
theorem dX3_becomeLike_59 : decode cX3_becomeLike 59 = .ok (.getfield 24, 3) := by decide +kernel
theorem dX3_becomeLike_62 : decode cX3_becomeLike 62 = .ok (.iconst 0, 1) := by decide +kernel
theorem dX3_becomeLike_63 : decode cX3_becomeLike 63 = .ok (.aload_n 0, 1) := by decide +kernel
theorem dX3_becomeLike_64 : decode cX3_becomeLike 64 = .ok (.getfield 24, 3) := by decide +kernel
theorem dX3_becomeLike_67 : decode cX3_becomeLike 67 = .ok (.iconst 0, 1) := by decide +kernel
theorem dX3_becomeLike_68 : decode cX3_becomeLike 68 = .ok (.bipush 6, 2) := by decide +kernel
theorem dX3_becomeLike_70 : decode cX3_becomeLike 70 = .ok (.invokestatic 43, 3) := by decide +kernel
theorem dX3_becomeLike_73 : decode cX3_becomeLike 73 = .ok (.aload_n 0, 1) := by decide +kernel
theorem dX3_becomeLike_74 : decode cX3_becomeLike 74 = .ok (.aload_n 1, 1) := by decide +kernel
theorem dX3_becomeLike_75 : decode cX3_becomeLike 75 = .ok (.getfield 27, 3) := by decide +kernel
theorem dX3_becomeLike_78 : decode cX3_becomeLike 78 = .ok (.putfield 27, 3) := by decide +kernel
theorem dX3_becomeLike_81 : decode cX3_becomeLike 81 = .ok (.return_, 1) := by decide +kernel
theorem dX3_moveLayer_0 : decode cX3_moveLayer 0 = .ok (.iload_n 1, 1) := by decide +kernel
theorem dX3_moveLayer_1 : decode cX3_moveLayer 1 = .ok (.ifCond .lt 19, 3) := by decide +kernel
theorem dX3_moveLayer_4 : decode cX3_moveLayer 4 = .ok (.iload_n 1, 1) := by decide +kernel
theorem dX3_moveLayer_5 : decode cX3_moveLayer 5 = .ok (.bipush 6, 2) := by decide +kernel
theorem dX3_moveLayer_7 : decode cX3_moveLayer 7 = .ok (.if_icmp .ge 13, 3) := by decide +kernel
theorem dX3_moveLayer_10 : decode cX3_moveLayer 10 = .ok (.iload_n 2, 1) := by decide +kernel
theorem dX3_moveLayer_11 : decode cX3_moveLayer 11 = .ok (.ifCond .lt 9, 3) := by decide +kernel
theorem dX3_moveLayer_14 : decode cX3_moveLayer 14 = .ok (.iload_n 2, 1) := by decide +kernel
theorem dX3_moveLayer_15 : decode cX3_moveLayer 15 = .ok (.bipush 6, 2) := by decide +kernel
theorem dX3_moveLayer_17 : decode cX3_moveLayer 17 = .ok (.if_icmp .lt 4, 3) := by decide +kernel
theorem dX3_moveLayer_20 : decode cX3_moveLayer 20 = .ok (.return_, 1) := by decide +kernel
theorem dX3_moveLayer_21 : decode cX3_moveLayer 21 = .ok (.aload_n 0, 1) := by decide +kernel
theorem dX3_moveLayer_22 : decode cX3_moveLayer 22 = .ok (.getfield 18, 3) := by decide +kernel
theorem dX3_moveLayer_25 : decode cX3_moveLayer 25 = .ok (.iload_n 2, 1) := by decide +kernel
theorem dX3_moveLayer_26 : decode cX3_moveLayer 26 = .ok (.aload_n 0, 1) := by decide +kernel
theorem dX3_moveLayer_27 : decode cX3_moveLayer 27 = .ok (.getfield 18, 3) := by decide +kernel
theorem dX3_moveLayer_30 : decode cX3_moveLayer 30 = .ok (.iload_n 1, 1) := by decide +kernel
theorem dX3_moveLayer_31 : decode cX3_moveLayer 31 = .ok (.iaload, 1) := by decide +kernel
theorem dX3_moveLayer_32 : decode cX3_moveLayer 32 = .ok (.iastore, 1) := by decide +kernel
theorem dX3_moveLayer_33 : decode cX3_moveLayer 33 = .ok (.aload_n 0, 1) := by decide +kernel
theorem dX3_moveLayer_34 : decode cX3_moveLayer 34 = .ok (.getfield 21, 3) := by decide +kernel
theorem dX3_moveLayer_37 : decode cX3_moveLayer 37 = .ok (.iload_n 2, 1) := by decide +kernel
theorem dX3_moveLayer_38 : decode cX3_moveLayer 38 = .ok (.aload_n 0, 1) := by decide +kernel
theorem dX3_moveLayer_39 : decode cX3_moveLayer 39 = .ok (.getfield 21, 3) := by decide +kernel
theorem dX3_moveLayer_42 : decode cX3_moveLayer 42 = .ok (.iload_n 1, 1) := by decide +kernel
theorem dX3_moveLayer_43 : decode cX3_moveLayer 43 = .ok (.iaload, 1) := by decide +kernel
theorem dX3_moveLayer_44 : decode cX3_moveLayer 44 = .ok (.iastore, 1) := by decide +kernel
theorem dX3_moveLayer_45 : decode cX3_moveLayer 45 = .ok (.aload_n 0, 1) := by decide +kernel
theorem dX3_moveLayer_46 : decode cX3_moveLayer 46 = .ok (.getfield 24, 3) := by decide +kernel
theorem dX3_moveLayer_49 : decode cX3_moveLayer 49 = .ok (.iload_n 2, 1) := by decide +kernel
theorem dX3_moveLayer_50 : decode cX3_moveLayer 50 = .ok (.aload_n 0, 1) := by decide +kernel
theorem dX3_moveLayer_51 : decode cX3_moveLayer 51 = .ok (.getfield 24, 3) := by decide +kernel
