set_option maxRecDepth 20000 in
theorem ggL_edge_X5_edge : GoodIn wsL_edge wsX5_edge := goodIn_ca (goodIn_ca (goodIn_r _ [7, 8, 9, 10, 11, 12, 6, 13, 14, 15, 16, 17, 18, 19, 20, 21, 22, 23, 24, 25, 26, 27, 28, 29, 30, 31, 32, 33, 34, 35, 36, 37, 38, 39, 40, 41, 42, 43, 44, 45, 46, 47, 48, 49, 50, 51] (by decide +kernel) (by decide +kernel)) (goodIn_sub (fun _ h => List.mem_cons_of_mem _ (List.mem_append_left _ (List.mem_append_right _ h))) (by decide +kernel))) (goodIn_sub (fun _ h => List.mem_cons_of_mem _ (List.mem_append_right _ h)) (by decide +kernel))
set_option maxRecDepth 20000 in
theorem gL_edge_X5_edge : GoodIn wsL_edge (wsV RL 7 RX5 yX5_edge wsX5_edge) := goodIn_app (goodIn_r _ [3, 4, 5, 6] rfl rfl) ggL_edge_X5_edge
theorem dL_edge_0 : decode cL_edge 0 = .ok (.aload_n 0, 1) := by decide +kernel
theorem dL_edge_1 : decode cL_edge 1 = .ok (.iload_n 1, 1) := by decide +kernel
theorem dL_edge_2 : decode cL_edge 2 = .ok (.iload_n 2, 1) := by decide +kernel
theorem dL_edge_3 : decode cL_edge 3 = .ok (.iload_n 3, 1) := by decide +kernel
theorem dL_edge_4 : decode cL_edge 4 = .ok (.iload 4, 2) := by decide +kernel
theorem dL_edge_6 : decode cL_edge 6 = .ok (.invokevirtual 7, 3) := by decide +kernel
theorem dL_edge_9 : decode cL_edge 9 = .ok (.goto 11, 3) := by decide +kernel
theorem dL_edge_12 : decode cL_edge 12 = .ok (.astore 5, 2) := by decide +kernel
theorem dL_edge_14 : decode cL_edge 14 = .ok (.iconst 1, 1) := by decide +kernel
theorem dL_edge_15 : decode cL_edge 15 = .ok (.ireturn, 1) := by decide +kernel
theorem dL_edge_16 : decode cL_edge 16 = .ok (.astore 5, 2) := by decide +kernel
theorem dL_edge_18 : decode cL_edge 18 = .ok (.iconst 2, 1) := by decide +kernel
theorem dL_edge_19 : decode cL_edge 19 = .ok (.ireturn, 1) := by decide +kernel
theorem dL_edge_20 : decode cL_edge 20 = .ok (.iconst 0, 1) := by decide +kernel
theorem dL_edge_21 : decode cL_edge 21 = .ok (.ireturn, 1) := by decide +kernel
set_option maxRecDepth 20000 in
theorem ggL_layer_X5_layer : GoodIn wsL_layer wsX5_layer := goodIn_ca (goodIn_ca (goodIn_r _ [7, 8, 9, 10, 11, 12, 13, 6, 14, 15, 16, 17, 18, 19, 20, 21, 22, 23, 24, 25, 26, 27, 28, 29, 30, 31, 32, 33, 34, 35, 36, 37, 38, 39, 40, 41, 42, 43, 44, 45, 46, 47, 48, 49, 50, 51, 52, 53, 54, 55, 56, 57, 58] (by decide +kernel) (by decide +kernel)) (goodIn_sub (fun _ h => List.mem_cons_of_mem _ (List.mem_append_left _ (List.mem_append_right _ h))) (by decide +kernel))) (goodIn_sub (fun _ h => List.mem_cons_of_mem _ (List.mem_append_right _ h)) (by decide +kernel))
set_option maxRecDepth 20000 in
theorem gL_layer_X5_layer : GoodIn wsL_layer (wsV RL 17 RX5 yX5_layer wsX5_layer) := goodIn_app (goodIn_r _ [3, 4, 5, 6] rfl rfl) ggL_layer_X5_layer
theorem dL_layer_0 : decode cL_layer 0 = .ok (.aload 6, 2) := by decide +kernel
theorem dL_layer_2 : decode cL_layer 2 = .ok (.iconst 0, 1) := by decide +kernel
theorem dL_layer_3 : decode cL_layer 3 = .ok (.aload_n 0, 1) := by decide +kernel
theorem dL_layer_4 : decode cL_layer 4 = .ok (.iload_n 1, 1) := by decide +kernel
theorem dL_layer_5 : decode cL_layer 5 = .ok (.iload_n 2, 1) := by decide +kernel
theorem dL_layer_6 : decode cL_layer 6 = .ok (.iload_n 3, 1) := by decide +kernel
theorem dL_layer_7 : decode cL_layer 7 = .ok (.iload 4, 2) := by decide +kernel
theorem dL_layer_9 : decode cL_layer 9 = .ok (.iload 5, 2) := by decide +kernel
theorem dL_layer_11 : decode cL_layer 11 = .ok (.invokevirtual 17, 3) := by decide +kernel
theorem dL_layer_14 : decode cL_layer 14 = .ok (.i2l, 1) := by decide +kernel
theorem dL_layer_15 : decode cL_layer 15 = .ok (.lastore, 1) := by decide +kernel
theorem dL_layer_16 : decode cL_layer 16 = .ok (.goto 11, 3) := by decide +kernel
theorem dL_layer_19 : decode cL_layer 19 = .ok (.astore 7, 2) := by decide +kernel
theorem dL_layer_21 : decode cL_layer 21 = .ok (.iconst 1, 1) := by decide +kernel
theorem dL_layer_22 : decode cL_layer 22 = .ok (.ireturn, 1) := by decide +kernel
theorem dL_layer_23 : decode cL_layer 23 = .ok (.astore 7, 2) := by decide +kernel
theorem dL_layer_25 : decode cL_layer 25 = .ok (.iconst 2, 1) := by decide +kernel
theorem dL_layer_26 : decode cL_layer 26 = .ok (.ireturn, 1) := by decide +kernel
theorem dL_layer_27 : decode cL_layer 27 = .ok (.iconst 0, 1) := by decide +kernel
theorem dL_layer_28 : decode cL_layer 28 = .ok (.ireturn, 1) := by decide +kernel
set_option maxRecDepth 20000 in
theorem ggL_drop_X5_drop : GoodIn wsL_drop wsX5_drop := goodIn_ca (goodIn_ca (goodIn_r _ [7, 8, 9, 10, 11, 12, 13, 6, 14, 15, 16, 17, 18, 19, 20, 21, 22, 23, 24, 25, 26, 27, 28, 29, 30, 31, 32, 33, 34, 35, 36, 37, 38, 39, 40, 41, 42, 43, 44, 45, 46, 47, 48, 49, 50, 51, 52] (by decide +kernel) (by decide +kernel)) (goodIn_sub (fun _ h => List.mem_cons_of_mem _ (List.mem_append_left _ (List.mem_append_right _ h))) (by decide +kernel))) (goodIn_sub (fun _ h => List.mem_cons_of_mem _ (List.mem_append_right _ h)) (by decide +kernel))
set_option maxRecDepth 20000 in
theorem gL_drop_X5_drop : GoodIn wsL_drop (wsV RL 21 RX5 yX5_drop wsX5_drop) := goodIn_app (goodIn_r _ [3, 4, 5, 6] rfl rfl) ggL_drop_X5_drop
theorem dL_drop_0 : decode cL_drop 0 = .ok (.aload_n 3, 1) := by decide +kernel
theorem dL_drop_1 : decode cL_drop 1 = .ok (.iconst 0, 1) := by decide +kernel
theorem dL_drop_2 : decode cL_drop 2 = .ok (.aload_n 0, 1) := by decide +kernel
theorem dL_drop_3 : decode cL_drop 3 = .ok (.iload_n 1, 1) := by decide +kernel
theorem dL_drop_4 : decode cL_drop 4 = .ok (.iload_n 2, 1) := by decide +kernel
theorem dL_drop_5 : decode cL_drop 5 = .ok (.invokevirtual 21, 3) := by decide +kernel
theorem dL_drop_8 : decode cL_drop 8 = .ok (.i2l, 1) := by decide +kernel
theorem dL_drop_9 : decode cL_drop 9 = .ok (.lastore, 1) := by decide +kernel
theorem dL_drop_10 : decode cL_drop 10 = .ok (.goto 11, 3) := by decide +kernel
theorem dL_drop_13 : decode cL_drop 13 = .ok (.astore 4, 2) := by decide +kernel
theorem dL_drop_15 : decode cL_drop 15 = .ok (.iconst 1, 1) := by decide +kernel
theorem dL_drop_16 : decode cL_drop 16 = .ok (.ireturn, 1) := by decide +kernel
theorem dL_drop_17 : decode cL_drop 17 = .ok (.astore 4, 2) := by decide +kernel
theorem dL_drop_19 : decode cL_drop 19 = .ok (.iconst 2, 1) := by decide +kernel
theorem dL_drop_20 : decode cL_drop 20 = .ok (.ireturn, 1) := by decide +kernel
theorem dL_drop_21 : decode cL_drop 21 = .ok (.iconst 0, 1) := by decide +kernel
theorem dL_drop_22 : decode cL_drop 22 = .ok (.ireturn, 1) := by decide +kernel
set_option maxRecDepth 20000 in
theorem ggL_about_X5_about : GoodIn wsL_about wsX5_about := goodIn_ca (goodIn_ca (goodIn_r _ [7, 8, 9, 10, 11, 12, 13, 6, 14, 15, 16, 17, 18, 19, 20, 21, 22, 23, 24, 25, 26, 27, 28, 29, 30, 31, 32, 33, 34, 35, 36, 37, 38, 39, 40, 41, 42, 43, 44, 45, 46, 47, 48, 49, 50, 51, 52, 53, 54] (by decide +kernel) (by decide +kernel)) (goodIn_sub (fun _ h => List.mem_cons_of_mem _ (List.mem_append_left _ (List.mem_append_right _ h))) (by decide +kernel))) (goodIn_sub (fun _ h => List.mem_cons_of_mem _ (List.mem_append_right _ h)) (by decide +kernel))
set_option maxRecDepth 20000 in
theorem gL_about_X5_about : GoodIn wsL_about (wsV RL 27 RX5 yX5_about wsX5_about) := goodIn_app (goodIn_r _ [3, 4, 5, 6] rfl rfl) ggL_about_X5_about
theorem dL_about_0 : decode cL_about 0 = .ok (.aload 4, 2) := by decide +kernel
theorem dL_about_2 : decode cL_about 2 = .ok (.iconst 0, 1) := by decide +kernel
theorem dL_about_3 : decode cL_about 3 = .ok (.aload_n 0, 1) := by decide +kernel
theorem dL_about_4 : decode cL_about 4 = .ok (.iload_n 1, 1) := by decide +kernel
theorem dL_about_5 : decode cL_about 5 = .ok (.iload_n 2, 1) := by decide +kernel
theorem dL_about_6 : decode cL_about 6 = .ok (.iload_n 3, 1) := by decide +kernel
theorem dL_about_7 : decode cL_about 7 = .ok (.invokevirtual 27, 3) := by decide +kernel
theorem dL_about_10 : decode cL_about 10 = .ok (.i2l, 1) := by decide +kernel
theorem dL_about_11 : decode cL_about 11 = .ok (.lastore, 1) := by decide +kernel
theorem dL_about_12 : decode cL_about 12 = .ok (.goto 11, 3) := by decide +kernel
theorem dL_about_15 : decode cL_about 15 = .ok (.astore 5, 2) := by decide +kernel
theorem dL_about_17 : decode cL_about 17 = .ok (.iconst 1, 1) := by decide +kernel
theorem dL_about_18 : decode cL_about 18 = .ok (.ireturn, 1) := by decide +kernel
theorem dL_about_19 : decode cL_about 19 = .ok (.astore 5, 2) := by decide +kernel
theorem dL_about_21 : decode cL_about 21 = .ok (.iconst 2, 1) := by decide +kernel
theorem dL_about_22 : decode cL_about 22 = .ok (.ireturn, 1) := by decide +kernel
theorem dL_about_23 : decode cL_about 23 = .ok (.iconst 0, 1) := by decide +kernel
theorem dL_about_24 : decode cL_about 24 = .ok (.ireturn, 1) := by decide +kernel
set_option maxRecDepth 20000 in
theorem ggL_turn_X5_turn : GoodIn wsL_turn wsX5_turn := goodIn_ca (goodIn_r _ [6, 7, 8, 9, 5, 10, 11, 12, 13, 14, 15, 16, 17, 18, 19, 20, 21, 22, 23, 24, 25, 26, 27, 28, 29, 30, 31, 32, 33, 34, 35, 36, 37, 38, 39, 40, 41, 42, 43, 44, 45, 46, 47, 48, 49] (by decide +kernel) (by decide +kernel)) (goodIn_sub (fun _ h => List.mem_cons_of_mem _ (List.mem_append_right _ h)) (by decide +kernel))
set_option maxRecDepth 20000 in
theorem gL_turn_X5_turn : GoodIn wsL_turn (wsV RL 31 RX5 yX5_turn wsX5_turn) := goodIn_app (goodIn_r _ [2, 3, 4, 5] rfl rfl) ggL_turn_X5_turn
theorem dL_turn_0 : decode cL_turn 0 = .ok (.aload_n 0, 1) := by decide +kernel
theorem dL_turn_1 : decode cL_turn 1 = .ok (.iload_n 1, 1) := by decide +kernel
theorem dL_turn_2 : decode cL_turn 2 = .ok (.invokevirtual 31, 3) := by decide +kernel
theorem dL_turn_5 : decode cL_turn 5 = .ok (.goto 6, 3) := by decide +kernel
theorem dL_turn_8 : decode cL_turn 8 = .ok (.astore_n 2, 1) := by decide +kernel
theorem dL_turn_9 : decode cL_turn 9 = .ok (.iconst 1, 1) := by decide +kernel
theorem dL_turn_10 : decode cL_turn 10 = .ok (.ireturn, 1) := by decide +kernel
theorem dL_turn_11 : decode cL_turn 11 = .ok (.iconst 0, 1) := by decide +kernel
theorem dL_turn_12 : decode cL_turn 12 = .ok (.ireturn, 1) := by decide +kernel
set_option maxRecDepth 20000 in
theorem ggL_copy_X5_copy : GoodIn wsL_copy wsX5_copy := goodIn_ca (goodIn_r _ [6, 7, 8, 9, 10, 11, 5, 12, 13, 14, 15, 16, 17, 18, 19, 20, 21, 22, 23, 24, 25, 26, 27, 28, 29, 30, 31, 32, 33, 34, 35, 36, 37, 38, 39, 40, 41, 42, 43, 44, 45, 46, 47, 48, 49, 50] (by decide +kernel) (by decide +kernel)) (goodIn_sub (fun _ h => List.mem_cons_of_mem _ (List.mem_append_right _ h)) (by decide +kernel))
set_option maxRecDepth 20000 in
theorem gL_copy_X5_copy : GoodIn wsL_copy (wsV RL 35 RX5 yX5_copy wsX5_copy) := goodIn_app (goodIn_r _ [2, 3, 4, 5] rfl rfl) ggL_copy_X5_copy
theorem dL_copy_0 : decode cL_copy 0 = .ok (.aload_n 0, 1) := by decide +kernel
theorem dL_copy_1 : decode cL_copy 1 = .ok (.iload_n 1, 1) := by decide +kernel
theorem dL_copy_2 : decode cL_copy 2 = .ok (.invokevirtual 35, 3) := by decide +kernel
theorem dL_copy_5 : decode cL_copy 5 = .ok (.goto 6, 3) := by decide +kernel
theorem dL_copy_8 : decode cL_copy 8 = .ok (.astore_n 2, 1) := by decide +kernel
theorem dL_copy_9 : decode cL_copy 9 = .ok (.iconst 1, 1) := by decide +kernel
theorem dL_copy_10 : decode cL_copy 10 = .ok (.ireturn, 1) := by decide +kernel
theorem dL_copy_11 : decode cL_copy 11 = .ok (.iconst 0, 1) := by decide +kernel
theorem dL_copy_12 : decode cL_copy 12 = .ok (.ireturn, 1) := by decide +kernel
set_option maxRecDepth 20000 in
theorem ggL_light_X5_light : GoodIn wsL_light wsX5_light := goodIn_ca (goodIn_r _ [6, 7, 8, 9, 10, 11, 12, 5, 13, 14, 15, 16, 17, 18, 19, 20, 21, 22, 23, 24, 25, 26, 27, 28] (by decide +kernel) (by decide +kernel)) (goodIn_sub (fun _ h => List.mem_cons_of_mem _ (List.mem_append_right _ h)) (by decide +kernel))
set_option maxRecDepth 20000 in
theorem gL_light_X5_light : GoodIn wsL_light (wsV RL 38 RX5 yX5_light wsX5_light) := goodIn_app (goodIn_r _ [2, 3, 4, 5] rfl rfl) ggL_light_X5_light
theorem dL_light_0 : decode cL_light 0 = .ok (.aload_n 0, 1) := by decide +kernel
theorem dL_light_1 : decode cL_light 1 = .ok (.iload_n 1, 1) := by decide +kernel
theorem dL_light_2 : decode cL_light 2 = .ok (.iload_n 2, 1) := by decide +kernel
theorem dL_light_3 : decode cL_light 3 = .ok (.invokevirtual 38, 3) := by decide +kernel
theorem dL_light_6 : decode cL_light 6 = .ok (.goto 6, 3) := by decide +kernel
theorem dL_light_9 : decode cL_light 9 = .ok (.astore_n 3, 1) := by decide +kernel
theorem dL_light_10 : decode cL_light 10 = .ok (.iconst 1, 1) := by decide +kernel
theorem dL_light_11 : decode cL_light 11 = .ok (.ireturn, 1) := by decide +kernel
theorem dL_light_12 : decode cL_light 12 = .ok (.iconst 0, 1) := by decide +kernel
theorem dL_light_13 : decode cL_light 13 = .ok (.ireturn, 1) := by decide +kernel
set_option maxRecDepth 20000 in
theorem ggL_back_X5_back : GoodIn wsL_back wsX5_back := goodIn_ca (goodIn_ca (goodIn_r _ [7, 8, 9, 10, 11, 12, 13, 14, 6, 15, 16, 17, 18, 19, 20, 21, 22, 23, 24, 25, 26, 27, 28, 29, 30, 31, 32, 33, 34, 35, 36, 37, 38, 39, 40, 41, 42, 43, 44, 45, 46, 47, 48, 49, 50, 51, 52, 53, 54, 55, 56, 57, 58, 59, 60, 61, 62, 63, 64, 65, 66, 67, 68, 69, 70, 71, 72, 73, 74, 75, 76, 77, 78, 79, 80, 81, 82, 83, 84, 85, 86, 87, 88, 89, 90, 91, 92, 93, 94, 95, 96, 97, 98, 99, 100, 101, 102, 103, 104, 105, 106, 107, 108, 109, 110, 111, 112, 113, 114, 115, 116, 117, 118, 119, 120, 121, 122, 123, 124, 125, 126, 127, 128, 129, 130, 131, 132, 133, 134, 135, 136, 137, 138, 139, 140, 141, 142, 143, 144, 145, 146, 147, 148, 149, 150, 151, 152, 153, 154, 155, 156, 157, 158, 159, 160, 161, 162, 163, 164, 165, 166, 167, 168, 169, 170, 171, 172, 173, 174, 175, 176, 177, 178, 179, 180, 181, 182] (by decide +kernel) (by decide +kernel)) (goodIn_sub (fun _ h => List.mem_cons_of_mem _ (List.mem_append_left _ (List.mem_append_right _ h))) (by decide +kernel))) (goodIn_sub (fun _ h => List.mem_cons_of_mem _ (List.mem_append_right _ h)) (by decide +kernel))
set_option maxRecDepth 20000 in
theorem gL_back_X5_back : GoodIn wsL_back (wsV RL 42 RX5 yX5_back wsX5_back) := goodIn_app (goodIn_r _ [3, 4, 5, 6] rfl rfl) ggL_back_X5_back
theorem dL_back_0 : decode cL_back 0 = .ok (.aload 4, 2) := by decide +kernel
theorem dL_back_2 : decode cL_back 2 = .ok (.iconst 0, 1) := by decide +kernel
theorem dL_back_3 : decode cL_back 3 = .ok (.aload_n 0, 1) := by decide +kernel
theorem dL_back_4 : decode cL_back 4 = .ok (.iload_n 1, 1) := by decide +kernel
theorem dL_back_5 : decode cL_back 5 = .ok (.iload_n 2, 1) := by decide +kernel
theorem dL_back_6 : decode cL_back 6 = .ok (.iload_n 3, 1) := by decide +kernel
theorem dL_back_7 : decode cL_back 7 = .ok (.invokevirtual 42, 3) := by decide +kernel
theorem dL_back_10 : decode cL_back 10 = .ok (.i2l, 1) := by decide +kernel
theorem dL_back_11 : decode cL_back 11 = .ok (.lastore, 1) := by decide +kernel
theorem dL_back_12 : decode cL_back 12 = .ok (.goto 11, 3) := by decide +kernel
theorem dL_back_15 : decode cL_back 15 = .ok (.astore 5, 2) := by decide +kernel
theorem dL_back_17 : decode cL_back 17 = .ok (.iconst 1, 1) := by decide +kernel
theorem dL_back_18 : decode cL_back 18 = .ok (.ireturn, 1) := by decide +kernel
theorem dL_back_19 : decode cL_back 19 = .ok (.astore 5, 2) := by decide +kernel
theorem dL_back_21 : decode cL_back 21 = .ok (.iconst 2, 1) := by decide +kernel
theorem dL_back_22 : decode cL_back 22 = .ok (.ireturn, 1) := by decide +kernel
theorem dL_back_23 : decode cL_back 23 = .ok (.iconst 0, 1) := by decide +kernel
theorem dL_back_24 : decode cL_back 24 = .ok (.ireturn, 1) := by decide +kernel
set_option maxRecDepth 20000 in
theorem ggL_on_X5_on : GoodIn wsL_on wsX5_on := goodIn_ca (goodIn_ca (goodIn_r _ [7, 8, 9, 10, 11, 12, 13, 14, 6, 15, 16, 17, 18, 19, 20, 21, 22, 23, 24, 25, 26, 27, 28, 29, 30, 31, 32, 33, 34, 35, 36, 37, 38, 39, 40, 41, 42, 43, 44, 45, 46, 47, 48, 49, 50, 51, 52, 53, 54, 55, 56, 57, 58, 59, 60, 61, 62, 63, 64, 65, 66, 67, 68, 69, 70, 71, 72, 73, 74, 75, 76, 77, 78, 79, 80, 81, 82, 83, 84, 85, 86, 87, 88, 89, 90, 91, 92, 93, 94, 95, 96, 97, 98, 99, 100, 101, 102, 103, 104, 105, 106, 107, 108, 109, 110, 111, 112, 113, 114, 115, 116, 117, 118, 119, 120, 121, 122, 123, 124, 125, 126, 127, 128, 129, 130, 131, 132, 133, 134, 135, 136, 137, 138, 139, 140, 141, 142, 143, 144, 145, 146, 147, 148, 149, 150, 151, 152, 153, 154, 155, 156, 157, 158, 159, 160, 161, 162, 163, 164, 165, 166, 167, 168, 169, 170, 171, 172, 173, 174, 175, 176, 177, 178, 179, 180, 181, 182, 183, 184, 185, 186, 187, 188, 189] (by decide +kernel) (by decide +kernel)) (goodIn_sub (fun _ h => List.mem_cons_of_mem _ (List.mem_append_left _ (List.mem_append_right _ h))) (by decide +kernel))) (goodIn_sub (fun _ h => List.mem_cons_of_mem _ (List.mem_append_right _ h)) (by decide +kernel))
set_option maxRecDepth 20000 in
theorem gL_on_X5_on : GoodIn wsL_on (wsV RL 46 RX5 yX5_on wsX5_on) := goodIn_app (goodIn_r _ [3, 4, 5, 6] rfl rfl) ggL_on_X5_on
theorem dL_on_0 : decode cL_on 0 = .ok (.aload 4, 2) := by decide +kernel
theorem dL_on_2 : decode cL_on 2 = .ok (.iconst 0, 1) := by decide +kernel
theorem dL_on_3 : decode cL_on 3 = .ok (.aload_n 0, 1) := by decide +kernel
theorem dL_on_4 : decode cL_on 4 = .ok (.iload_n 1, 1) := by decide +kernel
theorem dL_on_5 : decode cL_on 5 = .ok (.iload_n 2, 1) := by decide +kernel
theorem dL_on_6 : decode cL_on 6 = .ok (.iload_n 3, 1) := by decide +kernel
theorem dL_on_7 : decode cL_on 7 = .ok (.invokevirtual 46, 3) := by decide +kernel
theorem dL_on_10 : decode cL_on 10 = .ok (.i2l, 1) := by decide +kernel
theorem dL_on_11 : decode cL_on 11 = .ok (.lastore, 1) := by decide +kernel
theorem dL_on_12 : decode cL_on 12 = .ok (.goto 11, 3) := by decide +kernel
theorem dL_on_15 : decode cL_on 15 = .ok (.astore 5, 2) := by decide +kernel
theorem dL_on_17 : decode cL_on 17 = .ok (.iconst 1, 1) := by decide +kernel
theorem dL_on_18 : decode cL_on 18 = .ok (.ireturn, 1) := by decide +kernel
theorem dL_on_19 : decode cL_on 19 = .ok (.astore 5, 2) := by decide +kernel
theorem dL_on_21 : decode cL_on 21 = .ok (.iconst 2, 1) := by decide +kernel
theorem dL_on_22 : decode cL_on 22 = .ok (.ireturn, 1) := by decide +kernel
theorem dL_on_23 : decode cL_on 23 = .ok (.iconst 0, 1) := by decide +kernel
theorem dL_on_24 : decode cL_on 24 = .ok (.ireturn, 1) := by decide +kernel
set_option maxRecDepth 20000 in
theorem ggL_entry_X5_entry : GoodIn wsL_entry wsX5_entry := goodIn_ca (goodIn_ca (goodIn_r _ [7, 8, 9, 10, 11, 12, 13, 14, 6, 15, 16, 17, 18, 19, 20, 21, 22, 23, 24, 25, 26, 27, 28, 29, 30, 31, 32, 33, 34, 35, 36, 37, 38, 39, 40, 41, 42, 43, 44, 45, 46, 47, 48, 49, 50, 51, 52, 53, 54, 55, 56, 57, 58, 59, 60, 61, 62, 63, 64, 65, 66, 67, 68, 69, 70, 71, 72, 73, 74, 75, 76, 77, 78, 79, 80, 81, 82, 83, 84, 85, 86, 87, 88, 89, 90, 91, 92, 93, 94, 95, 96, 97, 98, 99, 100, 101, 102, 103, 104, 105, 106, 107, 108, 109, 110, 111, 112, 113, 114, 115, 116, 117, 118, 119, 120, 121, 122, 123, 124, 125, 126, 127, 128, 129, 130, 131, 132, 133, 134, 135, 136, 137, 138, 139, 140, 141, 142, 143, 144, 145, 146, 147, 148, 149, 150, 151, 152, 153, 154, 155, 156, 157, 158, 159, 160, 161, 162, 163, 164, 165, 166, 167, 168, 169, 170, 171, 172, 173, 174] (by decide +kernel) (by decide +kernel)) (goodIn_sub (fun _ h => List.mem_cons_of_mem _ (List.mem_append_left _ (List.mem_append_right _ h))) (by decide +kernel))) (goodIn_sub (fun _ h => List.mem_cons_of_mem _ (List.mem_append_right _ h)) (by decide +kernel))
set_option maxRecDepth 20000 in
theorem gL_entry_X5_entry : GoodIn wsL_entry (wsV RL 49 RX5 yX5_entry wsX5_entry) := goodIn_app (goodIn_r _ [3, 4, 5, 6] rfl rfl) ggL_entry_X5_entry
theorem dL_entry_0 : decode cL_entry 0 = .ok (.aload 5, 2) := by decide +kernel
theorem dL_entry_2 : decode cL_entry 2 = .ok (.iconst 0, 1) := by decide +kernel
theorem dL_entry_3 : decode cL_entry 3 = .ok (.aload_n 0, 1) := by decide +kernel
theorem dL_entry_4 : decode cL_entry 4 = .ok (.iload_n 1, 1) := by decide +kernel
theorem dL_entry_5 : decode cL_entry 5 = .ok (.iload_n 2, 1) := by decide +kernel
theorem dL_entry_6 : decode cL_entry 6 = .ok (.iload_n 3, 1) := by decide +kernel
theorem dL_entry_7 : decode cL_entry 7 = .ok (.iload 4, 2) := by decide +kernel
theorem dL_entry_9 : decode cL_entry 9 = .ok (.invokevirtual 49, 3) := by decide +kernel
theorem dL_entry_12 : decode cL_entry 12 = .ok (.i2l, 1) := by decide +kernel
theorem dL_entry_13 : decode cL_entry 13 = .ok (.lastore, 1) := by decide +kernel
theorem dL_entry_14 : decode cL_entry 14 = .ok (.goto 11, 3) := by decide +kernel
theorem dL_entry_17 : decode cL_entry 17 = .ok (.astore 6, 2) := by decide +kernel
theorem dL_entry_19 : decode cL_entry 19 = .ok (.iconst 1, 1) := by decide +kernel
theorem dL_entry_20 : decode cL_entry 20 = .ok (.ireturn, 1) := by decide +kernel
theorem dL_entry_21 : decode cL_entry 21 = .ok (.astore 6, 2) := by decide +kernel
theorem dL_entry_23 : decode cL_entry 23 = .ok (.iconst 2, 1) := by decide +kernel
theorem dL_entry_24 : decode cL_entry 24 = .ok (.ireturn, 1) := by decide +kernel
theorem dL_entry_25 : decode cL_entry 25 = .ok (.iconst 0, 1) := by decide +kernel
theorem dL_entry_26 : decode cL_entry 26 = .ok (.ireturn, 1) := by decide +kernel
set_option maxRecDepth 20000 in
theorem ggL_sign_X5_sign : GoodIn wsL_sign wsX5_sign := goodIn_ca (goodIn_ca (goodIn_r _ [7, 8, 9, 10, 11, 12, 13, 6, 14, 15, 16, 17, 18, 19, 20, 21, 22, 23, 24, 25, 26, 27, 28, 29, 30, 31, 32, 33, 34, 35, 36, 37, 38, 39, 40, 41, 42, 43, 44, 45, 46, 47, 48, 49, 50, 51, 52, 53, 54, 55, 56, 57, 58, 59, 60, 61, 62, 63, 64, 65, 66, 67, 68, 69, 70, 71, 72, 73, 74, 75, 76, 77, 78, 79, 80, 81, 82, 83, 84, 85, 86, 87, 88, 89, 90, 91, 92, 93, 94, 95, 96, 97, 98, 99, 100, 101, 102, 103] (by decide +kernel) (by decide +kernel)) (goodIn_sub (fun _ h => List.mem_cons_of_mem _ (List.mem_append_left _ (List.mem_append_right _ h))) (by decide +kernel))) (goodIn_sub (fun _ h => List.mem_cons_of_mem _ (List.mem_append_right _ h)) (by decide +kernel))
set_option maxRecDepth 20000 in
theorem gL_sign_X5_sign : GoodIn wsL_sign (wsV RL 53 RX5 yX5_sign wsX5_sign) := goodIn_app (goodIn_r _ [3, 4, 5, 6] rfl rfl) ggL_sign_X5_sign
theorem dL_sign_0 : decode cL_sign 0 = .ok (.aload_n 3, 1) := by decide +kernel
theorem dL_sign_1 : decode cL_sign 1 = .ok (.iconst 0, 1) := by decide +kernel
theorem dL_sign_2 : decode cL_sign 2 = .ok (.aload_n 0, 1) := by decide +kernel
theorem dL_sign_3 : decode cL_sign 3 = .ok (.iload_n 1, 1) := by decide +kernel
theorem dL_sign_4 : decode cL_sign 4 = .ok (.iload_n 2, 1) := by decide +kernel
theorem dL_sign_5 : decode cL_sign 5 = .ok (.invokevirtual 53, 3) := by decide +kernel
theorem dL_sign_8 : decode cL_sign 8 = .ok (.i2l, 1) := by decide +kernel
theorem dL_sign_9 : decode cL_sign 9 = .ok (.lastore, 1) := by decide +kernel
theorem dL_sign_10 : decode cL_sign 10 = .ok (.goto 11, 3) := by decide +kernel
theorem dL_sign_13 : decode cL_sign 13 = .ok (.astore 4, 2) := by decide +kernel
theorem dL_sign_15 : decode cL_sign 15 = .ok (.iconst 1, 1) := by decide +kernel
theorem dL_sign_16 : decode cL_sign 16 = .ok (.ireturn, 1) := by decide +kernel
theorem dL_sign_17 : decode cL_sign 17 = .ok (.astore 4, 2) := by decide +kernel
theorem dL_sign_19 : decode cL_sign 19 = .ok (.iconst 2, 1) := by decide +kernel
theorem dL_sign_20 : decode cL_sign 20 = .ok (.ireturn, 1) := by decide +kernel
theorem dL_sign_21 : decode cL_sign 21 = .ok (.iconst 0, 1) := by decide +kernel
theorem dL_sign_22 : decode cL_sign 22 = .ok (.ireturn, 1) := by decide +kernel
set_option maxRecDepth 20000 in
theorem ggL_stops_X5_stops : GoodIn wsL_stops wsX5_stops := goodIn_ca (goodIn_r _ [6, 7, 8, 9, 10, 11, 12, 5, 13, 14, 15, 16, 17, 18, 19, 20, 21, 22, 23, 24, 25, 26, 27, 28, 29, 30, 31, 32, 33, 34, 35, 36, 37, 38, 39, 40, 41, 42, 43, 44, 45, 46, 47, 48, 49, 50, 51, 52, 53, 54, 55, 56, 57, 58, 59, 60, 61, 62, 63, 64, 65, 66, 67, 68, 69, 70, 71, 72, 73, 74, 75, 76, 77, 78, 79, 80, 81, 82, 83, 84, 85, 86, 87, 88, 89, 90, 91, 92, 93, 94, 95, 96, 97, 98, 99, 100, 101, 102, 103, 104] (by decide +kernel) (by decide +kernel)) (goodIn_sub (fun _ h => List.mem_cons_of_mem _ (List.mem_append_right _ h)) (by decide +kernel))
set_option maxRecDepth 20000 in
theorem gL_stops_X5_stops : GoodIn wsL_stops (wsV RL 56 RX5 yX5_stops wsX5_stops) := goodIn_app (goodIn_r _ [2, 3, 4, 5] rfl rfl) ggL_stops_X5_stops
theorem dL_stops_0 : decode cL_stops 0 = .ok (.aload_n 2, 1) := by decide +kernel
theorem dL_stops_1 : decode cL_stops 1 = .ok (.iconst 0, 1) := by decide +kernel
theorem dL_stops_2 : decode cL_stops 2 = .ok (.aload_n 0, 1) := by decide +kernel
theorem dL_stops_3 : decode cL_stops 3 = .ok (.iload_n 1, 1) := by decide +kernel
theorem dL_stops_4 : decode cL_stops 4 = .ok (.invokevirtual 56, 3) := by decide +kernel
theorem dL_stops_7 : decode cL_stops 7 = .ok (.ifCond .eq 7, 3) := by decide +kernel
theorem dL_stops_10 : decode cL_stops 10 = .ok (.lconst 1, 1) := by decide +kernel
theorem dL_stops_11 : decode cL_stops 11 = .ok (.goto 4, 3) := by decide +kernel
theorem dL_stops_14 : decode cL_stops 14 = .ok (.lconst 0, 1) := by decide +kernel
theorem dL_stops_15 : decode cL_stops 15 = .ok (.lastore, 1) := by decide +kernel
theorem dL_stops_16 : decode cL_stops 16 = .ok (.goto 6, 3) := by decide +kernel
theorem dL_stops_19 : decode cL_stops 19 = .ok (.astore_n 3, 1) := by decide +kernel
theorem dL_stops_20 : decode cL_stops 20 = .ok (.iconst 1, 1) := by decide +kernel
theorem dL_stops_21 : decode cL_stops 21 = .ok (.ireturn, 1) := by decide +kernel
theorem dL_stops_22 : decode cL_stops 22 = .ok (.iconst 0, 1) := by decide +kernel
theorem dL_stops_23 : decode cL_stops 23 = .ok (.ireturn, 1) := by decide +kernel
set_option maxRecDepth 20000 in
theorem ggL_extreme_X5_extreme : GoodIn wsL_extreme wsX5_extreme := goodIn_ca (goodIn_ca (goodIn_r _ [7, 8, 9, 10, 11, 12, 13, 6, 14, 15, 16, 17, 18, 19, 20, 21, 22, 23, 24, 25, 26, 27, 28, 29, 30, 31, 32, 33, 34, 35, 36, 37, 38, 39, 40, 41, 42, 43, 44, 45, 46, 47, 48, 49, 50, 51, 52, 53, 54, 55, 56, 57, 58, 59, 60, 61, 62, 63, 64, 65, 66, 67, 68, 69, 70, 71, 72, 73, 74, 75, 76, 77, 78, 79, 80, 81, 82, 83, 84, 85, 86, 87, 88, 89, 90, 91, 92, 93, 94, 95, 96, 97, 98, 99, 100, 101, 102, 103, 104, 105, 106, 107, 108, 109, 110, 111, 112, 113, 114, 115, 116, 117, 118, 119, 120, 121, 122, 123, 124, 125, 126, 127, 128, 129, 130, 131, 132, 133, 134, 135, 136, 137, 138, 139, 140, 141, 142, 143, 144, 145, 146, 147, 148, 149, 150, 151, 152, 153, 154] (by decide +kernel) (by decide +kernel)) (goodIn_sub (fun _ h => List.mem_cons_of_mem _ (List.mem_append_left _ (List.mem_append_right _ h))) (by decide +kernel))) (goodIn_sub (fun _ h => List.mem_cons_of_mem _ (List.mem_append_right _ h)) (by decide +kernel))
set_option maxRecDepth 20000 in
theorem gL_extreme_X5_extreme : GoodIn wsL_extreme (wsV RL 60 RX5 yX5_extreme wsX5_extreme) := goodIn_app (goodIn_r _ [3, 4, 5, 6] rfl rfl) ggL_extreme_X5_extreme
theorem dL_extreme_0 : decode cL_extreme 0 = .ok (.aload 4, 2) := by decide +kernel
theorem dL_extreme_2 : decode cL_extreme 2 = .ok (.iconst 0, 1) := by decide +kernel
theorem dL_extreme_3 : decode cL_extreme 3 = .ok (.aload_n 0, 1) := by decide +kernel
theorem dL_extreme_4 : decode cL_extreme 4 = .ok (.iload_n 1, 1) := by decide +kernel
theorem dL_extreme_5 : decode cL_extreme 5 = .ok (.iload_n 2, 1) := by decide +kernel
theorem dL_extreme_6 : decode cL_extreme 6 = .ok (.iload_n 3, 1) := by decide +kernel
theorem dL_extreme_7 : decode cL_extreme 7 = .ok (.invokevirtual 60, 3) := by decide +kernel
theorem dL_extreme_10 : decode cL_extreme 10 = .ok (.i2l, 1) := by decide +kernel
theorem dL_extreme_11 : decode cL_extreme 11 = .ok (.lastore, 1) := by decide +kernel
theorem dL_extreme_12 : decode cL_extreme 12 = .ok (.goto 11, 3) := by decide +kernel
theorem dL_extreme_15 : decode cL_extreme 15 = .ok (.astore 5, 2) := by decide +kernel
theorem dL_extreme_17 : decode cL_extreme 17 = .ok (.iconst 1, 1) := by decide +kernel
theorem dL_extreme_18 : decode cL_extreme 18 = .ok (.ireturn, 1) := by decide +kernel
theorem dL_extreme_19 : decode cL_extreme 19 = .ok (.astore 5, 2) := by decide +kernel
theorem dL_extreme_21 : decode cL_extreme 21 = .ok (.iconst 2, 1) := by decide +kernel
theorem dL_extreme_22 : decode cL_extreme 22 = .ok (.ireturn, 1) := by decide +kernel
theorem dL_extreme_23 : decode cL_extreme 23 = .ok (.iconst 0, 1) := by decide +kernel
theorem dL_extreme_24 : decode cL_extreme 24 = .ok (.ireturn, 1) := by decide +kernel
set_option maxRecDepth 20000 in
theorem ggL_list_X5_list : GoodIn wsL_list wsX5_list := goodIn_ca (goodIn_r _ [6, 7, 8, 9, 10, 11, 5, 12, 13, 14, 15, 16, 17, 18, 19, 20, 21, 22, 23, 24, 25, 26, 27, 28, 29, 30, 31, 32, 33, 34, 35, 36, 37] (by decide +kernel) (by decide +kernel)) (goodIn_sub (fun _ h => List.mem_cons_of_mem _ (List.mem_append_right _ h)) (by decide +kernel))
set_option maxRecDepth 20000 in
theorem gL_list_X5_list : GoodIn wsL_list (wsV RL 64 RX5 yX5_list wsX5_list) := goodIn_app (goodIn_r _ [2, 3, 4, 5] rfl rfl) ggL_list_X5_list
theorem dL_list_0 : decode cL_list 0 = .ok (.aload_n 3, 1) := by decide +kernel
theorem dL_list_1 : decode cL_list 1 = .ok (.iconst 0, 1) := by decide +kernel
theorem dL_list_2 : decode cL_list 2 = .ok (.aload_n 0, 1) := by decide +kernel
theorem dL_list_3 : decode cL_list 3 = .ok (.iload_n 1, 1) := by decide +kernel
theorem dL_list_4 : decode cL_list 4 = .ok (.iload_n 2, 1) := by decide +kernel
theorem dL_list_5 : decode cL_list 5 = .ok (.invokevirtual 64, 3) := by decide +kernel
theorem dL_list_8 : decode cL_list 8 = .ok (.i2l, 1) := by decide +kernel
theorem dL_list_9 : decode cL_list 9 = .ok (.lastore, 1) := by decide +kernel
theorem dL_list_10 : decode cL_list 10 = .ok (.goto 7, 3) := by decide +kernel
theorem dL_list_13 : decode cL_list 13 = .ok (.astore 4, 2) := by decide +kernel
theorem dL_list_15 : decode cL_list 15 = .ok (.iconst 1, 1) := by decide +kernel
theorem dL_list_16 : decode cL_list 16 = .ok (.ireturn, 1) := by decide +kernel
theorem dL_list_17 : decode cL_list 17 = .ok (.iconst 0, 1) := by decide +kernel
theorem dL_list_18 : decode cL_list 18 = .ok (.ireturn, 1) := by decide +kernel
set_option maxRecDepth 20000 in
theorem ggL_choose_X5_choose : GoodIn wsL_choose wsX5_choose := goodIn_ca (goodIn_ca (goodIn_r _ [7, 8, 9, 10, 11, 12, 13, 14, 6, 15, 16, 17, 18, 19, 20, 21, 22, 23, 24, 25, 26, 27, 28, 29, 30, 31, 32, 33, 34, 35, 36, 37, 38, 39, 40, 41, 42, 43, 44, 45, 46, 47, 48, 49, 50, 51, 52, 53, 54, 55, 56, 57, 58, 59, 60, 61, 62, 63, 64, 65, 66, 67, 68, 69, 70, 71, 72, 73, 74, 75, 76, 77, 78, 79, 80, 81, 82, 83, 84, 85, 86, 87, 88, 89, 90, 91, 92, 93, 94, 95, 96, 97, 98, 99, 100, 101, 102, 103, 104, 105, 106, 107, 108, 109, 110, 111, 112, 113, 114, 115, 116, 117, 118, 119, 120, 121, 122, 123, 124, 125, 126, 127, 128, 129, 130, 131, 132, 133, 134, 135, 136, 137, 138, 139, 140, 141, 142, 143, 144, 145, 146, 147, 148, 149, 150, 151, 152, 153, 154, 155, 156, 157, 158, 159, 160, 161, 162, 163, 164, 165, 166, 167, 168, 169, 170, 171, 172, 173, 174, 175, 176, 177, 178, 179, 180, 181, 182, 183, 184, 185, 186, 187, 188, 189, 190, 191, 192, 193, 194, 195, 196, 197, 198, 199, 200, 201, 202, 203, 204, 205, 206, 207, 208] (by decide +kernel) (by decide +kernel)) (goodIn_sub (fun _ h => List.mem_cons_of_mem _ (List.mem_append_left _ (List.mem_append_right _ h))) (by decide +kernel))) (goodIn_sub (fun _ h => List.mem_cons_of_mem _ (List.mem_append_right _ h)) (by decide +kernel))
set_option maxRecDepth 20000 in
theorem gL_choose_X5_choose : GoodIn wsL_choose (wsV RL 67 RX5 yX5_choose wsX5_choose) := goodIn_app (goodIn_r _ [3, 4, 5, 6] rfl rfl) ggL_choose_X5_choose
theorem dL_choose_0 : decode cL_choose 0 = .ok (.aload_n 3, 1) := by decide +kernel
theorem dL_choose_1 : decode cL_choose 1 = .ok (.iconst 0, 1) := by decide +kernel
theorem dL_choose_2 : decode cL_choose 2 = .ok (.aload_n 0, 1) := by decide +kernel
theorem dL_choose_3 : decode cL_choose 3 = .ok (.iload_n 1, 1) := by decide +kernel
theorem dL_choose_4 : decode cL_choose 4 = .ok (.iload_n 2, 1) := by decide +kernel
theorem dL_choose_5 : decode cL_choose 5 = .ok (.invokevirtual 67, 3) := by decide +kernel
theorem dL_choose_8 : decode cL_choose 8 = .ok (.i2l, 1) := by decide +kernel
theorem dL_choose_9 : decode cL_choose 9 = .ok (.lastore, 1) := by decide +kernel
theorem dL_choose_10 : decode cL_choose 10 = .ok (.goto 11, 3) := by decide +kernel
theorem dL_choose_13 : decode cL_choose 13 = .ok (.astore 4, 2) := by decide +kernel
theorem dL_choose_15 : decode cL_choose 15 = .ok (.iconst 1, 1) := by decide +kernel
theorem dL_choose_16 : decode cL_choose 16 = .ok (.ireturn, 1) := by decide +kernel
theorem dL_choose_17 : decode cL_choose 17 = .ok (.astore 4, 2) := by decide +kernel
theorem dL_choose_19 : decode cL_choose 19 = .ok (.iconst 2, 1) := by decide +kernel
theorem dL_choose_20 : decode cL_choose 20 = .ok (.ireturn, 1) := by decide +kernel
theorem dL_choose_21 : decode cL_choose 21 = .ok (.iconst 0, 1) := by decide +kernel
theorem dL_choose_22 : decode cL_choose 22 = .ok (.ireturn, 1) := by decide +kernel
set_option maxRecDepth 20000 in
theorem ggL_pane_X5_pane : GoodIn wsL_pane wsX5_pane := goodIn_ca (goodIn_r _ [6, 7, 8, 9, 10, 11, 12, 13, 14, 15, 16, 17, 18, 19, 20, 21, 22, 23, 24, 25, 26, 27, 28, 29, 30, 31, 32, 33, 34, 35, 36, 37, 38, 39, 40, 41, 42, 43, 44, 45, 46, 47, 48, 49, 50, 51, 52, 53, 54, 55, 56, 57, 58, 59, 60, 61, 62, 63, 64, 65] (by decide +kernel) (by decide +kernel)) (goodIn_sub (fun _ h => List.mem_cons_of_mem _ (List.mem_append_right _ h)) (by decide +kernel))
set_option maxRecDepth 20000 in
theorem gL_pane_X5_pane : GoodIn wsL_pane (wsV RL 70 RX5 yX5_pane wsX5_pane) := goodIn_app (goodIn_r _ [2, 3, 4, 5] rfl rfl) ggL_pane_X5_pane
theorem dL_pane_0 : decode cL_pane 0 = .ok (.aload 5, 2) := by decide +kernel
theorem dL_pane_2 : decode cL_pane 2 = .ok (.iconst 0, 1) := by decide +kernel
theorem dL_pane_3 : decode cL_pane 3 = .ok (.aload_n 0, 1) := by decide +kernel
theorem dL_pane_4 : decode cL_pane 4 = .ok (.iload_n 1, 1) := by decide +kernel
theorem dL_pane_5 : decode cL_pane 5 = .ok (.iload_n 2, 1) := by decide +kernel
theorem dL_pane_6 : decode cL_pane 6 = .ok (.iload_n 3, 1) := by decide +kernel
theorem dL_pane_7 : decode cL_pane 7 = .ok (.iload 4, 2) := by decide +kernel
theorem dL_pane_9 : decode cL_pane 9 = .ok (.invokevirtual 70, 3) := by decide +kernel
theorem dL_pane_12 : decode cL_pane 12 = .ok (.i2l, 1) := by decide +kernel
theorem dL_pane_13 : decode cL_pane 13 = .ok (.lastore, 1) := by decide +kernel
theorem dL_pane_14 : decode cL_pane 14 = .ok (.goto 7, 3) := by decide +kernel
theorem dL_pane_17 : decode cL_pane 17 = .ok (.astore 6, 2) := by decide +kernel
theorem dL_pane_19 : decode cL_pane 19 = .ok (.iconst 1, 1) := by decide +kernel
theorem dL_pane_20 : decode cL_pane 20 = .ok (.ireturn, 1) := by decide +kernel
theorem dL_pane_21 : decode cL_pane 21 = .ok (.iconst 0, 1) := by decide +kernel
theorem dL_pane_22 : decode cL_pane 22 = .ok (.ireturn, 1) := by decide +kernel
set_option maxRecDepth 20000 in
theorem ggL_share_X5_share : GoodIn wsL_share wsX5_share := goodIn_ca (goodIn_r _ [6, 7, 8, 9, 10, 11, 12, 5, 13, 14, 15, 16, 17, 18, 19, 20, 21, 22, 23, 24, 25, 26, 27, 28, 29, 30, 31, 32, 33, 34, 35, 36, 37, 38, 39, 40, 41, 42, 43, 44, 45, 46, 47, 48, 49, 50, 51, 52, 53, 54, 55, 56, 57, 58, 59, 60, 61, 62, 63, 64, 65, 66, 67, 68, 69, 70, 71, 72, 73, 74, 75, 76, 77, 78, 79, 80, 81, 82, 83, 84, 85, 86, 87, 88, 89, 90, 91, 92, 93, 94, 95, 96, 97, 98, 99, 100, 101, 102, 103, 104, 105, 106, 107, 108, 109, 110, 111, 112, 113, 114, 115, 116, 117, 118, 119, 120, 121] (by decide +kernel) (by decide +kernel)) (goodIn_sub (fun _ h => List.mem_cons_of_mem _ (List.mem_append_right _ h)) (by decide +kernel))
set_option maxRecDepth 20000 in
theorem gL_share_X5_share : GoodIn wsL_share (wsV RL 74 RX5 yX5_share wsX5_share) := goodIn_app (goodIn_r _ [2, 3, 4, 5] rfl rfl) ggL_share_X5_share
theorem dL_share_0 : decode cL_share 0 = .ok (.aload 4, 2) := by decide +kernel
theorem dL_share_2 : decode cL_share 2 = .ok (.iconst 0, 1) := by decide +kernel
theorem dL_share_3 : decode cL_share 3 = .ok (.aload_n 0, 1) := by decide +kernel
theorem dL_share_4 : decode cL_share 4 = .ok (.iload_n 1, 1) := by decide +kernel
theorem dL_share_5 : decode cL_share 5 = .ok (.iload_n 2, 1) := by decide +kernel
theorem dL_share_6 : decode cL_share 6 = .ok (.iload_n 3, 1) := by decide +kernel
theorem dL_share_7 : decode cL_share 7 = .ok (.invokevirtual 74, 3) := by decide +kernel
theorem dL_share_10 : decode cL_share 10 = .ok (.i2l, 1) := by decide +kernel
theorem dL_share_11 : decode cL_share 11 = .ok (.lastore, 1) := by decide +kernel
theorem dL_share_12 : decode cL_share 12 = .ok (.goto 7, 3) := by decide +kernel
theorem dL_share_15 : decode cL_share 15 = .ok (.astore 5, 2) := by decide +kernel
theorem dL_share_17 : decode cL_share 17 = .ok (.iconst 1, 1) := by decide +kernel
theorem dL_share_18 : decode cL_share 18 = .ok (.ireturn, 1) := by decide +kernel
theorem dL_share_19 : decode cL_share 19 = .ok (.iconst 0, 1) := by decide +kernel
theorem dL_share_20 : decode cL_share 20 = .ok (.ireturn, 1) := by decide +kernel
