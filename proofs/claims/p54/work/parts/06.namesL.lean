theorem dL_at_0 : decode cL_at 0 = .ok (.iload_n 1, 1) := by decide +kernel
theorem dL_at_1 : decode cL_at 1 = .ok (.aload_n 0, 1) := by decide +kernel
theorem dL_at_2 : decode cL_at 2 = .ok (.arraylength, 1) := by decide +kernel
theorem dL_at_3 : decode cL_at 3 = .ok (.if_icmp .ge 9, 3) := by decide +kernel
theorem dL_at_6 : decode cL_at 6 = .ok (.aload_n 0, 1) := by decide +kernel
theorem dL_at_7 : decode cL_at 7 = .ok (.iload_n 1, 1) := by decide +kernel
theorem dL_at_8 : decode cL_at 8 = .ok (.iaload, 1) := by decide +kernel
theorem dL_at_9 : decode cL_at 9 = .ok (.goto 4, 3) := by decide +kernel
theorem dL_at_12 : decode cL_at 12 = .ok (.iconst 0, 1) := by decide +kernel
theorem dL_at_13 : decode cL_at 13 = .ok (.ireturn, 1) := by decide +kernel
theorem dL_some_0 : decode cL_some 0 = .ok (.iload_n 0, 1) := by decide +kernel
theorem dL_some_1 : decode cL_some 1 = .ok (.iload_n 1, 1) := by decide +kernel
theorem dL_some_2 : decode cL_some 2 = .ok (.irem, 1) := by decide +kernel
theorem dL_some_3 : decode cL_some 3 = .ok (.istore_n 2, 1) := by decide +kernel
theorem dL_some_4 : decode cL_some 4 = .ok (.iload_n 2, 1) := by decide +kernel
theorem dL_some_5 : decode cL_some 5 = .ok (.ifCond .ge 9, 3) := by decide +kernel
theorem dL_some_8 : decode cL_some 8 = .ok (.iload_n 2, 1) := by decide +kernel
theorem dL_some_9 : decode cL_some 9 = .ok (.iload_n 1, 1) := by decide +kernel
theorem dL_some_10 : decode cL_some 10 = .ok (.iadd, 1) := by decide +kernel
theorem dL_some_11 : decode cL_some 11 = .ok (.goto 4, 3) := by decide +kernel
theorem dL_some_14 : decode cL_some 14 = .ok (.iload_n 2, 1) := by decide +kernel
theorem dL_some_15 : decode cL_some 15 = .ok (.ireturn, 1) := by decide +kernel
set_option maxRecDepth 20000 in
theorem ggL_addGuest_X5_addGuest : GoodIn wsL_addGuest wsX5_addGuest := goodIn_ca (goodIn_ca (goodIn_ca (goodIn_r _ [6, 7, 8, 9, 10, 11, 12, 13, 14, 15, 16, 17, 18, 19, 20, 21, 22, 23, 24, 25, 26, 27, 28, 29, 30, 31, 32, 33, 34, 35, 36, 37, 38, 39, 40, 41, 42, 43, 44, 45, 46, 47, 48, 49, 50, 51, 52, 53, 54, 55, 56, 57, 58, 59, 60, 61, 62, 63, 64, 65, 66, 67, 68, 69, 70, 71, 72, 73, 74, 75, 76, 77, 78, 79, 80, 81, 82, 83, 84, 85, 86, 87, 88, 89, 90, 91, 92] (by decide +kernel) (by decide +kernel)) (goodIn_sub (fun _ h => List.mem_cons_of_mem _ (List.mem_append_left _ (List.mem_append_left _ (List.mem_append_right _ h)))) (by decide +kernel))) (goodIn_sub (fun _ h => List.mem_cons_of_mem _ (List.mem_append_left _ (List.mem_append_right _ h))) (by decide +kernel))) (goodIn_sub (fun _ h => List.mem_cons_of_mem _ (List.mem_append_right _ h)) (by decide +kernel))
set_option maxRecDepth 20000 in
theorem gL_addGuest_X5_addGuest : GoodIn wsL_addGuest (wsV RL 7 RX5 yX5_addGuest wsX5_addGuest) := goodIn_app (goodIn_of _ (by decide +kernel)) ggL_addGuest_X5_addGuest
theorem dL_addGuest_0 : decode cL_addGuest 0 = .ok (.aload_n 0, 1) := by decide +kernel
theorem dL_addGuest_1 : decode cL_addGuest 1 = .ok (.iload_n 1, 1) := by decide +kernel
theorem dL_addGuest_2 : decode cL_addGuest 2 = .ok (.iload_n 2, 1) := by decide +kernel
theorem dL_addGuest_3 : decode cL_addGuest 3 = .ok (.invokevirtual 7, 3) := by decide +kernel
theorem dL_addGuest_6 : decode cL_addGuest 6 = .ok (.ireturn, 1) := by decide +kernel
theorem dL_addGuest_7 : decode cL_addGuest 7 = .ok (.astore_n 3, 1) := by decide +kernel
theorem dL_addGuest_8 : decode cL_addGuest 8 = .ok (.sipush (-1001), 3) := by decide +kernel
theorem dL_addGuest_11 : decode cL_addGuest 11 = .ok (.ireturn, 1) := by decide +kernel
theorem dL_addGuest_12 : decode cL_addGuest 12 = .ok (.astore_n 3, 1) := by decide +kernel
theorem dL_addGuest_13 : decode cL_addGuest 13 = .ok (.sipush (-1002), 3) := by decide +kernel
theorem dL_addGuest_16 : decode cL_addGuest 16 = .ok (.ireturn, 1) := by decide +kernel
set_option maxRecDepth 20000 in
theorem ggL_giveFeather_X5_giveFeather : GoodIn wsL_giveFeather wsX5_giveFeather := goodIn_ca (goodIn_ca (goodIn_ca (goodIn_r _ [6, 7, 8, 9, 10, 11, 12, 13, 14, 15, 16, 17, 18, 19, 20, 21, 22, 23, 24, 25, 26, 27, 28, 29, 30, 31, 32, 33, 34, 35, 36, 37, 38, 39, 40, 41, 42, 43, 44, 45, 46, 47, 48, 49, 50, 51, 52, 53, 54, 55, 56, 57, 58, 59, 60, 61, 62, 63, 64, 65, 66, 67, 68, 69, 70, 71, 72, 73, 74, 75, 76, 77, 78, 79, 80, 81, 82, 83, 84, 85, 86, 87, 88, 89, 90, 91, 92, 93, 94, 95, 96] (by decide +kernel) (by decide +kernel)) (goodIn_sub (fun _ h => List.mem_cons_of_mem _ (List.mem_append_left _ (List.mem_append_left _ (List.mem_append_right _ h)))) (by decide +kernel))) (goodIn_sub (fun _ h => List.mem_cons_of_mem _ (List.mem_append_left _ (List.mem_append_right _ h))) (by decide +kernel))) (goodIn_sub (fun _ h => List.mem_cons_of_mem _ (List.mem_append_right _ h)) (by decide +kernel))
set_option maxRecDepth 20000 in
theorem gL_giveFeather_X5_giveFeather : GoodIn wsL_giveFeather (wsV RL 17 RX5 yX5_giveFeather wsX5_giveFeather) := goodIn_app (goodIn_of _ (by decide +kernel)) ggL_giveFeather_X5_giveFeather
theorem dL_giveFeather_0 : decode cL_giveFeather 0 = .ok (.aload_n 0, 1) := by decide +kernel
theorem dL_giveFeather_1 : decode cL_giveFeather 1 = .ok (.iload_n 1, 1) := by decide +kernel
theorem dL_giveFeather_2 : decode cL_giveFeather 2 = .ok (.invokevirtual 17, 3) := by decide +kernel
theorem dL_giveFeather_5 : decode cL_giveFeather 5 = .ok (.ireturn, 1) := by decide +kernel
theorem dL_giveFeather_6 : decode cL_giveFeather 6 = .ok (.astore_n 2, 1) := by decide +kernel
theorem dL_giveFeather_7 : decode cL_giveFeather 7 = .ok (.sipush (-1001), 3) := by decide +kernel
theorem dL_giveFeather_10 : decode cL_giveFeather 10 = .ok (.ireturn, 1) := by decide +kernel
theorem dL_giveFeather_11 : decode cL_giveFeather 11 = .ok (.astore_n 2, 1) := by decide +kernel
theorem dL_giveFeather_12 : decode cL_giveFeather 12 = .ok (.sipush (-1002), 3) := by decide +kernel
theorem dL_giveFeather_15 : decode cL_giveFeather 15 = .ok (.ireturn, 1) := by decide +kernel
set_option maxRecDepth 20000 in
theorem ggL_placeHat_X5_placeHat : GoodIn wsL_placeHat wsX5_placeHat := goodIn_ca (goodIn_ca (goodIn_ca (goodIn_ca (goodIn_r _ [6, 7, 8, 9, 10, 11, 12, 13, 14, 15, 16, 17, 18, 19, 20, 21, 22, 23, 24, 25, 26, 27, 28, 29, 30, 31, 32, 33, 34, 35, 36, 37, 38, 39, 40, 41, 42, 43, 44, 45, 46, 47, 48, 49, 50, 51, 52, 53, 54, 55, 56, 57, 58, 59, 60, 61, 62, 63, 64, 65, 66, 67, 68, 69, 70, 71, 72, 73, 74, 75, 76, 77, 78, 79, 80, 81, 82, 83, 84, 85, 86, 87, 88, 89, 90, 91, 92, 93, 94, 95, 96, 97, 98, 99, 100, 101, 102, 103, 104, 105, 106, 107, 108, 109, 110, 111, 112, 113, 114, 115, 116, 117, 118, 119, 120, 121, 122, 123] (by decide +kernel) (by decide +kernel)) (goodIn_sub (fun _ h => List.mem_cons_of_mem _ (List.mem_append_left _ (List.mem_append_left _ (List.mem_append_left _ (List.mem_append_right _ h))))) (by decide +kernel))) (goodIn_sub (fun _ h => List.mem_cons_of_mem _ (List.mem_append_left _ (List.mem_append_left _ (List.mem_append_right _ h)))) (by decide +kernel))) (goodIn_sub (fun _ h => List.mem_cons_of_mem _ (List.mem_append_left _ (List.mem_append_right _ h))) (by decide +kernel))) (goodIn_sub (fun _ h => List.mem_cons_of_mem _ (List.mem_append_right _ h)) (by decide +kernel))
set_option maxRecDepth 20000 in
theorem gL_placeHat_X5_placeHat : GoodIn wsL_placeHat (wsV RL 23 RX5 yX5_placeHat wsX5_placeHat) := goodIn_app (goodIn_of _ (by decide +kernel)) ggL_placeHat_X5_placeHat
theorem dL_placeHat_0 : decode cL_placeHat 0 = .ok (.aload_n 0, 1) := by decide +kernel
theorem dL_placeHat_1 : decode cL_placeHat 1 = .ok (.iload_n 1, 1) := by decide +kernel
theorem dL_placeHat_2 : decode cL_placeHat 2 = .ok (.iload_n 2, 1) := by decide +kernel
theorem dL_placeHat_3 : decode cL_placeHat 3 = .ok (.invokevirtual 23, 3) := by decide +kernel
theorem dL_placeHat_6 : decode cL_placeHat 6 = .ok (.ireturn, 1) := by decide +kernel
theorem dL_placeHat_7 : decode cL_placeHat 7 = .ok (.astore_n 3, 1) := by decide +kernel
theorem dL_placeHat_8 : decode cL_placeHat 8 = .ok (.sipush (-1001), 3) := by decide +kernel
theorem dL_placeHat_11 : decode cL_placeHat 11 = .ok (.ireturn, 1) := by decide +kernel
theorem dL_placeHat_12 : decode cL_placeHat 12 = .ok (.astore_n 3, 1) := by decide +kernel
theorem dL_placeHat_13 : decode cL_placeHat 13 = .ok (.sipush (-1002), 3) := by decide +kernel
theorem dL_placeHat_16 : decode cL_placeHat 16 = .ok (.ireturn, 1) := by decide +kernel
theorem dL_placeHat_17 : decode cL_placeHat 17 = .ok (.astore_n 3, 1) := by decide +kernel
theorem dL_placeHat_18 : decode cL_placeHat 18 = .ok (.sipush (-1003), 3) := by decide +kernel
theorem dL_placeHat_21 : decode cL_placeHat 21 = .ok (.ireturn, 1) := by decide +kernel
set_option maxRecDepth 20000 in
theorem ggL_removeHat_X5_removeHat : GoodIn wsL_removeHat wsX5_removeHat := goodIn_ca (goodIn_ca (goodIn_ca (goodIn_r _ [6, 7, 8, 9, 10, 11, 5, 12, 13, 14, 15, 16, 17, 18, 19, 20, 21, 22, 23, 24, 25, 26, 27, 28, 29, 30, 31, 32, 33, 34, 35, 36, 37, 38, 39, 40, 41, 42, 43, 44, 45, 46, 47, 48, 49, 50, 51, 52, 53, 54, 55, 56, 57, 58, 59, 60, 61, 62, 63, 64, 65, 66, 67, 68, 69, 70, 71, 72, 73, 74, 75, 76, 77, 78, 79, 80, 81, 82, 83, 84, 85, 86, 87, 88, 89, 90, 91, 92, 93, 94, 95, 96, 97, 98, 99, 100, 101, 102, 103, 104, 105, 106, 107, 108, 109, 110, 111, 112, 113, 114, 115, 116, 117, 118, 119, 120, 121, 122, 123, 124, 125, 126, 127, 128, 129, 130, 131, 132, 133, 134, 135, 136, 137, 138, 139, 140, 141, 142, 143, 144, 145, 146] (by decide +kernel) (by decide +kernel)) (goodIn_sub (fun _ h => List.mem_cons_of_mem _ (List.mem_append_left _ (List.mem_append_left _ (List.mem_append_right _ h)))) (by decide +kernel))) (goodIn_sub (fun _ h => List.mem_cons_of_mem _ (List.mem_append_left _ (List.mem_append_right _ h))) (by decide +kernel))) (goodIn_sub (fun _ h => List.mem_cons_of_mem _ (List.mem_append_right _ h)) (by decide +kernel))
set_option maxRecDepth 20000 in
theorem gL_removeHat_X5_removeHat : GoodIn wsL_removeHat (wsV RL 28 RX5 yX5_removeHat wsX5_removeHat) := goodIn_app (goodIn_of _ (by decide +kernel)) ggL_removeHat_X5_removeHat
theorem dL_removeHat_0 : decode cL_removeHat 0 = .ok (.aload_n 0, 1) := by decide +kernel
theorem dL_removeHat_1 : decode cL_removeHat 1 = .ok (.iload_n 1, 1) := by decide +kernel
theorem dL_removeHat_2 : decode cL_removeHat 2 = .ok (.invokevirtual 28, 3) := by decide +kernel
theorem dL_removeHat_5 : decode cL_removeHat 5 = .ok (.ireturn, 1) := by decide +kernel
theorem dL_removeHat_6 : decode cL_removeHat 6 = .ok (.astore_n 2, 1) := by decide +kernel
theorem dL_removeHat_7 : decode cL_removeHat 7 = .ok (.sipush (-1001), 3) := by decide +kernel
theorem dL_removeHat_10 : decode cL_removeHat 10 = .ok (.ireturn, 1) := by decide +kernel
theorem dL_removeHat_11 : decode cL_removeHat 11 = .ok (.astore_n 2, 1) := by decide +kernel
theorem dL_removeHat_12 : decode cL_removeHat 12 = .ok (.sipush (-1002), 3) := by decide +kernel
theorem dL_removeHat_15 : decode cL_removeHat 15 = .ok (.ireturn, 1) := by decide +kernel
set_option maxRecDepth 20000 in
theorem ggL_touchHat_X5_touchHat : GoodIn wsL_touchHat wsX5_touchHat := goodIn_ca (goodIn_ca (goodIn_ca (goodIn_r _ [6, 7, 8, 9, 10, 11, 5, 12, 13, 14, 15, 16, 17, 18, 19, 20, 21, 22, 23, 24, 25, 26, 27, 28, 29, 30, 31, 32, 33, 34, 35, 36, 37, 38, 39, 40, 41, 42, 43, 44, 45, 46, 47, 48, 49, 50, 51, 52, 53, 54, 55, 56, 57, 58, 59, 60, 61, 62, 63, 64, 65, 66, 67, 68, 69, 70, 71, 72, 73, 74, 75, 76, 77, 78, 79, 80, 81, 82, 83, 84, 85, 86, 87, 88, 89, 90, 91, 92, 93, 94, 95, 96, 97, 98, 99, 100, 101, 102, 103, 104, 105, 106, 107, 108] (by decide +kernel) (by decide +kernel)) (goodIn_sub (fun _ h => List.mem_cons_of_mem _ (List.mem_append_left _ (List.mem_append_left _ (List.mem_append_right _ h)))) (by decide +kernel))) (goodIn_sub (fun _ h => List.mem_cons_of_mem _ (List.mem_append_left _ (List.mem_append_right _ h))) (by decide +kernel))) (goodIn_sub (fun _ h => List.mem_cons_of_mem _ (List.mem_append_right _ h)) (by decide +kernel))
set_option maxRecDepth 20000 in
theorem gL_touchHat_X5_touchHat : GoodIn wsL_touchHat (wsV RL 33 RX5 yX5_touchHat wsX5_touchHat) := goodIn_app (goodIn_of _ (by decide +kernel)) ggL_touchHat_X5_touchHat
theorem dL_touchHat_0 : decode cL_touchHat 0 = .ok (.aload_n 0, 1) := by decide +kernel
theorem dL_touchHat_1 : decode cL_touchHat 1 = .ok (.iload_n 1, 1) := by decide +kernel
theorem dL_touchHat_2 : decode cL_touchHat 2 = .ok (.invokevirtual 33, 3) := by decide +kernel
theorem dL_touchHat_5 : decode cL_touchHat 5 = .ok (.ireturn, 1) := by decide +kernel
theorem dL_touchHat_6 : decode cL_touchHat 6 = .ok (.astore_n 2, 1) := by decide +kernel
theorem dL_touchHat_7 : decode cL_touchHat 7 = .ok (.sipush (-1001), 3) := by decide +kernel
theorem dL_touchHat_10 : decode cL_touchHat 10 = .ok (.ireturn, 1) := by decide +kernel
theorem dL_touchHat_11 : decode cL_touchHat 11 = .ok (.astore_n 2, 1) := by decide +kernel
theorem dL_touchHat_12 : decode cL_touchHat 12 = .ok (.sipush (-1002), 3) := by decide +kernel
theorem dL_touchHat_15 : decode cL_touchHat 15 = .ok (.ireturn, 1) := by decide +kernel
set_option maxRecDepth 20000 in
theorem ggL_feathers_X5_feathers : GoodIn wsL_feathers wsX5_feathers := goodIn_ca (goodIn_ca (goodIn_r _ [6, 7, 8, 9, 10, 11, 5, 12, 13, 14, 15, 16, 17, 18, 19, 20, 21, 22, 23, 24, 25, 26, 27, 28, 29, 30, 31, 32, 33, 34, 35, 36, 37, 38, 39, 40, 41, 42, 43, 44, 45] (by decide +kernel) (by decide +kernel)) (goodIn_sub (fun _ h => List.mem_cons_of_mem _ (List.mem_append_left _ (List.mem_append_right _ h))) (by decide +kernel))) (goodIn_sub (fun _ h => List.mem_cons_of_mem _ (List.mem_append_right _ h)) (by decide +kernel))
set_option maxRecDepth 20000 in
theorem gL_feathers_X5_feathers : GoodIn wsL_feathers (wsV RL 36 RX5 yX5_feathers wsX5_feathers) := goodIn_app (goodIn_of _ (by decide +kernel)) ggL_feathers_X5_feathers
theorem dL_feathers_0 : decode cL_feathers 0 = .ok (.aload_n 0, 1) := by decide +kernel
theorem dL_feathers_1 : decode cL_feathers 1 = .ok (.iload_n 1, 1) := by decide +kernel
theorem dL_feathers_2 : decode cL_feathers 2 = .ok (.invokevirtual 36, 3) := by decide +kernel
theorem dL_feathers_5 : decode cL_feathers 5 = .ok (.ireturn, 1) := by decide +kernel
theorem dL_feathers_6 : decode cL_feathers 6 = .ok (.astore_n 2, 1) := by decide +kernel
theorem dL_feathers_7 : decode cL_feathers 7 = .ok (.sipush (-1001), 3) := by decide +kernel
theorem dL_feathers_10 : decode cL_feathers 10 = .ok (.ireturn, 1) := by decide +kernel
set_option maxRecDepth 20000 in
theorem ggL_brim_X5_brim : GoodIn wsL_brim wsX5_brim := goodIn_ca (goodIn_ca (goodIn_r _ [6, 7, 8, 9, 10, 11, 5, 12, 13, 14, 15, 16, 17, 18, 19, 20, 21, 22, 23, 24, 25, 26, 27, 28, 29, 30, 31, 32, 33, 34, 35, 36, 37, 38, 39, 40, 41, 42, 43, 44, 45] (by decide +kernel) (by decide +kernel)) (goodIn_sub (fun _ h => List.mem_cons_of_mem _ (List.mem_append_left _ (List.mem_append_right _ h))) (by decide +kernel))) (goodIn_sub (fun _ h => List.mem_cons_of_mem _ (List.mem_append_right _ h)) (by decide +kernel))
set_option maxRecDepth 20000 in
theorem gL_brim_X5_brim : GoodIn wsL_brim (wsV RL 39 RX5 yX5_brim wsX5_brim) := goodIn_app (goodIn_of _ (by decide +kernel)) ggL_brim_X5_brim
theorem dL_brim_0 : decode cL_brim 0 = .ok (.aload_n 0, 1) := by decide +kernel
theorem dL_brim_1 : decode cL_brim 1 = .ok (.iload_n 1, 1) := by decide +kernel
theorem dL_brim_2 : decode cL_brim 2 = .ok (.invokevirtual 39, 3) := by decide +kernel
theorem dL_brim_5 : decode cL_brim 5 = .ok (.ireturn, 1) := by decide +kernel
theorem dL_brim_6 : decode cL_brim 6 = .ok (.astore_n 2, 1) := by decide +kernel
theorem dL_brim_7 : decode cL_brim 7 = .ok (.sipush (-1001), 3) := by decide +kernel
theorem dL_brim_10 : decode cL_brim 10 = .ok (.ireturn, 1) := by decide +kernel
set_option maxRecDepth 20000 in
theorem ggL_isPlaced_X5_isPlaced : GoodIn wsL_isPlaced wsX5_isPlaced := goodIn_ca (goodIn_ca (goodIn_r _ [6, 7, 8, 9, 10, 5, 11, 12, 13, 14, 15, 16, 17, 18, 19, 20, 21, 22, 23, 24, 25, 26, 27, 28, 29, 30, 31, 32, 33, 34, 35, 36, 37, 38, 39, 40, 41, 42, 43, 44, 45, 46, 47, 48, 49] (by decide +kernel) (by decide +kernel)) (goodIn_sub (fun _ h => List.mem_cons_of_mem _ (List.mem_append_left _ (List.mem_append_right _ h))) (by decide +kernel))) (goodIn_sub (fun _ h => List.mem_cons_of_mem _ (List.mem_append_right _ h)) (by decide +kernel))
set_option maxRecDepth 20000 in
theorem gL_isPlaced_X5_isPlaced : GoodIn wsL_isPlaced (wsV RL 42 RX5 yX5_isPlaced wsX5_isPlaced) := goodIn_app (goodIn_of _ (by decide +kernel)) ggL_isPlaced_X5_isPlaced
theorem dL_isPlaced_0 : decode cL_isPlaced 0 = .ok (.aload_n 0, 1) := by decide +kernel
theorem dL_isPlaced_1 : decode cL_isPlaced 1 = .ok (.iload_n 1, 1) := by decide +kernel
theorem dL_isPlaced_2 : decode cL_isPlaced 2 = .ok (.invokevirtual 42, 3) := by decide +kernel
theorem dL_isPlaced_5 : decode cL_isPlaced 5 = .ok (.ifCond .eq 7, 3) := by decide +kernel
theorem dL_isPlaced_8 : decode cL_isPlaced 8 = .ok (.iconst 1, 1) := by decide +kernel
theorem dL_isPlaced_9 : decode cL_isPlaced 9 = .ok (.goto 4, 3) := by decide +kernel
theorem dL_isPlaced_12 : decode cL_isPlaced 12 = .ok (.iconst 0, 1) := by decide +kernel
theorem dL_isPlaced_13 : decode cL_isPlaced 13 = .ok (.ireturn, 1) := by decide +kernel
theorem dL_isPlaced_14 : decode cL_isPlaced 14 = .ok (.astore_n 2, 1) := by decide +kernel
theorem dL_isPlaced_15 : decode cL_isPlaced 15 = .ok (.sipush (-1001), 3) := by decide +kernel
theorem dL_isPlaced_18 : decode cL_isPlaced 18 = .ok (.ireturn, 1) := by decide +kernel
set_option maxRecDepth 20000 in
theorem ggL_hatChair_X5_hatChair : GoodIn wsL_hatChair wsX5_hatChair := goodIn_ca (goodIn_ca (goodIn_ca (goodIn_r _ [6, 7, 8, 9, 10, 11, 5, 12, 13, 14, 15, 16, 17, 18, 19, 20, 21, 22, 23, 24, 25, 26, 27, 28, 29, 30, 31, 32, 33, 34, 35, 36, 37, 38, 39, 40, 41, 42, 43, 44, 45, 46, 47, 48, 49, 50, 51, 52, 53, 54, 55, 56] (by decide +kernel) (by decide +kernel)) (goodIn_sub (fun _ h => List.mem_cons_of_mem _ (List.mem_append_left _ (List.mem_append_left _ (List.mem_append_right _ h)))) (by decide +kernel))) (goodIn_sub (fun _ h => List.mem_cons_of_mem _ (List.mem_append_left _ (List.mem_append_right _ h))) (by decide +kernel))) (goodIn_sub (fun _ h => List.mem_cons_of_mem _ (List.mem_append_right _ h)) (by decide +kernel))
set_option maxRecDepth 20000 in
theorem gL_hatChair_X5_hatChair : GoodIn wsL_hatChair (wsV RL 46 RX5 yX5_hatChair wsX5_hatChair) := goodIn_app (goodIn_of _ (by decide +kernel)) ggL_hatChair_X5_hatChair
theorem dL_hatChair_0 : decode cL_hatChair 0 = .ok (.aload_n 0, 1) := by decide +kernel
theorem dL_hatChair_1 : decode cL_hatChair 1 = .ok (.iload_n 1, 1) := by decide +kernel
theorem dL_hatChair_2 : decode cL_hatChair 2 = .ok (.invokevirtual 46, 3) := by decide +kernel
theorem dL_hatChair_5 : decode cL_hatChair 5 = .ok (.ireturn, 1) := by decide +kernel
theorem dL_hatChair_6 : decode cL_hatChair 6 = .ok (.astore_n 2, 1) := by decide +kernel
theorem dL_hatChair_7 : decode cL_hatChair 7 = .ok (.sipush (-1001), 3) := by decide +kernel
theorem dL_hatChair_10 : decode cL_hatChair 10 = .ok (.ireturn, 1) := by decide +kernel
theorem dL_hatChair_11 : decode cL_hatChair 11 = .ok (.astore_n 2, 1) := by decide +kernel
theorem dL_hatChair_12 : decode cL_hatChair 12 = .ok (.sipush (-1002), 3) := by decide +kernel
theorem dL_hatChair_15 : decode cL_hatChair 15 = .ok (.ireturn, 1) := by decide +kernel
set_option maxRecDepth 20000 in
theorem ggL_coverSize_X5_coverSize : GoodIn wsL_coverSize wsX5_coverSize := goodIn_ca (goodIn_ca (goodIn_r _ [6, 7, 8, 9, 10, 5, 11, 12, 13, 14, 15, 16, 17, 18, 19, 20, 21, 22, 23, 24, 25, 26, 27, 28, 29, 30, 31, 32, 33, 34, 35, 36, 37, 38, 39, 40, 41, 42, 43, 44, 45, 46, 47, 48, 49, 50, 51, 52, 53, 54, 55, 56] (by decide +kernel) (by decide +kernel)) (goodIn_sub (fun _ h => List.mem_cons_of_mem _ (List.mem_append_left _ (List.mem_append_right _ h))) (by decide +kernel))) (goodIn_sub (fun _ h => List.mem_cons_of_mem _ (List.mem_append_right _ h)) (by decide +kernel))
set_option maxRecDepth 20000 in
theorem gL_coverSize_X5_coverSize : GoodIn wsL_coverSize (wsV RL 49 RX5 yX5_coverSize wsX5_coverSize) := goodIn_app (goodIn_of _ (by decide +kernel)) ggL_coverSize_X5_coverSize
theorem dL_coverSize_0 : decode cL_coverSize 0 = .ok (.aload_n 0, 1) := by decide +kernel
theorem dL_coverSize_1 : decode cL_coverSize 1 = .ok (.iload_n 1, 1) := by decide +kernel
theorem dL_coverSize_2 : decode cL_coverSize 2 = .ok (.invokevirtual 49, 3) := by decide +kernel
theorem dL_coverSize_5 : decode cL_coverSize 5 = .ok (.ireturn, 1) := by decide +kernel
theorem dL_coverSize_6 : decode cL_coverSize 6 = .ok (.astore_n 2, 1) := by decide +kernel
theorem dL_coverSize_7 : decode cL_coverSize 7 = .ok (.sipush (-1001), 3) := by decide +kernel
theorem dL_coverSize_10 : decode cL_coverSize 10 = .ok (.ireturn, 1) := by decide +kernel
set_option maxRecDepth 20000 in
theorem ggL_idle_X5_idleMinutes : GoodIn wsL_idle wsX5_idleMinutes := goodIn_ca (goodIn_ca (goodIn_ca (goodIn_r _ [6, 7, 8, 9, 10, 5, 11, 12, 13, 14, 15, 16, 17, 18, 19, 20, 21, 22, 23, 24, 25, 26, 27, 28, 29, 30, 31, 32, 33, 34, 35, 36, 37, 38, 39, 40, 41, 42, 43, 44, 45, 46, 47, 48, 49, 50, 51, 52, 53, 54, 55, 56, 57, 58, 59, 60, 61] (by decide +kernel) (by decide +kernel)) (goodIn_sub (fun _ h => List.mem_cons_of_mem _ (List.mem_append_left _ (List.mem_append_left _ (List.mem_append_right _ h)))) (by decide +kernel))) (goodIn_sub (fun _ h => List.mem_cons_of_mem _ (List.mem_append_left _ (List.mem_append_right _ h))) (by decide +kernel))) (goodIn_sub (fun _ h => List.mem_cons_of_mem _ (List.mem_append_right _ h)) (by decide +kernel))
set_option maxRecDepth 20000 in
theorem gL_idle_X5_idleMinutes : GoodIn wsL_idle (wsV RL 52 RX5 yX5_idleMinutes wsX5_idleMinutes) := goodIn_app (goodIn_of _ (by decide +kernel)) ggL_idle_X5_idleMinutes
theorem dL_idle_0 : decode cL_idle 0 = .ok (.aload_n 0, 1) := by decide +kernel
theorem dL_idle_1 : decode cL_idle 1 = .ok (.iload_n 1, 1) := by decide +kernel
theorem dL_idle_2 : decode cL_idle 2 = .ok (.invokevirtual 52, 3) := by decide +kernel
theorem dL_idle_5 : decode cL_idle 5 = .ok (.ireturn, 1) := by decide +kernel
theorem dL_idle_6 : decode cL_idle 6 = .ok (.astore_n 2, 1) := by decide +kernel
theorem dL_idle_7 : decode cL_idle 7 = .ok (.sipush (-1001), 3) := by decide +kernel
theorem dL_idle_10 : decode cL_idle 10 = .ok (.ireturn, 1) := by decide +kernel
theorem dL_idle_11 : decode cL_idle 11 = .ok (.astore_n 2, 1) := by decide +kernel
theorem dL_idle_12 : decode cL_idle 12 = .ok (.sipush (-1002), 3) := by decide +kernel
theorem dL_idle_15 : decode cL_idle 15 = .ok (.ireturn, 1) := by decide +kernel
set_option maxRecDepth 20000 in
theorem ggL_leaveCoat_X5_leaveCoat : GoodIn wsL_leaveCoat wsX5_leaveCoat := goodIn_ca (goodIn_ca (goodIn_ca (goodIn_ca (goodIn_r _ [6, 7, 8, 9, 10, 11, 12, 13, 14, 15, 16, 17, 18, 19, 20, 21, 22, 23, 24, 25, 26, 27, 28, 29, 30, 31, 32, 33, 34, 35, 36, 37, 38, 39, 40, 41, 42, 43, 44, 45, 46, 47, 48, 49, 50, 51, 52, 53, 54, 55, 56, 57, 58, 59, 60, 61, 62, 63, 64, 65, 66, 67, 68, 69, 70, 71, 72, 73, 74, 75, 76, 77, 78, 79, 80, 81, 82, 83, 84, 85, 86, 87, 88, 89, 90, 91, 92, 93, 94, 95, 96, 97, 98, 99, 100, 101, 102, 103, 104, 105, 106, 107, 108, 109] (by decide +kernel) (by decide +kernel)) (goodIn_sub (fun _ h => List.mem_cons_of_mem _ (List.mem_append_left _ (List.mem_append_left _ (List.mem_append_left _ (List.mem_append_right _ h))))) (by decide +kernel))) (goodIn_sub (fun _ h => List.mem_cons_of_mem _ (List.mem_append_left _ (List.mem_append_left _ (List.mem_append_right _ h)))) (by decide +kernel))) (goodIn_sub (fun _ h => List.mem_cons_of_mem _ (List.mem_append_left _ (List.mem_append_right _ h))) (by decide +kernel))) (goodIn_sub (fun _ h => List.mem_cons_of_mem _ (List.mem_append_right _ h)) (by decide +kernel))
set_option maxRecDepth 20000 in
theorem gL_leaveCoat_X5_leaveCoat : GoodIn wsL_leaveCoat (wsV RL 55 RX5 yX5_leaveCoat wsX5_leaveCoat) := goodIn_app (goodIn_of _ (by decide +kernel)) ggL_leaveCoat_X5_leaveCoat
theorem dL_leaveCoat_0 : decode cL_leaveCoat 0 = .ok (.aload_n 0, 1) := by decide +kernel
theorem dL_leaveCoat_1 : decode cL_leaveCoat 1 = .ok (.iload_n 1, 1) := by decide +kernel
theorem dL_leaveCoat_2 : decode cL_leaveCoat 2 = .ok (.iload_n 2, 1) := by decide +kernel
theorem dL_leaveCoat_3 : decode cL_leaveCoat 3 = .ok (.invokevirtual 55, 3) := by decide +kernel
theorem dL_leaveCoat_6 : decode cL_leaveCoat 6 = .ok (.ireturn, 1) := by decide +kernel
theorem dL_leaveCoat_7 : decode cL_leaveCoat 7 = .ok (.astore_n 3, 1) := by decide +kernel
theorem dL_leaveCoat_8 : decode cL_leaveCoat 8 = .ok (.sipush (-1001), 3) := by decide +kernel
theorem dL_leaveCoat_11 : decode cL_leaveCoat 11 = .ok (.ireturn, 1) := by decide +kernel
theorem dL_leaveCoat_12 : decode cL_leaveCoat 12 = .ok (.astore_n 3, 1) := by decide +kernel
theorem dL_leaveCoat_13 : decode cL_leaveCoat 13 = .ok (.sipush (-1002), 3) := by decide +kernel
theorem dL_leaveCoat_16 : decode cL_leaveCoat 16 = .ok (.ireturn, 1) := by decide +kernel
theorem dL_leaveCoat_17 : decode cL_leaveCoat 17 = .ok (.astore_n 3, 1) := by decide +kernel
theorem dL_leaveCoat_18 : decode cL_leaveCoat 18 = .ok (.sipush (-1003), 3) := by decide +kernel
theorem dL_leaveCoat_21 : decode cL_leaveCoat 21 = .ok (.ireturn, 1) := by decide +kernel
set_option maxRecDepth 20000 in
theorem ggL_takeCoat_X5_takeCoat : GoodIn wsL_takeCoat wsX5_takeCoat := goodIn_ca (goodIn_ca (goodIn_ca (goodIn_r _ [6, 7, 8, 9, 10, 11, 5, 12, 13, 14, 15, 16, 17, 18, 19, 20, 21, 22, 23, 24, 25, 26, 27, 28, 29, 30, 31, 32, 33, 34, 35, 36, 37, 38, 39, 40, 41, 42, 43, 44, 45, 46, 47, 48, 49, 50, 51, 52, 53, 54, 55, 56, 57, 58, 59, 60, 61, 62, 63, 64, 65, 66, 67, 68, 69, 70, 71, 72, 73, 74, 75, 76, 77, 78, 79, 80, 81, 82, 83, 84, 85, 86, 87, 88, 89, 90, 91, 92, 93, 94, 95, 96, 97, 98, 99, 100] (by decide +kernel) (by decide +kernel)) (goodIn_sub (fun _ h => List.mem_cons_of_mem _ (List.mem_append_left _ (List.mem_append_left _ (List.mem_append_right _ h)))) (by decide +kernel))) (goodIn_sub (fun _ h => List.mem_cons_of_mem _ (List.mem_append_left _ (List.mem_append_right _ h))) (by decide +kernel))) (goodIn_sub (fun _ h => List.mem_cons_of_mem _ (List.mem_append_right _ h)) (by decide +kernel))
set_option maxRecDepth 20000 in
theorem gL_takeCoat_X5_takeCoat : GoodIn wsL_takeCoat (wsV RL 58 RX5 yX5_takeCoat wsX5_takeCoat) := goodIn_app (goodIn_of _ (by decide +kernel)) ggL_takeCoat_X5_takeCoat
theorem dL_takeCoat_0 : decode cL_takeCoat 0 = .ok (.aload_n 0, 1) := by decide +kernel
theorem dL_takeCoat_1 : decode cL_takeCoat 1 = .ok (.iload_n 1, 1) := by decide +kernel
theorem dL_takeCoat_2 : decode cL_takeCoat 2 = .ok (.invokevirtual 58, 3) := by decide +kernel
theorem dL_takeCoat_5 : decode cL_takeCoat 5 = .ok (.ireturn, 1) := by decide +kernel
theorem dL_takeCoat_6 : decode cL_takeCoat 6 = .ok (.astore_n 2, 1) := by decide +kernel
theorem dL_takeCoat_7 : decode cL_takeCoat 7 = .ok (.sipush (-1001), 3) := by decide +kernel
theorem dL_takeCoat_10 : decode cL_takeCoat 10 = .ok (.ireturn, 1) := by decide +kernel
theorem dL_takeCoat_11 : decode cL_takeCoat 11 = .ok (.astore_n 2, 1) := by decide +kernel
theorem dL_takeCoat_12 : decode cL_takeCoat 12 = .ok (.sipush (-1002), 3) := by decide +kernel
theorem dL_takeCoat_15 : decode cL_takeCoat 15 = .ok (.ireturn, 1) := by decide +kernel
set_option maxRecDepth 20000 in
theorem ggL_hasCoat_X5_hasCoatLeft : GoodIn wsL_hasCoat wsX5_hasCoatLeft := goodIn_ca (goodIn_ca (goodIn_r _ [6, 7, 8, 9, 10, 11, 5, 12, 13, 14, 15, 16, 17, 18, 19, 20, 21, 22, 23, 24, 25, 26, 27, 28, 29, 30, 31, 32, 33, 34, 35, 36, 37, 38, 39, 40, 41, 42, 43, 44, 45] (by decide +kernel) (by decide +kernel)) (goodIn_sub (fun _ h => List.mem_cons_of_mem _ (List.mem_append_left _ (List.mem_append_right _ h))) (by decide +kernel))) (goodIn_sub (fun _ h => List.mem_cons_of_mem _ (List.mem_append_right _ h)) (by decide +kernel))
set_option maxRecDepth 20000 in
theorem gL_hasCoat_X5_hasCoatLeft : GoodIn wsL_hasCoat (wsV RL 61 RX5 yX5_hasCoatLeft wsX5_hasCoatLeft) := goodIn_app (goodIn_of _ (by decide +kernel)) ggL_hasCoat_X5_hasCoatLeft
theorem dL_hasCoat_0 : decode cL_hasCoat 0 = .ok (.aload_n 0, 1) := by decide +kernel
theorem dL_hasCoat_1 : decode cL_hasCoat 1 = .ok (.iload_n 1, 1) := by decide +kernel
theorem dL_hasCoat_2 : decode cL_hasCoat 2 = .ok (.invokevirtual 61, 3) := by decide +kernel
theorem dL_hasCoat_5 : decode cL_hasCoat 5 = .ok (.ifCond .eq 7, 3) := by decide +kernel
theorem dL_hasCoat_8 : decode cL_hasCoat 8 = .ok (.iconst 1, 1) := by decide +kernel
theorem dL_hasCoat_9 : decode cL_hasCoat 9 = .ok (.goto 4, 3) := by decide +kernel
theorem dL_hasCoat_12 : decode cL_hasCoat 12 = .ok (.iconst 0, 1) := by decide +kernel
theorem dL_hasCoat_13 : decode cL_hasCoat 13 = .ok (.ireturn, 1) := by decide +kernel
theorem dL_hasCoat_14 : decode cL_hasCoat 14 = .ok (.astore_n 2, 1) := by decide +kernel
theorem dL_hasCoat_15 : decode cL_hasCoat 15 = .ok (.sipush (-1001), 3) := by decide +kernel
theorem dL_hasCoat_18 : decode cL_hasCoat 18 = .ok (.ireturn, 1) := by decide +kernel
set_option maxRecDepth 20000 in
theorem ggL_coatChair_X5_coatChair : GoodIn wsL_coatChair wsX5_coatChair := goodIn_ca (goodIn_ca (goodIn_ca (goodIn_r _ [6, 7, 8, 9, 10, 11, 5, 12, 13, 14, 15, 16, 17, 18, 19, 20, 21, 22, 23, 24, 25, 26, 27, 28, 29, 30, 31, 32, 33, 34, 35, 36, 37, 38, 39, 40, 41, 42, 43, 44, 45, 46, 47, 48, 49, 50, 51, 52] (by decide +kernel) (by decide +kernel)) (goodIn_sub (fun _ h => List.mem_cons_of_mem _ (List.mem_append_left _ (List.mem_append_left _ (List.mem_append_right _ h)))) (by decide +kernel))) (goodIn_sub (fun _ h => List.mem_cons_of_mem _ (List.mem_append_left _ (List.mem_append_right _ h))) (by decide +kernel))) (goodIn_sub (fun _ h => List.mem_cons_of_mem _ (List.mem_append_right _ h)) (by decide +kernel))
set_option maxRecDepth 20000 in
theorem gL_coatChair_X5_coatChair : GoodIn wsL_coatChair (wsV RL 64 RX5 yX5_coatChair wsX5_coatChair) := goodIn_app (goodIn_of _ (by decide +kernel)) ggL_coatChair_X5_coatChair
theorem dL_coatChair_0 : decode cL_coatChair 0 = .ok (.aload_n 0, 1) := by decide +kernel
theorem dL_coatChair_1 : decode cL_coatChair 1 = .ok (.iload_n 1, 1) := by decide +kernel
theorem dL_coatChair_2 : decode cL_coatChair 2 = .ok (.invokevirtual 64, 3) := by decide +kernel
theorem dL_coatChair_5 : decode cL_coatChair 5 = .ok (.ireturn, 1) := by decide +kernel
theorem dL_coatChair_6 : decode cL_coatChair 6 = .ok (.astore_n 2, 1) := by decide +kernel
theorem dL_coatChair_7 : decode cL_coatChair 7 = .ok (.sipush (-1001), 3) := by decide +kernel
theorem dL_coatChair_10 : decode cL_coatChair 10 = .ok (.ireturn, 1) := by decide +kernel
theorem dL_coatChair_11 : decode cL_coatChair 11 = .ok (.astore_n 2, 1) := by decide +kernel
theorem dL_coatChair_12 : decode cL_coatChair 12 = .ok (.sipush (-1002), 3) := by decide +kernel
theorem dL_coatChair_15 : decode cL_coatChair 15 = .ok (.ireturn, 1) := by decide +kernel
set_option maxRecDepth 20000 in
theorem ggL_coatCount_X5_coatCount : GoodIn wsL_coatCount wsX5_coatCount := goodIn_ca (goodIn_ca (goodIn_r _ [6, 7, 8, 9, 5, 10, 11, 12, 13, 14, 15, 16, 17, 18, 19, 20, 21, 22, 23, 24, 25, 26, 27, 28, 29, 30, 31, 32, 33, 34, 35, 36, 37, 38, 39, 40, 41, 42, 43, 44, 45, 46] (by decide +kernel) (by decide +kernel)) (goodIn_sub (fun _ h => List.mem_cons_of_mem _ (List.mem_append_left _ (List.mem_append_right _ h))) (by decide +kernel))) (goodIn_sub (fun _ h => List.mem_cons_of_mem _ (List.mem_append_right _ h)) (by decide +kernel))
set_option maxRecDepth 20000 in
theorem gL_coatCount_X5_coatCount : GoodIn wsL_coatCount (wsV RL 67 RX5 yX5_coatCount wsX5_coatCount) := goodIn_app (goodIn_of _ (by decide +kernel)) ggL_coatCount_X5_coatCount
theorem dL_coatCount_0 : decode cL_coatCount 0 = .ok (.aload_n 0, 1) := by decide +kernel
theorem dL_coatCount_1 : decode cL_coatCount 1 = .ok (.iload_n 1, 1) := by decide +kernel
theorem dL_coatCount_2 : decode cL_coatCount 2 = .ok (.invokevirtual 67, 3) := by decide +kernel
theorem dL_coatCount_5 : decode cL_coatCount 5 = .ok (.ireturn, 1) := by decide +kernel
theorem dL_coatCount_6 : decode cL_coatCount 6 = .ok (.astore_n 2, 1) := by decide +kernel
theorem dL_coatCount_7 : decode cL_coatCount 7 = .ok (.sipush (-1001), 3) := by decide +kernel
theorem dL_coatCount_10 : decode cL_coatCount 10 = .ok (.ireturn, 1) := by decide +kernel
set_option maxRecDepth 20000 in
theorem ggL_coatOwner_X5_coatOwner : GoodIn wsL_coatOwner wsX5_coatOwner := goodIn_ca (goodIn_ca (goodIn_ca (goodIn_r _ [6, 7, 8, 9, 10, 11, 5, 12, 13, 14, 15, 16, 17, 18, 19, 20, 21, 22, 23, 24, 25, 26, 27, 28, 29, 30, 31, 32, 33, 34, 35, 36, 37, 38, 39, 40, 41, 42, 43, 44, 45, 46, 47, 48, 49] (by decide +kernel) (by decide +kernel)) (goodIn_sub (fun _ h => List.mem_cons_of_mem _ (List.mem_append_left _ (List.mem_append_left _ (List.mem_append_right _ h)))) (by decide +kernel))) (goodIn_sub (fun _ h => List.mem_cons_of_mem _ (List.mem_append_left _ (List.mem_append_right _ h))) (by decide +kernel))) (goodIn_sub (fun _ h => List.mem_cons_of_mem _ (List.mem_append_right _ h)) (by decide +kernel))
set_option maxRecDepth 20000 in
theorem gL_coatOwner_X5_coatOwner : GoodIn wsL_coatOwner (wsV RL 70 RX5 yX5_coatOwner wsX5_coatOwner) := goodIn_app (goodIn_of _ (by decide +kernel)) ggL_coatOwner_X5_coatOwner
theorem dL_coatOwner_0 : decode cL_coatOwner 0 = .ok (.aload_n 0, 1) := by decide +kernel
theorem dL_coatOwner_1 : decode cL_coatOwner 1 = .ok (.iload_n 1, 1) := by decide +kernel
theorem dL_coatOwner_2 : decode cL_coatOwner 2 = .ok (.iload_n 2, 1) := by decide +kernel
theorem dL_coatOwner_3 : decode cL_coatOwner 3 = .ok (.invokevirtual 70, 3) := by decide +kernel
theorem dL_coatOwner_6 : decode cL_coatOwner 6 = .ok (.ireturn, 1) := by decide +kernel
theorem dL_coatOwner_7 : decode cL_coatOwner 7 = .ok (.astore_n 3, 1) := by decide +kernel
theorem dL_coatOwner_8 : decode cL_coatOwner 8 = .ok (.sipush (-1001), 3) := by decide +kernel
theorem dL_coatOwner_11 : decode cL_coatOwner 11 = .ok (.ireturn, 1) := by decide +kernel
theorem dL_coatOwner_12 : decode cL_coatOwner 12 = .ok (.astore_n 3, 1) := by decide +kernel
theorem dL_coatOwner_13 : decode cL_coatOwner 13 = .ok (.sipush (-1002), 3) := by decide +kernel
theorem dL_coatOwner_16 : decode cL_coatOwner 16 = .ok (.ireturn, 1) := by decide +kernel
set_option maxRecDepth 20000 in
theorem ggL_next_X5_nextClaimant : GoodIn wsL_next wsX5_nextClaimant := goodIn_ca (goodIn_ca (goodIn_ca (goodIn_r _ [6, 7, 8, 9, 10, 11, 5, 12, 13, 14, 15, 16, 17, 18, 19, 20, 21, 22, 23, 24, 25, 26, 27, 28, 29, 30, 31, 32, 33, 34, 35, 36, 37, 38, 39, 40, 41, 42, 43, 44, 45, 46, 47, 48, 49, 50, 51, 52, 53, 54, 55, 56, 57, 58] (by decide +kernel) (by decide +kernel)) (goodIn_sub (fun _ h => List.mem_cons_of_mem _ (List.mem_append_left _ (List.mem_append_left _ (List.mem_append_right _ h)))) (by decide +kernel))) (goodIn_sub (fun _ h => List.mem_cons_of_mem _ (List.mem_append_left _ (List.mem_append_right _ h))) (by decide +kernel))) (goodIn_sub (fun _ h => List.mem_cons_of_mem _ (List.mem_append_right _ h)) (by decide +kernel))
set_option maxRecDepth 20000 in
theorem gL_next_X5_nextClaimant : GoodIn wsL_next (wsV RL 73 RX5 yX5_nextClaimant wsX5_nextClaimant) := goodIn_app (goodIn_of _ (by decide +kernel)) ggL_next_X5_nextClaimant
theorem dL_next_0 : decode cL_next 0 = .ok (.aload_n 0, 1) := by decide +kernel
theorem dL_next_1 : decode cL_next 1 = .ok (.iload_n 1, 1) := by decide +kernel
theorem dL_next_2 : decode cL_next 2 = .ok (.invokevirtual 73, 3) := by decide +kernel
theorem dL_next_5 : decode cL_next 5 = .ok (.ireturn, 1) := by decide +kernel
theorem dL_next_6 : decode cL_next 6 = .ok (.astore_n 2, 1) := by decide +kernel
theorem dL_next_7 : decode cL_next 7 = .ok (.sipush (-1001), 3) := by decide +kernel
theorem dL_next_10 : decode cL_next 10 = .ok (.ireturn, 1) := by decide +kernel
theorem dL_next_11 : decode cL_next 11 = .ok (.astore_n 2, 1) := by decide +kernel
theorem dL_next_12 : decode cL_next 12 = .ok (.sipush (-1002), 3) := by decide +kernel
theorem dL_next_15 : decode cL_next 15 = .ok (.ireturn, 1) := by decide +kernel
set_option maxRecDepth 20000 in
theorem ggL_nextByTime_X5_nextClaimantByTime : GoodIn wsL_nextByTime wsX5_nextClaimantByTime := goodIn_ca (goodIn_ca (goodIn_ca (goodIn_r _ [6, 7, 8, 9, 10, 11, 5, 12, 13, 14, 15, 16, 17, 18, 19, 20, 21, 22, 23, 24, 25, 26, 27, 28, 29, 30, 31, 32, 33, 34, 35, 36, 37, 38, 39, 40, 41, 42, 43, 44, 45, 46, 47, 48, 49, 50, 51, 52, 53, 54] (by decide +kernel) (by decide +kernel)) (goodIn_sub (fun _ h => List.mem_cons_of_mem _ (List.mem_append_left _ (List.mem_append_left _ (List.mem_append_right _ h)))) (by decide +kernel))) (goodIn_sub (fun _ h => List.mem_cons_of_mem _ (List.mem_append_left _ (List.mem_append_right _ h))) (by decide +kernel))) (goodIn_sub (fun _ h => List.mem_cons_of_mem _ (List.mem_append_right _ h)) (by decide +kernel))
set_option maxRecDepth 20000 in
theorem gL_nextByTime_X5_nextClaimantByTime : GoodIn wsL_nextByTime (wsV RL 76 RX5 yX5_nextClaimantByTime wsX5_nextClaimantByTime) := goodIn_app (goodIn_of _ (by decide +kernel)) ggL_nextByTime_X5_nextClaimantByTime
theorem dL_nextByTime_0 : decode cL_nextByTime 0 = .ok (.aload_n 0, 1) := by decide +kernel
theorem dL_nextByTime_1 : decode cL_nextByTime 1 = .ok (.iload_n 1, 1) := by decide +kernel
theorem dL_nextByTime_2 : decode cL_nextByTime 2 = .ok (.invokevirtual 76, 3) := by decide +kernel
theorem dL_nextByTime_5 : decode cL_nextByTime 5 = .ok (.ireturn, 1) := by decide +kernel
theorem dL_nextByTime_6 : decode cL_nextByTime 6 = .ok (.astore_n 2, 1) := by decide +kernel
theorem dL_nextByTime_7 : decode cL_nextByTime 7 = .ok (.sipush (-1001), 3) := by decide +kernel
theorem dL_nextByTime_10 : decode cL_nextByTime 10 = .ok (.ireturn, 1) := by decide +kernel
theorem dL_nextByTime_11 : decode cL_nextByTime 11 = .ok (.astore_n 2, 1) := by decide +kernel
theorem dL_nextByTime_12 : decode cL_nextByTime 12 = .ok (.sipush (-1002), 3) := by decide +kernel
theorem dL_nextByTime_15 : decode cL_nextByTime 15 = .ok (.ireturn, 1) := by decide +kernel
set_option maxRecDepth 20000 in
theorem ggL_contest_X5_contest : GoodIn wsL_contest wsX5_contest := goodIn_ca (goodIn_ca (goodIn_ca (goodIn_ca (goodIn_r _ [6, 7, 8, 9, 10, 11, 12, 13, 14, 15, 16, 17, 18, 19, 20, 21, 22, 23, 24, 25, 26, 27, 28, 29, 30, 31, 32, 33, 34, 35, 36, 37, 38, 39, 40, 41, 42, 43, 44, 45, 46, 47, 48, 49, 50, 51, 52, 53, 54, 55, 56, 57, 58, 59, 60, 61, 62, 63, 64, 65, 66, 67, 68, 69, 70, 71, 72, 73, 74, 75, 76, 77, 78, 79, 80, 81, 82, 83, 84, 85, 86, 87, 88, 89, 90, 91, 92, 93, 94, 95, 96, 97, 98, 99, 100, 101, 102, 103, 104, 105, 106, 107, 108, 109, 110, 111, 112, 113, 114, 115, 116, 117, 118, 119, 120, 121, 122, 123, 124, 125, 126, 127, 128, 129, 130, 131, 132, 133, 134, 135, 136, 137, 138, 139, 140, 141, 142, 143, 144, 145, 146, 147, 148, 149, 150, 151, 152, 153, 154, 155, 156, 157, 158, 159] (by decide +kernel) (by decide +kernel)) (goodIn_sub (fun _ h => List.mem_cons_of_mem _ (List.mem_append_left _ (List.mem_append_left _ (List.mem_append_left _ (List.mem_append_right _ h))))) (by decide +kernel))) (goodIn_sub (fun _ h => List.mem_cons_of_mem _ (List.mem_append_left _ (List.mem_append_left _ (List.mem_append_right _ h)))) (by decide +kernel))) (goodIn_sub (fun _ h => List.mem_cons_of_mem _ (List.mem_append_left _ (List.mem_append_right _ h))) (by decide +kernel))) (goodIn_sub (fun _ h => List.mem_cons_of_mem _ (List.mem_append_right _ h)) (by decide +kernel))
set_option maxRecDepth 20000 in
theorem gL_contest_X5_contest : GoodIn wsL_contest (wsV RL 79 RX5 yX5_contest wsX5_contest) := goodIn_app (goodIn_of _ (by decide +kernel)) ggL_contest_X5_contest
theorem dL_contest_0 : decode cL_contest 0 = .ok (.aload_n 0, 1) := by decide +kernel
theorem dL_contest_1 : decode cL_contest 1 = .ok (.iload_n 1, 1) := by decide +kernel
theorem dL_contest_2 : decode cL_contest 2 = .ok (.iload_n 2, 1) := by decide +kernel
theorem dL_contest_3 : decode cL_contest 3 = .ok (.invokevirtual 79, 3) := by decide +kernel
theorem dL_contest_6 : decode cL_contest 6 = .ok (.ifCond .eq 7, 3) := by decide +kernel
theorem dL_contest_9 : decode cL_contest 9 = .ok (.iconst 1, 1) := by decide +kernel
theorem dL_contest_10 : decode cL_contest 10 = .ok (.goto 4, 3) := by decide +kernel
theorem dL_contest_13 : decode cL_contest 13 = .ok (.iconst 0, 1) := by decide +kernel
theorem dL_contest_14 : decode cL_contest 14 = .ok (.ireturn, 1) := by decide +kernel
theorem dL_contest_15 : decode cL_contest 15 = .ok (.astore_n 3, 1) := by decide +kernel
theorem dL_contest_16 : decode cL_contest 16 = .ok (.sipush (-1001), 3) := by decide +kernel
theorem dL_contest_19 : decode cL_contest 19 = .ok (.ireturn, 1) := by decide +kernel
theorem dL_contest_20 : decode cL_contest 20 = .ok (.astore_n 3, 1) := by decide +kernel
theorem dL_contest_21 : decode cL_contest 21 = .ok (.sipush (-1002), 3) := by decide +kernel
theorem dL_contest_24 : decode cL_contest 24 = .ok (.ireturn, 1) := by decide +kernel
theorem dL_contest_25 : decode cL_contest 25 = .ok (.astore_n 3, 1) := by decide +kernel
theorem dL_contest_26 : decode cL_contest 26 = .ok (.sipush (-1003), 3) := by decide +kernel
theorem dL_contest_29 : decode cL_contest 29 = .ok (.ireturn, 1) := by decide +kernel
set_option maxRecDepth 20000 in
theorem ggL_wouldWin_X5_wouldWin : GoodIn wsL_wouldWin wsX5_wouldWin := goodIn_ca (goodIn_ca (goodIn_r _ [6, 7, 8, 9, 10, 11, 12, 13, 14, 15, 16, 17, 18, 19, 20, 21, 22, 23, 24, 25, 26, 27, 28, 29, 30, 31, 32, 33, 34, 35, 36, 37, 38, 39, 40, 41, 42, 43, 44, 45, 46, 47, 48, 49, 50, 51, 52, 53, 54, 55, 56, 57, 58, 59, 60, 61, 62, 63] (by decide +kernel) (by decide +kernel)) (goodIn_sub (fun _ h => List.mem_cons_of_mem _ (List.mem_append_left _ (List.mem_append_right _ h))) (by decide +kernel))) (goodIn_sub (fun _ h => List.mem_cons_of_mem _ (List.mem_append_right _ h)) (by decide +kernel))
set_option maxRecDepth 20000 in
theorem gL_wouldWin_X5_wouldWin : GoodIn wsL_wouldWin (wsV RL 83 RX5 yX5_wouldWin wsX5_wouldWin) := goodIn_app (goodIn_of _ (by decide +kernel)) ggL_wouldWin_X5_wouldWin
theorem dL_wouldWin_0 : decode cL_wouldWin 0 = .ok (.aload_n 0, 1) := by decide +kernel
theorem dL_wouldWin_1 : decode cL_wouldWin 1 = .ok (.iload_n 1, 1) := by decide +kernel
theorem dL_wouldWin_2 : decode cL_wouldWin 2 = .ok (.iload_n 2, 1) := by decide +kernel
theorem dL_wouldWin_3 : decode cL_wouldWin 3 = .ok (.invokevirtual 83, 3) := by decide +kernel
theorem dL_wouldWin_6 : decode cL_wouldWin 6 = .ok (.ifCond .eq 7, 3) := by decide +kernel
theorem dL_wouldWin_9 : decode cL_wouldWin 9 = .ok (.iconst 1, 1) := by decide +kernel
theorem dL_wouldWin_10 : decode cL_wouldWin 10 = .ok (.goto 4, 3) := by decide +kernel
theorem dL_wouldWin_13 : decode cL_wouldWin 13 = .ok (.iconst 0, 1) := by decide +kernel
theorem dL_wouldWin_14 : decode cL_wouldWin 14 = .ok (.ireturn, 1) := by decide +kernel
theorem dL_wouldWin_15 : decode cL_wouldWin 15 = .ok (.astore_n 3, 1) := by decide +kernel
theorem dL_wouldWin_16 : decode cL_wouldWin 16 = .ok (.sipush (-1001), 3) := by decide +kernel
theorem dL_wouldWin_19 : decode cL_wouldWin 19 = .ok (.ireturn, 1) := by decide +kernel
set_option maxRecDepth 20000 in
theorem ggL_pass_X5_pass : GoodIn wsL_pass wsX5_pass := goodIn_ca (goodIn_r _ [6, 7, 8, 9, 10, 11, 12, 13, 14, 15, 16, 17, 18, 19, 20, 21, 22, 23, 24, 25, 26, 27, 28, 29, 30, 31, 32, 33, 34, 35, 36, 37, 38, 39, 40, 41, 42, 43, 44, 45, 46, 47, 48, 49, 50, 51, 52, 53, 54, 55, 56, 57, 58, 59, 60, 61, 62, 63, 64, 65, 66, 67, 68, 69, 70, 71, 72, 73, 74, 75, 76, 77, 78, 79, 80, 81, 82, 83, 84, 85, 86, 87, 88, 89, 90] (by decide +kernel) (by decide +kernel)) (goodIn_sub (fun _ h => List.mem_cons_of_mem _ (List.mem_append_right _ h)) (by decide +kernel))
set_option maxRecDepth 20000 in
theorem gL_pass_X5_pass : GoodIn wsL_pass (wsV RL 86 RX5 yX5_pass wsX5_pass) := goodIn_app (goodIn_of _ (by decide +kernel)) ggL_pass_X5_pass
theorem dL_pass_0 : decode cL_pass 0 = .ok (.aload_n 0, 1) := by decide +kernel
theorem dL_pass_1 : decode cL_pass 1 = .ok (.iload_n 1, 1) := by decide +kernel
theorem dL_pass_2 : decode cL_pass 2 = .ok (.invokevirtual 86, 3) := by decide +kernel
theorem dL_pass_5 : decode cL_pass 5 = .ok (.ireturn, 1) := by decide +kernel
theorem dL_pass_6 : decode cL_pass 6 = .ok (.astore_n 2, 1) := by decide +kernel
theorem dL_pass_7 : decode cL_pass 7 = .ok (.sipush (-1001), 3) := by decide +kernel
theorem dL_pass_10 : decode cL_pass 10 = .ok (.ireturn, 1) := by decide +kernel
set_option maxRecDepth 20000 in
theorem ggL_sweep_X5_sweep : GoodIn wsL_sweep wsX5_sweep := goodIn_ca (goodIn_ca (goodIn_r _ [6, 7, 8, 9, 10, 11, 12, 13, 14, 15, 16, 17, 18, 19, 20, 21, 22, 23, 24, 25, 26, 27, 28, 29, 30, 31, 32, 33, 34, 35, 36, 37, 38, 39, 40, 41, 42, 43, 44, 45, 46, 47, 48, 49, 50, 51, 52, 53, 54, 55, 56, 57, 58, 59, 60, 61, 62, 63, 64, 65, 66, 67, 68, 69, 70, 71, 72, 73, 74, 75, 76, 77, 78, 79, 80, 81, 82, 83, 84, 85, 86, 87, 88, 89, 90, 91, 92, 93, 94, 95, 96, 97, 98, 99, 100, 101, 102, 103, 104, 105, 106, 107, 108, 109, 110, 111, 112, 113, 114, 115, 116, 117, 118, 119, 120, 121, 122, 123, 124, 125, 126, 127, 128, 129, 130, 131, 132, 133, 134, 135, 136, 137, 138, 139, 140] (by decide +kernel) (by decide +kernel)) (goodIn_sub (fun _ h => List.mem_cons_of_mem _ (List.mem_append_left _ (List.mem_append_right _ h))) (by decide +kernel))) (goodIn_sub (fun _ h => List.mem_cons_of_mem _ (List.mem_append_right _ h)) (by decide +kernel))
set_option maxRecDepth 20000 in
theorem gL_sweep_X5_sweep : GoodIn wsL_sweep (wsV RL 89 RX5 yX5_sweep wsX5_sweep) := goodIn_app (goodIn_of _ (by decide +kernel)) ggL_sweep_X5_sweep
theorem dL_sweep_0 : decode cL_sweep 0 = .ok (.aload_n 0, 1) := by decide +kernel
theorem dL_sweep_1 : decode cL_sweep 1 = .ok (.iload_n 1, 1) := by decide +kernel
theorem dL_sweep_2 : decode cL_sweep 2 = .ok (.invokevirtual 89, 3) := by decide +kernel
theorem dL_sweep_5 : decode cL_sweep 5 = .ok (.ireturn, 1) := by decide +kernel
theorem dL_sweep_6 : decode cL_sweep 6 = .ok (.astore_n 2, 1) := by decide +kernel
theorem dL_sweep_7 : decode cL_sweep 7 = .ok (.sipush (-1001), 3) := by decide +kernel
theorem dL_sweep_10 : decode cL_sweep 10 = .ok (.ireturn, 1) := by decide +kernel
set_option maxRecDepth 20000 in
theorem ggL_idlest_X5_idlestGuest : GoodIn wsL_idlest wsX5_idlestGuest := goodIn_ca (goodIn_ca (goodIn_r _ [6, 7, 8, 9, 10, 11, 12, 13, 14, 15, 16, 17, 18, 19, 20, 21, 22, 23, 24, 25, 26, 27, 28, 29, 30, 31, 32, 33, 34, 35, 36, 37, 38, 39, 40, 41, 42, 43, 44, 45, 46, 47, 48, 49, 50] (by decide +kernel) (by decide +kernel)) (goodIn_sub (fun _ h => List.mem_cons_of_mem _ (List.mem_append_left _ (List.mem_append_right _ h))) (by decide +kernel))) (goodIn_sub (fun _ h => List.mem_cons_of_mem _ (List.mem_append_right _ h)) (by decide +kernel))
set_option maxRecDepth 20000 in
theorem gL_idlest_X5_idlestGuest : GoodIn wsL_idlest (wsV RL 92 RX5 yX5_idlestGuest wsX5_idlestGuest) := goodIn_app (goodIn_of _ (by decide +kernel)) ggL_idlest_X5_idlestGuest
theorem dL_idlest_0 : decode cL_idlest 0 = .ok (.aload_n 0, 1) := by decide +kernel
theorem dL_idlest_1 : decode cL_idlest 1 = .ok (.invokevirtual 92, 3) := by decide +kernel
theorem dL_idlest_4 : decode cL_idlest 4 = .ok (.ireturn, 1) := by decide +kernel
theorem dL_idlest_5 : decode cL_idlest 5 = .ok (.astore_n 1, 1) := by decide +kernel
theorem dL_idlest_6 : decode cL_idlest 6 = .ok (.sipush (-1001), 3) := by decide +kernel
theorem dL_idlest_9 : decode cL_idlest 9 = .ok (.ireturn, 1) := by decide +kernel
set_option maxRecDepth 20000 in
theorem ggL_isCovered_X5_isCovered : GoodIn wsL_isCovered wsX5_isCovered := goodIn_ca (goodIn_ca (goodIn_r _ [6, 7, 8, 9, 5, 10, 11, 12, 13, 14, 15, 16, 17, 18, 19, 20, 21, 22, 23, 24, 25, 26, 27, 28, 29, 30, 31, 32, 33, 34, 35, 36, 37, 38, 39, 40, 41, 42, 43, 44, 45, 46] (by decide +kernel) (by decide +kernel)) (goodIn_sub (fun _ h => List.mem_cons_of_mem _ (List.mem_append_left _ (List.mem_append_right _ h))) (by decide +kernel))) (goodIn_sub (fun _ h => List.mem_cons_of_mem _ (List.mem_append_right _ h)) (by decide +kernel))
set_option maxRecDepth 20000 in
theorem gL_isCovered_X5_isCovered : GoodIn wsL_isCovered (wsV RL 96 RX5 yX5_isCovered wsX5_isCovered) := goodIn_app (goodIn_of _ (by decide +kernel)) ggL_isCovered_X5_isCovered
theorem dL_isCovered_0 : decode cL_isCovered 0 = .ok (.aload_n 0, 1) := by decide +kernel
theorem dL_isCovered_1 : decode cL_isCovered 1 = .ok (.iload_n 1, 1) := by decide +kernel
theorem dL_isCovered_2 : decode cL_isCovered 2 = .ok (.invokevirtual 96, 3) := by decide +kernel
theorem dL_isCovered_5 : decode cL_isCovered 5 = .ok (.ifCond .eq 7, 3) := by decide +kernel
theorem dL_isCovered_8 : decode cL_isCovered 8 = .ok (.iconst 1, 1) := by decide +kernel
theorem dL_isCovered_9 : decode cL_isCovered 9 = .ok (.goto 4, 3) := by decide +kernel
theorem dL_isCovered_12 : decode cL_isCovered 12 = .ok (.iconst 0, 1) := by decide +kernel
theorem dL_isCovered_13 : decode cL_isCovered 13 = .ok (.ireturn, 1) := by decide +kernel
theorem dL_isCovered_14 : decode cL_isCovered 14 = .ok (.astore_n 2, 1) := by decide +kernel
theorem dL_isCovered_15 : decode cL_isCovered 15 = .ok (.sipush (-1001), 3) := by decide +kernel
theorem dL_isCovered_18 : decode cL_isCovered 18 = .ok (.ireturn, 1) := by decide +kernel
set_option maxRecDepth 20000 in
theorem ggL_coverer_X5_covererOf : GoodIn wsL_coverer wsX5_covererOf := goodIn_ca (goodIn_ca (goodIn_ca (goodIn_r _ [6, 7, 8, 9, 10, 11, 5, 12, 13, 14, 15, 16, 17, 18, 19, 20, 21, 22, 23, 24, 25, 26, 27, 28, 29, 30, 31, 32, 33, 34, 35, 36, 37, 38, 39, 40, 41, 42, 43, 44, 45, 46, 47, 48] (by decide +kernel) (by decide +kernel)) (goodIn_sub (fun _ h => List.mem_cons_of_mem _ (List.mem_append_left _ (List.mem_append_left _ (List.mem_append_right _ h)))) (by decide +kernel))) (goodIn_sub (fun _ h => List.mem_cons_of_mem _ (List.mem_append_left _ (List.mem_append_right _ h))) (by decide +kernel))) (goodIn_sub (fun _ h => List.mem_cons_of_mem _ (List.mem_append_right _ h)) (by decide +kernel))
set_option maxRecDepth 20000 in
theorem gL_coverer_X5_covererOf : GoodIn wsL_coverer (wsV RL 99 RX5 yX5_covererOf wsX5_covererOf) := goodIn_app (goodIn_of _ (by decide +kernel)) ggL_coverer_X5_covererOf
theorem dL_coverer_0 : decode cL_coverer 0 = .ok (.aload_n 0, 1) := by decide +kernel
theorem dL_coverer_1 : decode cL_coverer 1 = .ok (.iload_n 1, 1) := by decide +kernel
theorem dL_coverer_2 : decode cL_coverer 2 = .ok (.invokevirtual 99, 3) := by decide +kernel
theorem dL_coverer_5 : decode cL_coverer 5 = .ok (.ireturn, 1) := by decide +kernel
theorem dL_coverer_6 : decode cL_coverer 6 = .ok (.astore_n 2, 1) := by decide +kernel
theorem dL_coverer_7 : decode cL_coverer 7 = .ok (.sipush (-1001), 3) := by decide +kernel
theorem dL_coverer_10 : decode cL_coverer 10 = .ok (.ireturn, 1) := by decide +kernel
theorem dL_coverer_11 : decode cL_coverer 11 = .ok (.astore_n 2, 1) := by decide +kernel
theorem dL_coverer_12 : decode cL_coverer 12 = .ok (.sipush (-1002), 3) := by decide +kernel
theorem dL_coverer_15 : decode cL_coverer 15 = .ok (.ireturn, 1) := by decide +kernel
set_option maxRecDepth 20000 in
theorem ggL_longest_X5_longestFreeRun : GoodIn wsL_longest wsX5_longestFreeRun := goodIn_ca (goodIn_ca (goodIn_r _ [6, 7, 8, 9, 5, 10, 11, 12, 13, 14, 15, 16, 17, 18, 19, 20, 21, 22, 23, 24, 25, 26, 27, 28, 29, 30, 31, 32, 33, 34, 35, 36, 37, 38, 39, 40, 41, 42, 43, 44, 45, 46, 47, 48, 49, 50, 51] (by decide +kernel) (by decide +kernel)) (goodIn_sub (fun _ h => List.mem_cons_of_mem _ (List.mem_append_left _ (List.mem_append_right _ h))) (by decide +kernel))) (goodIn_sub (fun _ h => List.mem_cons_of_mem _ (List.mem_append_right _ h)) (by decide +kernel))
set_option maxRecDepth 20000 in
theorem gL_longest_X5_longestFreeRun : GoodIn wsL_longest (wsV RL 102 RX5 yX5_longestFreeRun wsX5_longestFreeRun) := goodIn_app (goodIn_of _ (by decide +kernel)) ggL_longest_X5_longestFreeRun
theorem dL_longest_0 : decode cL_longest 0 = .ok (.aload_n 0, 1) := by decide +kernel
theorem dL_longest_1 : decode cL_longest 1 = .ok (.iload_n 1, 1) := by decide +kernel
theorem dL_longest_2 : decode cL_longest 2 = .ok (.invokevirtual 102, 3) := by decide +kernel
theorem dL_longest_5 : decode cL_longest 5 = .ok (.ireturn, 1) := by decide +kernel
theorem dL_longest_6 : decode cL_longest 6 = .ok (.astore_n 2, 1) := by decide +kernel
theorem dL_longest_7 : decode cL_longest 7 = .ok (.sipush (-1001), 3) := by decide +kernel
theorem dL_longest_10 : decode cL_longest 10 = .ok (.ireturn, 1) := by decide +kernel
set_option maxRecDepth 20000 in
theorem ggL_longestByMask_X5_longestFreeRunByMask : GoodIn wsL_longestByMask wsX5_longestFreeRunByMask := goodIn_ca (goodIn_ca (goodIn_r _ [6, 7, 8, 9, 5, 10, 11, 12, 13, 14, 15, 16, 17, 18, 19, 20, 21, 22, 23, 24, 25, 26, 27, 28, 29, 30, 31, 32, 33, 34, 35, 36, 37, 38, 39, 40, 41, 42, 43, 44, 45, 46, 47, 48, 49] (by decide +kernel) (by decide +kernel)) (goodIn_sub (fun _ h => List.mem_cons_of_mem _ (List.mem_append_left _ (List.mem_append_right _ h))) (by decide +kernel))) (goodIn_sub (fun _ h => List.mem_cons_of_mem _ (List.mem_append_right _ h)) (by decide +kernel))
set_option maxRecDepth 20000 in
theorem gL_longestByMask_X5_longestFreeRunByMask : GoodIn wsL_longestByMask (wsV RL 105 RX5 yX5_longestFreeRunByMask wsX5_longestFreeRunByMask) := goodIn_app (goodIn_of _ (by decide +kernel)) ggL_longestByMask_X5_longestFreeRunByMask
theorem dL_longestByMask_0 : decode cL_longestByMask 0 = .ok (.aload_n 0, 1) := by decide +kernel
theorem dL_longestByMask_1 : decode cL_longestByMask 1 = .ok (.iload_n 1, 1) := by decide +kernel
theorem dL_longestByMask_2 : decode cL_longestByMask 2 = .ok (.invokevirtual 105, 3) := by decide +kernel
theorem dL_longestByMask_5 : decode cL_longestByMask 5 = .ok (.ireturn, 1) := by decide +kernel
theorem dL_longestByMask_6 : decode cL_longestByMask 6 = .ok (.astore_n 2, 1) := by decide +kernel
theorem dL_longestByMask_7 : decode cL_longestByMask 7 = .ok (.sipush (-1001), 3) := by decide +kernel
theorem dL_longestByMask_10 : decode cL_longestByMask 10 = .ok (.ireturn, 1) := by decide +kernel
set_option maxRecDepth 20000 in
theorem ggL_atRank_X5_guestAtRank : GoodIn wsL_atRank wsX5_guestAtRank := goodIn_ca (goodIn_ca (goodIn_r _ [6, 7, 8, 9, 10, 11, 12, 13, 14, 15, 16, 17, 18, 19, 20, 21, 22, 23, 24, 25, 26, 27, 28, 29, 30, 31, 32, 33, 34, 35, 36, 37, 38, 39, 40, 41, 42, 43, 44, 45, 46, 47, 48, 49, 50, 51, 52, 53, 54, 55, 56, 57, 58, 59, 60, 61] (by decide +kernel) (by decide +kernel)) (goodIn_sub (fun _ h => List.mem_cons_of_mem _ (List.mem_append_left _ (List.mem_append_right _ h))) (by decide +kernel))) (goodIn_sub (fun _ h => List.mem_cons_of_mem _ (List.mem_append_right _ h)) (by decide +kernel))
set_option maxRecDepth 20000 in
theorem gL_atRank_X5_guestAtRank : GoodIn wsL_atRank (wsV RL 108 RX5 yX5_guestAtRank wsX5_guestAtRank) := goodIn_app (goodIn_of _ (by decide +kernel)) ggL_atRank_X5_guestAtRank
theorem dL_atRank_0 : decode cL_atRank 0 = .ok (.aload_n 0, 1) := by decide +kernel
theorem dL_atRank_1 : decode cL_atRank 1 = .ok (.iload_n 1, 1) := by decide +kernel
theorem dL_atRank_2 : decode cL_atRank 2 = .ok (.invokevirtual 108, 3) := by decide +kernel
theorem dL_atRank_5 : decode cL_atRank 5 = .ok (.ireturn, 1) := by decide +kernel
theorem dL_atRank_6 : decode cL_atRank 6 = .ok (.astore_n 2, 1) := by decide +kernel
theorem dL_atRank_7 : decode cL_atRank 7 = .ok (.sipush (-1001), 3) := by decide +kernel
theorem dL_atRank_10 : decode cL_atRank 10 = .ok (.ireturn, 1) := by decide +kernel
set_option maxRecDepth 20000 in
theorem ggL_append_X5_append : GoodIn wsL_append wsX5_append := goodIn_ca (goodIn_ca (goodIn_ca (goodIn_r _ [6, 7, 8, 9, 10, 11, 12, 13, 14, 15, 16, 17, 18, 19, 20, 21, 22, 23, 24, 25, 26, 27, 28, 29, 30, 31, 32, 33, 34, 35, 36, 37, 38, 39] (by decide +kernel) (by decide +kernel)) (goodIn_sub (fun _ h => List.mem_cons_of_mem _ (List.mem_append_left _ (List.mem_append_left _ (List.mem_append_right _ h)))) (by decide +kernel))) (goodIn_sub (fun _ h => List.mem_cons_of_mem _ (List.mem_append_left _ (List.mem_append_right _ h))) (by decide +kernel))) (goodIn_sub (fun _ h => List.mem_cons_of_mem _ (List.mem_append_right _ h)) (by decide +kernel))
set_option maxRecDepth 20000 in
theorem gL_append_X5_append : GoodIn wsL_append (wsV RL 111 RX5 yX5_append wsX5_append) := goodIn_app (goodIn_of _ (by decide +kernel)) ggL_append_X5_append
theorem dL_append_0 : decode cL_append 0 = .ok (.aload_n 0, 1) := by decide +kernel
theorem dL_append_1 : decode cL_append 1 = .ok (.iload_n 1, 1) := by decide +kernel
theorem dL_append_2 : decode cL_append 2 = .ok (.invokevirtual 111, 3) := by decide +kernel
theorem dL_append_5 : decode cL_append 5 = .ok (.ireturn, 1) := by decide +kernel
theorem dL_append_6 : decode cL_append 6 = .ok (.astore_n 2, 1) := by decide +kernel
theorem dL_append_7 : decode cL_append 7 = .ok (.sipush (-1001), 3) := by decide +kernel
theorem dL_append_10 : decode cL_append 10 = .ok (.ireturn, 1) := by decide +kernel
theorem dL_append_11 : decode cL_append 11 = .ok (.astore_n 2, 1) := by decide +kernel
theorem dL_append_12 : decode cL_append 12 = .ok (.sipush (-1002), 3) := by decide +kernel
theorem dL_append_15 : decode cL_append 15 = .ok (.ireturn, 1) := by decide +kernel
set_option maxRecDepth 20000 in
theorem ggL_run_X5_run : GoodIn wsL_run wsX5_run := goodIn_ca (goodIn_ca (goodIn_ca (goodIn_r _ [6, 7, 8, 9, 10, 11, 12, 13, 14, 15, 16, 17, 18, 19, 20, 21, 22, 23, 24, 25, 26, 27, 28, 29, 30, 31, 32, 33, 34, 35, 36, 37, 38, 39, 40, 41, 42, 43, 44, 45, 46, 47, 48, 49, 50, 51, 52, 53, 54, 55, 56, 57, 58, 59, 60, 61, 62, 63, 64, 65, 66, 67, 68, 69, 70, 71, 72, 73, 74, 75, 76, 77, 78, 79, 80, 81, 82, 83, 84, 85, 86, 87, 88, 89, 90, 91, 92, 93, 94, 95, 96, 97, 98, 99, 100, 101, 102, 103, 104, 105, 106, 107, 108, 109, 110, 111, 112, 113, 114, 115, 116, 117, 118, 119, 120, 121, 122, 123, 124, 125, 126, 127, 128, 129, 130, 131, 132, 133, 134, 135, 136, 137, 138, 139, 140, 141, 142, 143, 144, 145, 146, 147, 148, 149, 150, 151, 152, 153, 154, 155, 156, 157, 158, 159, 160, 161, 162, 163, 164, 165, 166, 167, 168, 169, 170, 171, 172, 173, 174, 175, 176, 177, 178, 179, 180, 181, 182, 183, 184, 185, 186, 187, 188, 189, 190, 191, 192, 193, 194, 195, 196, 197, 198, 199, 200, 201, 202, 203, 204, 205, 206, 207, 208, 209, 210, 211, 212, 213, 214, 215, 216, 217, 218, 219, 220, 221, 222, 223, 224, 225, 226, 227, 228, 229, 230, 231, 232, 233, 234, 235, 236, 237, 238, 239, 240, 241, 242, 243, 244, 245, 246, 247, 248, 249, 250, 251, 252, 253, 254, 255, 256, 257, 258, 259, 260, 261, 262, 263, 264, 265, 266, 267, 268, 269, 270, 271, 272, 273, 274, 275, 276, 277, 278, 279, 280, 281, 282, 283, 284, 285, 286, 287, 288, 289, 290, 291, 292, 293, 294, 295, 296, 297, 298, 299, 300, 301, 302, 303, 304, 305, 306, 307, 308, 309, 310, 311, 312, 313, 314, 315, 316, 317, 318, 319, 320, 321, 322, 323, 324, 325, 326, 327, 328, 329, 330, 331, 332, 333, 334, 335, 336, 337, 338, 339, 340, 341, 342, 343, 344, 345, 346, 347, 348, 349, 350, 351, 352, 353, 354, 355, 356, 357, 358] (by decide +kernel) (by decide +kernel)) (goodIn_sub (fun _ h => List.mem_cons_of_mem _ (List.mem_append_left _ (List.mem_append_left _ (List.mem_append_right _ h)))) (by decide +kernel))) (goodIn_sub (fun _ h => List.mem_cons_of_mem _ (List.mem_append_left _ (List.mem_append_right _ h))) (by decide +kernel))) (goodIn_sub (fun _ h => List.mem_cons_of_mem _ (List.mem_append_right _ h)) (by decide +kernel))
set_option maxRecDepth 20000 in
theorem gL_run_X5_run : GoodIn wsL_run (wsV RL 115 RX5 yX5_run wsX5_run) := goodIn_app (goodIn_of _ (by decide +kernel)) ggL_run_X5_run
theorem dL_run_0 : decode cL_run 0 = .ok (.aload_n 0, 1) := by decide +kernel
theorem dL_run_1 : decode cL_run 1 = .ok (.invokevirtual 115, 3) := by decide +kernel
theorem dL_run_4 : decode cL_run 4 = .ok (.ireturn, 1) := by decide +kernel
theorem dL_run_5 : decode cL_run 5 = .ok (.astore_n 1, 1) := by decide +kernel
theorem dL_run_6 : decode cL_run 6 = .ok (.sipush (-1001), 3) := by decide +kernel
theorem dL_run_9 : decode cL_run 9 = .ok (.ireturn, 1) := by decide +kernel
theorem dL_run_10 : decode cL_run 10 = .ok (.astore_n 1, 1) := by decide +kernel
theorem dL_run_11 : decode cL_run 11 = .ok (.sipush (-1002), 3) := by decide +kernel
theorem dL_run_14 : decode cL_run 14 = .ok (.ireturn, 1) := by decide +kernel
set_option maxRecDepth 20000 in
theorem ggL_errorPosition_X5_errorPosition : GoodIn wsL_errorPosition wsX5_errorPosition := goodIn_ca (goodIn_r _ [6, 7, 8, 9, 10, 11, 12, 13, 14, 15, 16, 17, 18, 19] (by decide +kernel) (by decide +kernel)) (goodIn_sub (fun _ h => List.mem_cons_of_mem _ (List.mem_append_right _ h)) (by decide +kernel))
set_option maxRecDepth 20000 in
theorem gL_errorPosition_X5_errorPosition : GoodIn wsL_errorPosition (wsV RL 118 RX5 yX5_errorPosition wsX5_errorPosition) := goodIn_app (goodIn_of _ (by decide +kernel)) ggL_errorPosition_X5_errorPosition
theorem dL_errorPosition_0 : decode cL_errorPosition 0 = .ok (.aload_n 0, 1) := by decide +kernel
theorem dL_errorPosition_1 : decode cL_errorPosition 1 = .ok (.invokevirtual 118, 3) := by decide +kernel
theorem dL_errorPosition_4 : decode cL_errorPosition 4 = .ok (.ireturn, 1) := by decide +kernel
theorem dL_errorPosition_5 : decode cL_errorPosition 5 = .ok (.astore_n 1, 1) := by decide +kernel
theorem dL_errorPosition_6 : decode cL_errorPosition 6 = .ok (.sipush (-1001), 3) := by decide +kernel
theorem dL_errorPosition_9 : decode cL_errorPosition 9 = .ok (.ireturn, 1) := by decide +kernel
set_option maxRecDepth 20000 in
theorem ggL_failedCommand_X5_failedCommand : GoodIn wsL_failedCommand wsX5_failedCommand := goodIn_ca (goodIn_r _ [6, 7, 8, 9, 10, 11, 12, 13, 14, 15, 16, 17, 18, 19] (by decide +kernel) (by decide +kernel)) (goodIn_sub (fun _ h => List.mem_cons_of_mem _ (List.mem_append_right _ h)) (by decide +kernel))
set_option maxRecDepth 20000 in
theorem gL_failedCommand_X5_failedCommand : GoodIn wsL_failedCommand (wsV RL 121 RX5 yX5_failedCommand wsX5_failedCommand) := goodIn_app (goodIn_of _ (by decide +kernel)) ggL_failedCommand_X5_failedCommand
theorem dL_failedCommand_0 : decode cL_failedCommand 0 = .ok (.aload_n 0, 1) := by decide +kernel
theorem dL_failedCommand_1 : decode cL_failedCommand 1 = .ok (.invokevirtual 121, 3) := by decide +kernel
theorem dL_failedCommand_4 : decode cL_failedCommand 4 = .ok (.ireturn, 1) := by decide +kernel
theorem dL_failedCommand_5 : decode cL_failedCommand 5 = .ok (.astore_n 1, 1) := by decide +kernel
theorem dL_failedCommand_6 : decode cL_failedCommand 6 = .ok (.sipush (-1001), 3) := by decide +kernel
theorem dL_failedCommand_9 : decode cL_failedCommand 9 = .ok (.ireturn, 1) := by decide +kernel
set_option maxRecDepth 20000 in
theorem ggL_failedException_X5_failedException : GoodIn wsL_failedException wsX5_failedException := goodIn_ca (goodIn_r _ [6, 7, 8, 9, 10, 11, 12, 13, 14, 15, 16, 17, 18, 19] (by decide +kernel) (by decide +kernel)) (goodIn_sub (fun _ h => List.mem_cons_of_mem _ (List.mem_append_right _ h)) (by decide +kernel))
set_option maxRecDepth 20000 in
theorem gL_failedException_X5_failedException : GoodIn wsL_failedException (wsV RL 124 RX5 yX5_failedException wsX5_failedException) := goodIn_app (goodIn_of _ (by decide +kernel)) ggL_failedException_X5_failedException
theorem dL_failedException_0 : decode cL_failedException 0 = .ok (.aload_n 0, 1) := by decide +kernel
theorem dL_failedException_1 : decode cL_failedException 1 = .ok (.invokevirtual 124, 3) := by decide +kernel
theorem dL_failedException_4 : decode cL_failedException 4 = .ok (.ireturn, 1) := by decide +kernel
theorem dL_failedException_5 : decode cL_failedException 5 = .ok (.astore_n 1, 1) := by decide +kernel
theorem dL_failedException_6 : decode cL_failedException 6 = .ok (.sipush (-1001), 3) := by decide +kernel
theorem dL_failedException_9 : decode cL_failedException 9 = .ok (.ireturn, 1) := by decide +kernel
set_option maxRecDepth 20000 in
theorem ggL_describe_X5_describeRow : GoodIn wsL_describe wsX5_describeRow := goodIn_ca (goodIn_ca (goodIn_r _ [6, 7, 8, 9, 10, 11, 5, 12, 13, 14, 15, 16, 17, 18, 19, 20, 21, 22, 23, 24, 25, 26, 27, 28, 29, 30, 31, 32, 33, 34, 35, 36, 37, 38, 39, 40, 41, 42, 43, 44, 45, 46, 47, 48, 49, 50] (by decide +kernel) (by decide +kernel)) (goodIn_sub (fun _ h => List.mem_cons_of_mem _ (List.mem_append_left _ (List.mem_append_right _ h))) (by decide +kernel))) (goodIn_sub (fun _ h => List.mem_cons_of_mem _ (List.mem_append_right _ h)) (by decide +kernel))
set_option maxRecDepth 20000 in
theorem gL_describe_X5_describeRow : GoodIn wsL_describe (wsV RL 127 RX5 yX5_describeRow wsX5_describeRow) := goodIn_app (goodIn_of _ (by decide +kernel)) ggL_describe_X5_describeRow
theorem dL_describe_0 : decode cL_describe 0 = .ok (.aload_n 0, 1) := by decide +kernel
theorem dL_describe_1 : decode cL_describe 1 = .ok (.iload_n 1, 1) := by decide +kernel
theorem dL_describe_2 : decode cL_describe 2 = .ok (.invokevirtual 127, 3) := by decide +kernel
theorem dL_describe_5 : decode cL_describe 5 = .ok (.ireturn, 1) := by decide +kernel
theorem dL_describe_6 : decode cL_describe 6 = .ok (.astore_n 2, 1) := by decide +kernel
theorem dL_describe_7 : decode cL_describe 7 = .ok (.sipush (-1001), 3) := by decide +kernel
theorem dL_describe_10 : decode cL_describe 10 = .ok (.ireturn, 1) := by decide +kernel
set_option maxRecDepth 20000 in
theorem ggL_lineAt_X5_lineAt : GoodIn wsL_lineAt wsX5_lineAt := goodIn_ca (goodIn_ca (goodIn_r _ [6, 7, 8, 9, 10, 11, 12, 13, 14, 15, 16, 17, 18, 19, 20] (by decide +kernel) (by decide +kernel)) (goodIn_sub (fun _ h => List.mem_cons_of_mem _ (List.mem_append_left _ (List.mem_append_right _ h))) (by decide +kernel))) (goodIn_sub (fun _ h => List.mem_cons_of_mem _ (List.mem_append_right _ h)) (by decide +kernel))
set_option maxRecDepth 20000 in
theorem gL_lineAt_X5_lineAt : GoodIn wsL_lineAt (wsV RL 130 RX5 yX5_lineAt wsX5_lineAt) := goodIn_app (goodIn_of _ (by decide +kernel)) ggL_lineAt_X5_lineAt
theorem dL_lineAt_0 : decode cL_lineAt 0 = .ok (.aload_n 0, 1) := by decide +kernel
theorem dL_lineAt_1 : decode cL_lineAt 1 = .ok (.iload_n 1, 1) := by decide +kernel
theorem dL_lineAt_2 : decode cL_lineAt 2 = .ok (.invokevirtual 130, 3) := by decide +kernel
theorem dL_lineAt_5 : decode cL_lineAt 5 = .ok (.ireturn, 1) := by decide +kernel
theorem dL_lineAt_6 : decode cL_lineAt 6 = .ok (.astore_n 2, 1) := by decide +kernel
theorem dL_lineAt_7 : decode cL_lineAt 7 = .ok (.sipush (-1001), 3) := by decide +kernel
theorem dL_lineAt_10 : decode cL_lineAt 10 = .ok (.ireturn, 1) := by decide +kernel
set_option maxRecDepth 20000 in
theorem ggL_meanCover_X5_meanCover : GoodIn wsL_meanCover wsX5_meanCover := goodIn_ca (goodIn_ca (goodIn_r _ [7, 8, 9, 10, 11, 12, 13, 14, 15, 16, 17, 18, 19, 20, 21, 22, 23, 24, 25, 26, 27, 28, 29, 30, 31, 32, 33, 34, 35, 36, 37, 38, 39, 40, 41, 42, 43, 44, 45, 46, 47, 48, 49, 50, 51, 52, 53, 54] (by decide +kernel) (by decide +kernel)) (goodIn_sub (fun _ h => List.mem_cons_of_mem _ (List.mem_append_left _ (List.mem_append_right _ h))) (by decide +kernel))) (goodIn_sub (fun _ h => List.mem_cons_of_mem _ (List.mem_append_right _ h)) (by decide +kernel))
set_option maxRecDepth 20000 in
theorem gL_meanCover_X5_meanCover : GoodIn wsL_meanCover (wsV RL 134 RX5 yX5_meanCover wsX5_meanCover) := goodIn_app (goodIn_of _ (by decide +kernel)) ggL_meanCover_X5_meanCover
theorem dL_meanCover_0 : decode cL_meanCover 0 = .ok (.aload_n 0, 1) := by decide +kernel
theorem dL_meanCover_1 : decode cL_meanCover 1 = .ok (.invokevirtual 134, 3) := by decide +kernel
theorem dL_meanCover_4 : decode cL_meanCover 4 = .ok (.dreturn, 1) := by decide +kernel
theorem dL_meanCover_5 : decode cL_meanCover 5 = .ok (.astore_n 1, 1) := by decide +kernel
theorem dL_meanCover_6 : decode cL_meanCover 6 = .ok (.ldc2_w 140, 3) := by decide +kernel
theorem dL_meanCover_9 : decode cL_meanCover 9 = .ok (.dreturn, 1) := by decide +kernel
set_option maxRecDepth 20000 in
theorem ggL_undo_X5_undo : GoodIn wsL_undo wsX5_undo := goodIn_ca (goodIn_r _ [6, 7, 8, 9, 10, 11, 12, 13, 14, 15, 16, 17, 18, 19, 20, 21, 22, 23, 24, 25, 26, 27, 28, 29, 30, 31, 32, 33, 34, 35, 36, 37, 38, 39, 40, 41, 42, 43, 44, 45, 46, 47, 48, 49, 50, 51, 52, 53, 54, 55, 56, 57, 58, 59, 60, 61, 62, 63, 64, 65, 66, 67, 68, 69, 70, 71] (by decide +kernel) (by decide +kernel)) (goodIn_sub (fun _ h => List.mem_cons_of_mem _ (List.mem_append_right _ h)) (by decide +kernel))
set_option maxRecDepth 20000 in
theorem gL_undo_X5_undo : GoodIn wsL_undo (wsV RL 142 RX5 yX5_undo wsX5_undo) := goodIn_app (goodIn_of _ (by decide +kernel)) ggL_undo_X5_undo
theorem dL_undo_0 : decode cL_undo 0 = .ok (.aload_n 0, 1) := by decide +kernel
theorem dL_undo_1 : decode cL_undo 1 = .ok (.invokevirtual 142, 3) := by decide +kernel
theorem dL_undo_4 : decode cL_undo 4 = .ok (.ireturn, 1) := by decide +kernel
theorem dL_undo_5 : decode cL_undo 5 = .ok (.astore_n 1, 1) := by decide +kernel
theorem dL_undo_6 : decode cL_undo 6 = .ok (.sipush (-1001), 3) := by decide +kernel
theorem dL_undo_9 : decode cL_undo 9 = .ok (.ireturn, 1) := by decide +kernel
set_option maxRecDepth 20000 in
theorem ggL_restore_X5_restore : GoodIn wsL_restore wsX5_restore := goodIn_ca (goodIn_ca (goodIn_r _ [6, 7, 8, 9, 10, 11, 12, 13, 14, 15, 16, 17, 18, 19, 20, 21, 22, 23, 24, 25, 26, 27, 28, 29, 30, 31, 32, 33, 34, 35, 36, 37, 38, 39, 40, 41, 42, 43, 44, 45, 46, 47, 48, 49, 50, 51, 52, 53, 54, 55, 56, 57, 58, 59, 60, 61, 62, 63, 64, 65, 66, 67, 68, 69, 70, 71, 72, 73, 74, 75, 76, 77, 78] (by decide +kernel) (by decide +kernel)) (goodIn_sub (fun _ h => List.mem_cons_of_mem _ (List.mem_append_left _ (List.mem_append_right _ h))) (by decide +kernel))) (goodIn_sub (fun _ h => List.mem_cons_of_mem _ (List.mem_append_right _ h)) (by decide +kernel))
set_option maxRecDepth 20000 in
theorem gL_restore_X5_restore : GoodIn wsL_restore (wsV RL 145 RX5 yX5_restore wsX5_restore) := goodIn_app (goodIn_of _ (by decide +kernel)) ggL_restore_X5_restore
theorem dL_restore_0 : decode cL_restore 0 = .ok (.aload_n 0, 1) := by decide +kernel
theorem dL_restore_1 : decode cL_restore 1 = .ok (.invokevirtual 145, 3) := by decide +kernel
theorem dL_restore_4 : decode cL_restore 4 = .ok (.ireturn, 1) := by decide +kernel
theorem dL_restore_5 : decode cL_restore 5 = .ok (.astore_n 1, 1) := by decide +kernel
theorem dL_restore_6 : decode cL_restore 6 = .ok (.sipush (-1001), 3) := by decide +kernel
theorem dL_restore_9 : decode cL_restore 9 = .ok (.ireturn, 1) := by decide +kernel
set_option maxRecDepth 20000 in
theorem ggL_runs_J0_length_8abf5 : GoodIn wsL_runs wsJ0_length_8abf5 := goodIn_r _ [5, 6, 7, 8, 9, 4, 10, 11, 12, 341, 342, 343, 344] (by decide +kernel) (by decide +kernel)
set_option maxRecDepth 20000 in
theorem gL_runs_J0_length_8abf5 : GoodIn wsL_runs (wsV RL 148 RJ0 yJ0_length_8abf5 wsJ0_length_8abf5) := goodIn_app (goodIn_of _ (by decide +kernel)) ggL_runs_J0_length_8abf5
set_option maxRecDepth 20000 in
theorem ggL_runs_J0_charAt_5068e : GoodIn wsL_runs wsJ0_charAt_5068e := goodIn_r _ [16, 6, 17, 18, 19, 4, 20, 11, 12, 21, 22, 23, 24, 25, 26, 27, 28, 29, 30, 31, 32, 33, 34, 35, 36, 37, 38, 39, 40, 41, 42, 43, 44, 45, 46, 47, 48, 49, 341, 342, 343, 344] (by decide +kernel) (by decide +kernel)
set_option maxRecDepth 20000 in
theorem gL_runs_J0_charAt_5068e : GoodIn wsL_runs (wsV RL 153 RJ0 yJ0_charAt_5068e wsJ0_charAt_5068e) := goodIn_app (goodIn_of _ (by decide +kernel)) ggL_runs_J0_charAt_5068e
set_option maxRecDepth 20000 in
theorem ggL_runs_L_append : GoodIn wsL_runs wsL_append := goodIn_ca (goodIn_ca (goodIn_ca (goodIn_r _ [53, 54, 55, 56, 57, 58, 59, 60, 61, 62, 63, 64, 65, 66, 67, 68, 69, 70, 71, 72, 73, 74, 75, 345, 346, 347, 348, 349, 350, 351, 352, 353, 354, 355, 356, 357, 358, 359, 360, 361] (by decide +kernel) (by decide +kernel)) (goodIn_sub (fun _ h => List.mem_cons_of_mem _ (List.mem_append_left _ (List.mem_append_left _ (List.mem_append_right _ h)))) (by decide +kernel))) (goodIn_sub (fun _ h => List.mem_cons_of_mem _ (List.mem_append_left _ (List.mem_append_right _ h))) (by decide +kernel))) (goodIn_sub (fun _ h => List.mem_cons_of_mem _ (List.mem_append_right _ h)) (by decide +kernel))
set_option maxRecDepth 20000 in
theorem gL_runs_L_append : GoodIn wsL_runs (va_wsS RL 156 yL_append wsL_append) := goodIn_app (goodIn_of _ (by decide +kernel)) ggL_runs_L_append
set_option maxRecDepth 20000 in
theorem ggL_runs_L_run : GoodIn wsL_runs wsL_run := goodIn_ca (goodIn_ca (goodIn_ca (goodIn_r _ [78, 54, 79, 80, 81, 58, 82, 60, 61, 62, 63, 64, 83, 84, 85, 86, 87, 88, 89, 90, 91, 92, 93, 94, 95, 68, 96, 97, 98, 70, 99, 100, 101, 102, 103, 104, 105, 106, 107, 108, 109, 110, 111, 112, 113, 114, 115, 116, 117, 118, 119, 120, 121, 75, 122, 2, 3, 4, 5, 6, 7, 8, 9, 10, 11, 12, 123, 14, 15, 16, 17, 18, 19, 20, 21, 22, 23, 24, 25, 26, 27, 28, 29, 30, 31, 32, 33, 34, 35, 36, 37, 38, 39, 40, 41, 42, 43, 44, 45, 46, 47, 48, 49, 124, 125, 126, 127, 128, 129, 130, 131, 132, 133, 134, 135, 136, 137, 138, 139, 140, 141, 142, 143, 144, 145, 146, 147, 148, 149, 150, 151, 152, 153, 154, 155, 156, 157, 158, 159, 160, 161, 162, 163, 164, 165, 166, 167, 168, 169, 170, 171, 172, 173, 174, 175, 176, 177, 178, 179, 180, 181, 182, 183, 184, 185, 186, 187, 188, 189, 190, 191, 192, 193, 194, 195, 196, 197, 198, 199, 200, 201, 202, 203, 204, 205, 206, 207, 208, 209, 210, 211, 212, 213, 214, 215, 216, 217, 218, 219, 220, 221, 222, 223, 224, 225, 226, 227, 228, 229, 230, 231, 232, 233, 234, 235, 236, 237, 238, 239, 240, 241, 242, 243, 244, 245, 246, 247, 248, 249, 250, 251, 252, 253, 254, 255, 256, 257, 258, 259, 260, 261, 262, 263, 264, 265, 266, 267, 268, 269, 270, 271, 272, 273, 274, 275, 276, 277, 278, 279, 280, 281, 282, 283, 284, 285, 286, 287, 288, 289, 290, 291, 292, 293, 294, 295, 296, 297, 298, 299, 300, 301, 302, 303, 304, 305, 306, 307, 308, 309, 310, 311, 312, 313, 314, 315, 316, 317, 318, 319, 320, 321, 322, 323, 324, 325, 326, 327, 328, 329, 330, 331, 332, 333, 334, 335, 336, 337, 338, 339, 340, 345, 346, 347, 348, 349, 350, 351, 352, 353, 354, 355, 356, 357, 358, 359, 360, 361, 341, 342, 343, 344, 362, 363, 364, 365, 366, 367, 368, 369, 370, 371, 372, 373, 374, 375, 376, 377, 378, 379] (by decide +kernel) (by decide +kernel)) (goodIn_sub (fun _ h => List.mem_cons_of_mem _ (List.mem_append_left _ (List.mem_append_left _ (List.mem_append_right _ h)))) (by decide +kernel))) (goodIn_sub (fun _ h => List.mem_cons_of_mem _ (List.mem_append_right _ h)) (by decide +kernel))) (goodIn_sub (fun _ h => List.mem_cons_of_mem _ (List.mem_append_left _ (List.mem_append_right _ h))) (by decide +kernel))
set_option maxRecDepth 20000 in
theorem gL_runs_L_run : GoodIn wsL_runs (va_wsS RL 161 yL_run wsL_run) := goodIn_app (goodIn_of _ (by decide +kernel)) ggL_runs_L_run
theorem dL_runs_0 : decode cL_runs 0 = .ok (.iconst 0, 1) := by decide +kernel
theorem dL_runs_1 : decode cL_runs 1 = .ok (.istore_n 2, 1) := by decide +kernel
theorem dL_runs_2 : decode cL_runs 2 = .ok (.iload_n 2, 1) := by decide +kernel
theorem dL_runs_3 : decode cL_runs 3 = .ok (.aload_n 1, 1) := by decide +kernel
theorem dL_runs_4 : decode cL_runs 4 = .ok (.invokevirtual 148, 3) := by decide +kernel
theorem dL_runs_7 : decode cL_runs 7 = .ok (.if_icmp .ge 28, 3) := by decide +kernel
theorem dL_runs_10 : decode cL_runs 10 = .ok (.aload_n 0, 1) := by decide +kernel
theorem dL_runs_11 : decode cL_runs 11 = .ok (.aload_n 1, 1) := by decide +kernel
theorem dL_runs_12 : decode cL_runs 12 = .ok (.iload_n 2, 1) := by decide +kernel
theorem dL_runs_13 : decode cL_runs 13 = .ok (.invokevirtual 153, 3) := by decide +kernel
theorem dL_runs_16 : decode cL_runs 16 = .ok (.invokestatic 156, 3) := by decide +kernel
theorem dL_runs_19 : decode cL_runs 19 = .ok (.iload_n 2, 1) := by decide +kernel
theorem dL_runs_20 : decode cL_runs 20 = .ok (.iconst 1, 1) := by decide +kernel
theorem dL_runs_21 : decode cL_runs 21 = .ok (.iadd, 1) := by decide +kernel
theorem dL_runs_22 : decode cL_runs 22 = .ok (.if_icmp .eq 7, 3) := by decide +kernel
theorem dL_runs_25 : decode cL_runs 25 = .ok (.sipush (-9999), 3) := by decide +kernel
theorem dL_runs_28 : decode cL_runs 28 = .ok (.ireturn, 1) := by decide +kernel
theorem dL_runs_29 : decode cL_runs 29 = .ok (.iinc 2 1, 3) := by decide +kernel
theorem dL_runs_32 : decode cL_runs 32 = .ok (.goto (-30), 3) := by decide +kernel
theorem dL_runs_35 : decode cL_runs 35 = .ok (.aload_n 0, 1) := by decide +kernel
theorem dL_runs_36 : decode cL_runs 36 = .ok (.invokestatic 161, 3) := by decide +kernel
theorem dL_runs_39 : decode cL_runs 39 = .ok (.ireturn, 1) := by decide +kernel
theorem dL_makes_0 : decode cL_makes 0 = .ok (.iconst 3, 1) := by decide +kernel
theorem dL_makes_1 : decode cL_makes 1 = .ok (.aload_n 1, 1) := by decide +kernel
theorem dL_makes_2 : decode cL_makes 2 = .ok (.iconst 0, 1) := by decide +kernel
theorem dL_makes_3 : decode cL_makes 3 = .ok (.invokestatic 170, 3) := by decide +kernel
theorem dL_makes_6 : decode cL_makes 6 = .ok (.bipush 6, 2) := by decide +kernel
theorem dL_makes_8 : decode cL_makes 8 = .ok (.invokestatic 174, 3) := by decide +kernel
theorem dL_makes_11 : decode cL_makes 11 = .ok (.iadd, 1) := by decide +kernel
theorem dL_makes_12 : decode cL_makes 12 = .ok (.istore_n 2, 1) := by decide +kernel
theorem dL_makes_13 : decode cL_makes 13 = .ok (.iconst 0, 1) := by decide +kernel
theorem dL_makes_14 : decode cL_makes 14 = .ok (.istore_n 3, 1) := by decide +kernel
theorem dL_makes_15 : decode cL_makes 15 = .ok (.iload_n 3, 1) := by decide +kernel
theorem dL_makes_16 : decode cL_makes 16 = .ok (.iload_n 2, 1) := by decide +kernel
theorem dL_makes_17 : decode cL_makes 17 = .ok (.if_icmp .ge 44, 3) := by decide +kernel
theorem dL_makes_20 : decode cL_makes 20 = .ok (.aload_n 0, 1) := by decide +kernel
theorem dL_makes_21 : decode cL_makes 21 = .ok (.aload_n 1, 1) := by decide +kernel
theorem dL_makes_22 : decode cL_makes 22 = .ok (.iconst 1, 1) := by decide +kernel
theorem dL_makes_23 : decode cL_makes 23 = .ok (.iload_n 3, 1) := by decide +kernel
theorem dL_makes_24 : decode cL_makes 24 = .ok (.iadd, 1) := by decide +kernel
theorem dL_makes_25 : decode cL_makes 25 = .ok (.invokestatic 170, 3) := by decide +kernel
theorem dL_makes_28 : decode cL_makes 28 = .ok (.bipush 10, 2) := by decide +kernel
theorem dL_makes_30 : decode cL_makes 30 = .ok (.invokestatic 174, 3) := by decide +kernel
theorem dL_makes_33 : decode cL_makes 33 = .ok (.aload_n 1, 1) := by decide +kernel
theorem dL_makes_34 : decode cL_makes 34 = .ok (.iconst 1, 1) := by decide +kernel
theorem dL_makes_35 : decode cL_makes 35 = .ok (.iload_n 3, 1) := by decide +kernel
theorem dL_makes_36 : decode cL_makes 36 = .ok (.iadd, 1) := by decide +kernel
theorem dL_makes_37 : decode cL_makes 37 = .ok (.invokestatic 170, 3) := by decide +kernel
theorem dL_makes_40 : decode cL_makes 40 = .ok (.iconst 4, 1) := by decide +kernel
theorem dL_makes_41 : decode cL_makes 41 = .ok (.ishr, 1) := by decide +kernel
theorem dL_makes_42 : decode cL_makes 42 = .ok (.iconst 3, 1) := by decide +kernel
theorem dL_makes_43 : decode cL_makes 43 = .ok (.invokestatic 174, 3) := by decide +kernel
theorem dL_makes_46 : decode cL_makes 46 = .ok (.invokestatic 177, 3) := by decide +kernel
theorem dL_makes_49 : decode cL_makes 49 = .ok (.iload_n 3, 1) := by decide +kernel
theorem dL_makes_50 : decode cL_makes 50 = .ok (.if_icmp .eq 5, 3) := by decide +kernel
theorem dL_makes_53 : decode cL_makes 53 = .ok (.iconst 0, 1) := by decide +kernel
theorem dL_makes_54 : decode cL_makes 54 = .ok (.ireturn, 1) := by decide +kernel
theorem dL_makes_55 : decode cL_makes 55 = .ok (.iinc 3 1, 3) := by decide +kernel
theorem dL_makes_58 : decode cL_makes 58 = .ok (.goto (-43), 3) := by decide +kernel
theorem dL_makes_61 : decode cL_makes 61 = .ok (.iconst 0, 1) := by decide +kernel
theorem dL_makes_62 : decode cL_makes 62 = .ok (.istore_n 3, 1) := by decide +kernel
theorem dL_makes_63 : decode cL_makes 63 = .ok (.iload_n 3, 1) := by decide +kernel
theorem dL_makes_64 : decode cL_makes 64 = .ok (.bipush 8, 2) := by decide +kernel
theorem dL_makes_66 : decode cL_makes 66 = .ok (.if_icmp .ge 50, 3) := by decide +kernel
theorem dL_makes_69 : decode cL_makes 69 = .ok (.aload_n 1, 1) := by decide +kernel
theorem dL_makes_70 : decode cL_makes 70 = .ok (.bipush 9, 2) := by decide +kernel
theorem dL_makes_72 : decode cL_makes 72 = .ok (.iload_n 3, 1) := by decide +kernel
theorem dL_makes_73 : decode cL_makes 73 = .ok (.iadd, 1) := by decide +kernel
theorem dL_makes_74 : decode cL_makes 74 = .ok (.invokestatic 170, 3) := by decide +kernel
theorem dL_makes_77 : decode cL_makes 77 = .ok (.istore 4, 2) := by decide +kernel
theorem dL_makes_79 : decode cL_makes 79 = .ok (.aload_n 0, 1) := by decide +kernel
theorem dL_makes_80 : decode cL_makes 80 = .ok (.iload 4, 2) := by decide +kernel
theorem dL_makes_82 : decode cL_makes 82 = .ok (.iload_n 2, 1) := by decide +kernel
theorem dL_makes_83 : decode cL_makes 83 = .ok (.invokestatic 174, 3) := by decide +kernel
theorem dL_makes_86 : decode cL_makes 86 = .ok (.iload 4, 2) := by decide +kernel
theorem dL_makes_88 : decode cL_makes 88 = .ok (.iconst 3, 1) := by decide +kernel
theorem dL_makes_89 : decode cL_makes 89 = .ok (.ishr, 1) := by decide +kernel
theorem dL_makes_90 : decode cL_makes 90 = .ok (.bipush 20, 2) := by decide +kernel
theorem dL_makes_92 : decode cL_makes 92 = .ok (.invokestatic 174, 3) := by decide +kernel
theorem dL_makes_95 : decode cL_makes 95 = .ok (.invokestatic 180, 3) := by decide +kernel
theorem dL_makes_98 : decode cL_makes 98 = .ok (.istore 5, 2) := by decide +kernel
theorem dL_makes_100 : decode cL_makes 100 = .ok (.iload 5, 2) := by decide +kernel
theorem dL_makes_102 : decode cL_makes 102 = .ok (.sipush (-1001), 3) := by decide +kernel
theorem dL_makes_105 : decode cL_makes 105 = .ok (.if_icmp .ne 5, 3) := by decide +kernel
theorem dL_makes_108 : decode cL_makes 108 = .ok (.iconst 0, 1) := by decide +kernel
theorem dL_makes_109 : decode cL_makes 109 = .ok (.ireturn, 1) := by decide +kernel
theorem dL_makes_110 : decode cL_makes 110 = .ok (.iinc 3 1, 3) := by decide +kernel
theorem dL_makes_113 : decode cL_makes 113 = .ok (.goto (-50), 3) := by decide +kernel
theorem dL_makes_116 : decode cL_makes 116 = .ok (.iconst 0, 1) := by decide +kernel
theorem dL_makes_117 : decode cL_makes 117 = .ok (.istore_n 3, 1) := by decide +kernel
theorem dL_makes_118 : decode cL_makes 118 = .ok (.iload_n 3, 1) := by decide +kernel
theorem dL_makes_119 : decode cL_makes 119 = .ok (.bipush 9, 2) := by decide +kernel
theorem dL_makes_121 : decode cL_makes 121 = .ok (.if_icmp .ge 50, 3) := by decide +kernel
theorem dL_makes_124 : decode cL_makes 124 = .ok (.aload_n 1, 1) := by decide +kernel
theorem dL_makes_125 : decode cL_makes 125 = .ok (.bipush 17, 2) := by decide +kernel
theorem dL_makes_127 : decode cL_makes 127 = .ok (.iload_n 3, 1) := by decide +kernel
theorem dL_makes_128 : decode cL_makes 128 = .ok (.iadd, 1) := by decide +kernel
theorem dL_makes_129 : decode cL_makes 129 = .ok (.invokestatic 170, 3) := by decide +kernel
theorem dL_makes_132 : decode cL_makes 132 = .ok (.istore 4, 2) := by decide +kernel
theorem dL_makes_134 : decode cL_makes 134 = .ok (.aload_n 0, 1) := by decide +kernel
theorem dL_makes_135 : decode cL_makes 135 = .ok (.iload 4, 2) := by decide +kernel
theorem dL_makes_137 : decode cL_makes 137 = .ok (.iload_n 2, 1) := by decide +kernel
theorem dL_makes_138 : decode cL_makes 138 = .ok (.invokestatic 174, 3) := by decide +kernel
theorem dL_makes_141 : decode cL_makes 141 = .ok (.iload 4, 2) := by decide +kernel
theorem dL_makes_143 : decode cL_makes 143 = .ok (.iconst 3, 1) := by decide +kernel
theorem dL_makes_144 : decode cL_makes 144 = .ok (.ishr, 1) := by decide +kernel
theorem dL_makes_145 : decode cL_makes 145 = .ok (.bipush 20, 2) := by decide +kernel
theorem dL_makes_147 : decode cL_makes 147 = .ok (.invokestatic 174, 3) := by decide +kernel
theorem dL_makes_150 : decode cL_makes 150 = .ok (.invokestatic 182, 3) := by decide +kernel
theorem dL_makes_153 : decode cL_makes 153 = .ok (.istore 5, 2) := by decide +kernel
theorem dL_makes_155 : decode cL_makes 155 = .ok (.iload 5, 2) := by decide +kernel
theorem dL_makes_157 : decode cL_makes 157 = .ok (.sipush (-1001), 3) := by decide +kernel
theorem dL_makes_160 : decode cL_makes 160 = .ok (.if_icmp .ne 5, 3) := by decide +kernel
theorem dL_makes_163 : decode cL_makes 163 = .ok (.iconst 0, 1) := by decide +kernel
theorem dL_makes_164 : decode cL_makes 164 = .ok (.ireturn, 1) := by decide +kernel
theorem dL_makes_165 : decode cL_makes 165 = .ok (.iinc 3 1, 3) := by decide +kernel
theorem dL_makes_168 : decode cL_makes 168 = .ok (.goto (-50), 3) := by decide +kernel
theorem dL_makes_171 : decode cL_makes 171 = .ok (.aload_n 0, 1) := by decide +kernel
theorem dL_makes_172 : decode cL_makes 172 = .ok (.iconst 1, 1) := by decide +kernel
theorem dL_makes_173 : decode cL_makes 173 = .ok (.aload_n 1, 1) := by decide +kernel
theorem dL_makes_174 : decode cL_makes 174 = .ok (.bipush 26, 2) := by decide +kernel
theorem dL_makes_176 : decode cL_makes 176 = .ok (.invokestatic 170, 3) := by decide +kernel
theorem dL_makes_179 : decode cL_makes 179 = .ok (.bipush 60, 2) := by decide +kernel
theorem dL_makes_181 : decode cL_makes 181 = .ok (.invokestatic 174, 3) := by decide +kernel
theorem dL_makes_184 : decode cL_makes 184 = .ok (.iadd, 1) := by decide +kernel
theorem dL_makes_185 : decode cL_makes 185 = .ok (.invokestatic 184, 3) := by decide +kernel
theorem dL_makes_188 : decode cL_makes 188 = .ok (.ifCond .le 7, 3) := by decide +kernel
theorem dL_makes_191 : decode cL_makes 191 = .ok (.iconst 1, 1) := by decide +kernel
theorem dL_makes_192 : decode cL_makes 192 = .ok (.goto 4, 3) := by decide +kernel
theorem dL_makes_195 : decode cL_makes 195 = .ok (.iconst 0, 1) := by decide +kernel
theorem dL_makes_196 : decode cL_makes 196 = .ok (.ireturn, 1) := by decide +kernel
theorem dL_asks_0 : decode cL_asks 0 = .ok (.aload_n 0, 1) := by decide +kernel
theorem dL_asks_1 : decode cL_asks 1 = .ok (.invokevirtual 186, 3) := by decide +kernel
theorem dL_asks_4 : decode cL_asks 4 = .ok (.istore_n 1, 1) := by decide +kernel
theorem dL_asks_5 : decode cL_asks 5 = .ok (.ldc2_w 189, 3) := by decide +kernel
theorem dL_asks_8 : decode cL_asks 8 = .ok (.ldc2_w 189, 3) := by decide +kernel
theorem dL_asks_11 : decode cL_asks 11 = .ok (.aload_n 0, 1) := by decide +kernel
theorem dL_asks_12 : decode cL_asks 12 = .ok (.invokestatic 191, 3) := by decide +kernel
theorem dL_asks_15 : decode cL_asks 15 = .ok (.invokestatic 194, 3) := by decide +kernel
theorem dL_asks_18 : decode cL_asks 18 = .ok (.lmul, 1) := by decide +kernel
theorem dL_asks_19 : decode cL_asks 19 = .ok (.aload_n 0, 1) := by decide +kernel
theorem dL_asks_20 : decode cL_asks 20 = .ok (.invokevirtual 200, 3) := by decide +kernel
theorem dL_asks_23 : decode cL_asks 23 = .ok (.invokestatic 204, 3) := by decide +kernel
theorem dL_asks_26 : decode cL_asks 26 = .ok (.i2l, 1) := by decide +kernel
theorem dL_asks_27 : decode cL_asks 27 = .ok (.ladd, 1) := by decide +kernel
theorem dL_asks_28 : decode cL_asks 28 = .ok (.lmul, 1) := by decide +kernel
theorem dL_asks_29 : decode cL_asks 29 = .ok (.aload_n 0, 1) := by decide +kernel
theorem dL_asks_30 : decode cL_asks 30 = .ok (.invokevirtual 210, 3) := by decide +kernel
theorem dL_asks_33 : decode cL_asks 33 = .ok (.ladd, 1) := by decide +kernel
theorem dL_asks_34 : decode cL_asks 34 = .ok (.lstore_n 2, 1) := by decide +kernel
theorem dL_asks_35 : decode cL_asks 35 = .ok (.ldc2_w 189, 3) := by decide +kernel
theorem dL_asks_38 : decode cL_asks 38 = .ok (.ldc2_w 189, 3) := by decide +kernel
theorem dL_asks_41 : decode cL_asks 41 = .ok (.ldc2_w 189, 3) := by decide +kernel
theorem dL_asks_44 : decode cL_asks 44 = .ok (.ldc2_w 189, 3) := by decide +kernel
theorem dL_asks_47 : decode cL_asks 47 = .ok (.ldc2_w 189, 3) := by decide +kernel
theorem dL_asks_50 : decode cL_asks 50 = .ok (.lload_n 2, 1) := by decide +kernel
theorem dL_asks_51 : decode cL_asks 51 = .ok (.lmul, 1) := by decide +kernel
theorem dL_asks_52 : decode cL_asks 52 = .ok (.iload_n 1, 1) := by decide +kernel
theorem dL_asks_53 : decode cL_asks 53 = .ok (.i2l, 1) := by decide +kernel
theorem dL_asks_54 : decode cL_asks 54 = .ok (.ladd, 1) := by decide +kernel
theorem dL_asks_55 : decode cL_asks 55 = .ok (.lmul, 1) := by decide +kernel
theorem dL_asks_56 : decode cL_asks 56 = .ok (.aload_n 0, 1) := by decide +kernel
theorem dL_asks_57 : decode cL_asks 57 = .ok (.invokevirtual 214, 3) := by decide +kernel
theorem dL_asks_60 : decode cL_asks 60 = .ok (.i2l, 1) := by decide +kernel
theorem dL_asks_61 : decode cL_asks 61 = .ok (.ladd, 1) := by decide +kernel
theorem dL_asks_62 : decode cL_asks 62 = .ok (.lmul, 1) := by decide +kernel
theorem dL_asks_63 : decode cL_asks 63 = .ok (.aload_n 0, 1) := by decide +kernel
theorem dL_asks_64 : decode cL_asks 64 = .ok (.invokevirtual 217, 3) := by decide +kernel
theorem dL_asks_67 : decode cL_asks 67 = .ok (.i2l, 1) := by decide +kernel
theorem dL_asks_68 : decode cL_asks 68 = .ok (.ladd, 1) := by decide +kernel
theorem dL_asks_69 : decode cL_asks 69 = .ok (.lmul, 1) := by decide +kernel
theorem dL_asks_70 : decode cL_asks 70 = .ok (.aload_n 0, 1) := by decide +kernel
theorem dL_asks_71 : decode cL_asks 71 = .ok (.invokevirtual 220, 3) := by decide +kernel
theorem dL_asks_74 : decode cL_asks 74 = .ok (.i2l, 1) := by decide +kernel
theorem dL_asks_75 : decode cL_asks 75 = .ok (.ladd, 1) := by decide +kernel
theorem dL_asks_76 : decode cL_asks 76 = .ok (.lmul, 1) := by decide +kernel
theorem dL_asks_77 : decode cL_asks 77 = .ok (.aload_n 0, 1) := by decide +kernel
theorem dL_asks_78 : decode cL_asks 78 = .ok (.invokevirtual 223, 3) := by decide +kernel
theorem dL_asks_81 : decode cL_asks 81 = .ok (.i2l, 1) := by decide +kernel
theorem dL_asks_82 : decode cL_asks 82 = .ok (.ladd, 1) := by decide +kernel
theorem dL_asks_83 : decode cL_asks 83 = .ok (.lstore_n 2, 1) := by decide +kernel
theorem dL_asks_84 : decode cL_asks 84 = .ok (.ldc2_w 189, 3) := by decide +kernel
theorem dL_asks_87 : decode cL_asks 87 = .ok (.ldc2_w 189, 3) := by decide +kernel
theorem dL_asks_90 : decode cL_asks 90 = .ok (.lload_n 2, 1) := by decide +kernel
theorem dL_asks_91 : decode cL_asks 91 = .ok (.lmul, 1) := by decide +kernel
theorem dL_asks_92 : decode cL_asks 92 = .ok (.aload_n 0, 1) := by decide +kernel
theorem dL_asks_93 : decode cL_asks 93 = .ok (.invokevirtual 226, 3) := by decide +kernel
theorem dL_asks_96 : decode cL_asks 96 = .ok (.i2l, 1) := by decide +kernel
theorem dL_asks_97 : decode cL_asks 97 = .ok (.ladd, 1) := by decide +kernel
theorem dL_asks_98 : decode cL_asks 98 = .ok (.lmul, 1) := by decide +kernel
theorem dL_asks_99 : decode cL_asks 99 = .ok (.aload_n 0, 1) := by decide +kernel
theorem dL_asks_100 : decode cL_asks 100 = .ok (.invokestatic 229, 3) := by decide +kernel
theorem dL_asks_103 : decode cL_asks 103 = .ok (.i2l, 1) := by decide +kernel
theorem dL_asks_104 : decode cL_asks 104 = .ok (.ladd, 1) := by decide +kernel
theorem dL_asks_105 : decode cL_asks 105 = .ok (.lstore_n 2, 1) := by decide +kernel
theorem dL_asks_106 : decode cL_asks 106 = .ok (.iconst 0, 1) := by decide +kernel
theorem dL_asks_107 : decode cL_asks 107 = .ok (.istore 4, 2) := by decide +kernel
theorem dL_asks_109 : decode cL_asks 109 = .ok (.iload 4, 2) := by decide +kernel
theorem dL_asks_111 : decode cL_asks 111 = .ok (.iload_n 1, 1) := by decide +kernel
theorem dL_asks_112 : decode cL_asks 112 = .ok (.if_icmp .ge 97, 3) := by decide +kernel
theorem dL_asks_115 : decode cL_asks 115 = .ok (.ldc2_w 189, 3) := by decide +kernel
theorem dL_asks_118 : decode cL_asks 118 = .ok (.ldc2_w 189, 3) := by decide +kernel
theorem dL_asks_121 : decode cL_asks 121 = .ok (.ldc2_w 189, 3) := by decide +kernel
theorem dL_asks_124 : decode cL_asks 124 = .ok (.ldc2_w 189, 3) := by decide +kernel
theorem dL_asks_127 : decode cL_asks 127 = .ok (.lload_n 2, 1) := by decide +kernel
theorem dL_asks_128 : decode cL_asks 128 = .ok (.lmul, 1) := by decide +kernel
theorem dL_asks_129 : decode cL_asks 129 = .ok (.aload_n 0, 1) := by decide +kernel
theorem dL_asks_130 : decode cL_asks 130 = .ok (.iload 4, 2) := by decide +kernel
theorem dL_asks_132 : decode cL_asks 132 = .ok (.invokestatic 232, 3) := by decide +kernel
theorem dL_asks_135 : decode cL_asks 135 = .ok (.i2l, 1) := by decide +kernel
theorem dL_asks_136 : decode cL_asks 136 = .ok (.ladd, 1) := by decide +kernel
theorem dL_asks_137 : decode cL_asks 137 = .ok (.lmul, 1) := by decide +kernel
theorem dL_asks_138 : decode cL_asks 138 = .ok (.aload_n 0, 1) := by decide +kernel
theorem dL_asks_139 : decode cL_asks 139 = .ok (.iload 4, 2) := by decide +kernel
theorem dL_asks_141 : decode cL_asks 141 = .ok (.invokestatic 234, 3) := by decide +kernel
theorem dL_asks_144 : decode cL_asks 144 = .ok (.i2l, 1) := by decide +kernel
theorem dL_asks_145 : decode cL_asks 145 = .ok (.ladd, 1) := by decide +kernel
theorem dL_asks_146 : decode cL_asks 146 = .ok (.lmul, 1) := by decide +kernel
theorem dL_asks_147 : decode cL_asks 147 = .ok (.aload_n 0, 1) := by decide +kernel
theorem dL_asks_148 : decode cL_asks 148 = .ok (.iload 4, 2) := by decide +kernel
theorem dL_asks_150 : decode cL_asks 150 = .ok (.invokestatic 236, 3) := by decide +kernel
theorem dL_asks_153 : decode cL_asks 153 = .ok (.i2l, 1) := by decide +kernel
theorem dL_asks_154 : decode cL_asks 154 = .ok (.ladd, 1) := by decide +kernel
theorem dL_asks_155 : decode cL_asks 155 = .ok (.lmul, 1) := by decide +kernel
theorem dL_asks_156 : decode cL_asks 156 = .ok (.aload_n 0, 1) := by decide +kernel
theorem dL_asks_157 : decode cL_asks 157 = .ok (.iload 4, 2) := by decide +kernel
theorem dL_asks_159 : decode cL_asks 159 = .ok (.invokestatic 238, 3) := by decide +kernel
theorem dL_asks_162 : decode cL_asks 162 = .ok (.i2l, 1) := by decide +kernel
theorem dL_asks_163 : decode cL_asks 163 = .ok (.ladd, 1) := by decide +kernel
theorem dL_asks_164 : decode cL_asks 164 = .ok (.lstore_n 2, 1) := by decide +kernel
theorem dL_asks_165 : decode cL_asks 165 = .ok (.ldc2_w 189, 3) := by decide +kernel
theorem dL_asks_168 : decode cL_asks 168 = .ok (.ldc2_w 189, 3) := by decide +kernel
theorem dL_asks_171 : decode cL_asks 171 = .ok (.ldc2_w 189, 3) := by decide +kernel
theorem dL_asks_174 : decode cL_asks 174 = .ok (.lload_n 2, 1) := by decide +kernel
theorem dL_asks_175 : decode cL_asks 175 = .ok (.lmul, 1) := by decide +kernel
theorem dL_asks_176 : decode cL_asks 176 = .ok (.aload_n 0, 1) := by decide +kernel
theorem dL_asks_177 : decode cL_asks 177 = .ok (.iload 4, 2) := by decide +kernel
theorem dL_asks_179 : decode cL_asks 179 = .ok (.invokestatic 241, 3) := by decide +kernel
theorem dL_asks_182 : decode cL_asks 182 = .ok (.i2l, 1) := by decide +kernel
theorem dL_asks_183 : decode cL_asks 183 = .ok (.ladd, 1) := by decide +kernel
theorem dL_asks_184 : decode cL_asks 184 = .ok (.lmul, 1) := by decide +kernel
theorem dL_asks_185 : decode cL_asks 185 = .ok (.aload_n 0, 1) := by decide +kernel
theorem dL_asks_186 : decode cL_asks 186 = .ok (.iload 4, 2) := by decide +kernel
theorem dL_asks_188 : decode cL_asks 188 = .ok (.invokestatic 243, 3) := by decide +kernel
theorem dL_asks_191 : decode cL_asks 191 = .ok (.i2l, 1) := by decide +kernel
theorem dL_asks_192 : decode cL_asks 192 = .ok (.ladd, 1) := by decide +kernel
theorem dL_asks_193 : decode cL_asks 193 = .ok (.lmul, 1) := by decide +kernel
theorem dL_asks_194 : decode cL_asks 194 = .ok (.aload_n 0, 1) := by decide +kernel
theorem dL_asks_195 : decode cL_asks 195 = .ok (.iload 4, 2) := by decide +kernel
theorem dL_asks_197 : decode cL_asks 197 = .ok (.invokestatic 245, 3) := by decide +kernel
theorem dL_asks_200 : decode cL_asks 200 = .ok (.i2l, 1) := by decide +kernel
theorem dL_asks_201 : decode cL_asks 201 = .ok (.ladd, 1) := by decide +kernel
theorem dL_asks_202 : decode cL_asks 202 = .ok (.lstore_n 2, 1) := by decide +kernel
theorem dL_asks_203 : decode cL_asks 203 = .ok (.iinc 4 1, 3) := by decide +kernel
theorem dL_asks_206 : decode cL_asks 206 = .ok (.goto (-97), 3) := by decide +kernel
theorem dL_asks_209 : decode cL_asks 209 = .ok (.iconst 0, 1) := by decide +kernel
theorem dL_asks_210 : decode cL_asks 210 = .ok (.istore 4, 2) := by decide +kernel
theorem dL_asks_212 : decode cL_asks 212 = .ok (.iload 4, 2) := by decide +kernel
theorem dL_asks_214 : decode cL_asks 214 = .ok (.bipush 40, 2) := by decide +kernel
theorem dL_asks_216 : decode cL_asks 216 = .ok (.if_icmp .ge 71, 3) := by decide +kernel
theorem dL_asks_219 : decode cL_asks 219 = .ok (.ldc2_w 189, 3) := by decide +kernel
theorem dL_asks_222 : decode cL_asks 222 = .ok (.ldc2_w 189, 3) := by decide +kernel
theorem dL_asks_225 : decode cL_asks 225 = .ok (.lload_n 2, 1) := by decide +kernel
theorem dL_asks_226 : decode cL_asks 226 = .ok (.lmul, 1) := by decide +kernel
theorem dL_asks_227 : decode cL_asks 227 = .ok (.aload_n 0, 1) := by decide +kernel
theorem dL_asks_228 : decode cL_asks 228 = .ok (.iload 4, 2) := by decide +kernel
theorem dL_asks_230 : decode cL_asks 230 = .ok (.invokestatic 248, 3) := by decide +kernel
theorem dL_asks_233 : decode cL_asks 233 = .ok (.i2l, 1) := by decide +kernel
theorem dL_asks_234 : decode cL_asks 234 = .ok (.ladd, 1) := by decide +kernel
theorem dL_asks_235 : decode cL_asks 235 = .ok (.lmul, 1) := by decide +kernel
theorem dL_asks_236 : decode cL_asks 236 = .ok (.aload_n 0, 1) := by decide +kernel
theorem dL_asks_237 : decode cL_asks 237 = .ok (.iload 4, 2) := by decide +kernel
theorem dL_asks_239 : decode cL_asks 239 = .ok (.invokestatic 251, 3) := by decide +kernel
theorem dL_asks_242 : decode cL_asks 242 = .ok (.i2l, 1) := by decide +kernel
theorem dL_asks_243 : decode cL_asks 243 = .ok (.ladd, 1) := by decide +kernel
theorem dL_asks_244 : decode cL_asks 244 = .ok (.lstore_n 2, 1) := by decide +kernel
theorem dL_asks_245 : decode cL_asks 245 = .ok (.iconst 0, 1) := by decide +kernel
theorem dL_asks_246 : decode cL_asks 246 = .ok (.istore 5, 2) := by decide +kernel
theorem dL_asks_248 : decode cL_asks 248 = .ok (.iload 5, 2) := by decide +kernel
theorem dL_asks_250 : decode cL_asks 250 = .ok (.aload_n 0, 1) := by decide +kernel
theorem dL_asks_251 : decode cL_asks 251 = .ok (.iload 4, 2) := by decide +kernel
theorem dL_asks_253 : decode cL_asks 253 = .ok (.invokestatic 254, 3) := by decide +kernel
theorem dL_asks_256 : decode cL_asks 256 = .ok (.if_icmp .ge 25, 3) := by decide +kernel
theorem dL_asks_259 : decode cL_asks 259 = .ok (.ldc2_w 189, 3) := by decide +kernel
theorem dL_asks_262 : decode cL_asks 262 = .ok (.lload_n 2, 1) := by decide +kernel
theorem dL_asks_263 : decode cL_asks 263 = .ok (.lmul, 1) := by decide +kernel
theorem dL_asks_264 : decode cL_asks 264 = .ok (.aload_n 0, 1) := by decide +kernel
theorem dL_asks_265 : decode cL_asks 265 = .ok (.iload 4, 2) := by decide +kernel
theorem dL_asks_267 : decode cL_asks 267 = .ok (.iload 5, 2) := by decide +kernel
theorem dL_asks_269 : decode cL_asks 269 = .ok (.invokestatic 256, 3) := by decide +kernel
theorem dL_asks_272 : decode cL_asks 272 = .ok (.i2l, 1) := by decide +kernel
theorem dL_asks_273 : decode cL_asks 273 = .ok (.ladd, 1) := by decide +kernel
theorem dL_asks_274 : decode cL_asks 274 = .ok (.lstore_n 2, 1) := by decide +kernel
theorem dL_asks_275 : decode cL_asks 275 = .ok (.iinc 5 1, 3) := by decide +kernel
theorem dL_asks_278 : decode cL_asks 278 = .ok (.goto (-30), 3) := by decide +kernel
theorem dL_asks_281 : decode cL_asks 281 = .ok (.iinc 4 1, 3) := by decide +kernel
theorem dL_asks_284 : decode cL_asks 284 = .ok (.goto (-72), 3) := by decide +kernel
theorem dL_asks_287 : decode cL_asks 287 = .ok (.iconst 0, 1) := by decide +kernel
theorem dL_asks_288 : decode cL_asks 288 = .ok (.istore 4, 2) := by decide +kernel
theorem dL_asks_290 : decode cL_asks 290 = .ok (.iload 4, 2) := by decide +kernel
theorem dL_asks_292 : decode cL_asks 292 = .ok (.iconst 4, 1) := by decide +kernel
theorem dL_asks_293 : decode cL_asks 293 = .ok (.if_icmp .ge 23, 3) := by decide +kernel
theorem dL_asks_296 : decode cL_asks 296 = .ok (.ldc2_w 189, 3) := by decide +kernel
theorem dL_asks_299 : decode cL_asks 299 = .ok (.lload_n 2, 1) := by decide +kernel
theorem dL_asks_300 : decode cL_asks 300 = .ok (.lmul, 1) := by decide +kernel
theorem dL_asks_301 : decode cL_asks 301 = .ok (.aload_n 0, 1) := by decide +kernel
theorem dL_asks_302 : decode cL_asks 302 = .ok (.iload 4, 2) := by decide +kernel
theorem dL_asks_304 : decode cL_asks 304 = .ok (.invokestatic 258, 3) := by decide +kernel
theorem dL_asks_307 : decode cL_asks 307 = .ok (.i2l, 1) := by decide +kernel
theorem dL_asks_308 : decode cL_asks 308 = .ok (.ladd, 1) := by decide +kernel
theorem dL_asks_309 : decode cL_asks 309 = .ok (.lstore_n 2, 1) := by decide +kernel
theorem dL_asks_310 : decode cL_asks 310 = .ok (.iinc 4 1, 3) := by decide +kernel
theorem dL_asks_313 : decode cL_asks 313 = .ok (.goto (-23), 3) := by decide +kernel
theorem dL_asks_316 : decode cL_asks 316 = .ok (.lload_n 2, 1) := by decide +kernel
theorem dL_asks_317 : decode cL_asks 317 = .ok (.lreturn, 1) := by decide +kernel
theorem dL_changes_0 : decode cL_changes 0 = .ok (.iload_n 1, 1) := by decide +kernel
theorem dL_changes_1 : decode cL_changes 1 = .ok (.iconst 4, 1) := by decide +kernel
theorem dL_changes_2 : decode cL_changes 2 = .ok (.ishr, 1) := by decide +kernel
theorem dL_changes_3 : decode cL_changes 3 = .ok (.aload_n 0, 1) := by decide +kernel
theorem dL_changes_4 : decode cL_changes 4 = .ok (.invokevirtual 186, 3) := by decide +kernel
theorem dL_changes_7 : decode cL_changes 7 = .ok (.iconst 1, 1) := by decide +kernel
theorem dL_changes_8 : decode cL_changes 8 = .ok (.iadd, 1) := by decide +kernel
theorem dL_changes_9 : decode cL_changes 9 = .ok (.invokestatic 174, 3) := by decide +kernel
theorem dL_changes_12 : decode cL_changes 12 = .ok (.istore_n 2, 1) := by decide +kernel
theorem dL_changes_13 : decode cL_changes 13 = .ok (.iload_n 1, 1) := by decide +kernel
theorem dL_changes_14 : decode cL_changes 14 = .ok (.bipush 7, 2) := by decide +kernel
theorem dL_changes_16 : decode cL_changes 16 = .ok (.ishr, 1) := by decide +kernel
theorem dL_changes_17 : decode cL_changes 17 = .ok (.bipush 22, 2) := by decide +kernel
theorem dL_changes_19 : decode cL_changes 19 = .ok (.invokestatic 174, 3) := by decide +kernel
theorem dL_changes_22 : decode cL_changes 22 = .ok (.istore_n 3, 1) := by decide +kernel
theorem dL_changes_23 : decode cL_changes 23 = .ok (.iload_n 1, 1) := by decide +kernel
theorem dL_changes_24 : decode cL_changes 24 = .ok (.bipush 24, 2) := by decide +kernel
theorem dL_changes_26 : decode cL_changes 26 = .ok (.invokestatic 174, 3) := by decide +kernel
theorem dL_changes_29 : decode cL_changes 29 = .ok (.tableswitch 335 0 20 #[99, 128, 142, 142, 142, 142, 157, 157, 157, 171, 185, 185, 185, 185, 200, 214, 214, 214, 229, 250, 250], 99) := by decide +kernel
theorem dL_changes_128 : decode cL_changes 128 = .ok (.aload_n 0, 1) := by decide +kernel
theorem dL_changes_129 : decode cL_changes 129 = .ok (.iload_n 1, 1) := by decide +kernel
theorem dL_changes_130 : decode cL_changes 130 = .ok (.iconst 4, 1) := by decide +kernel
theorem dL_changes_131 : decode cL_changes 131 = .ok (.ishr, 1) := by decide +kernel
theorem dL_changes_132 : decode cL_changes 132 = .ok (.bipush 11, 2) := by decide +kernel
theorem dL_changes_134 : decode cL_changes 134 = .ok (.invokestatic 174, 3) := by decide +kernel
theorem dL_changes_137 : decode cL_changes 137 = .ok (.iload_n 1, 1) := by decide +kernel
theorem dL_changes_138 : decode cL_changes 138 = .ok (.bipush 8, 2) := by decide +kernel
theorem dL_changes_140 : decode cL_changes 140 = .ok (.ishr, 1) := by decide +kernel
theorem dL_changes_141 : decode cL_changes 141 = .ok (.iconst 4, 1) := by decide +kernel
theorem dL_changes_142 : decode cL_changes 142 = .ok (.invokestatic 174, 3) := by decide +kernel
theorem dL_changes_145 : decode cL_changes 145 = .ok (.invokestatic 177, 3) := by decide +kernel
theorem dL_changes_148 : decode cL_changes 148 = .ok (.ifCond .lt 7, 3) := by decide +kernel
theorem dL_changes_151 : decode cL_changes 151 = .ok (.iconst 1, 1) := by decide +kernel
theorem dL_changes_152 : decode cL_changes 152 = .ok (.goto 4, 3) := by decide +kernel
theorem dL_changes_155 : decode cL_changes 155 = .ok (.iconst 0, 1) := by decide +kernel
theorem dL_changes_156 : decode cL_changes 156 = .ok (.ireturn, 1) := by decide +kernel
theorem dL_changes_157 : decode cL_changes 157 = .ok (.aload_n 0, 1) := by decide +kernel
theorem dL_changes_158 : decode cL_changes 158 = .ok (.iload_n 2, 1) := by decide +kernel
theorem dL_changes_159 : decode cL_changes 159 = .ok (.invokestatic 261, 3) := by decide +kernel
theorem dL_changes_162 : decode cL_changes 162 = .ok (.ifCond .lt 7, 3) := by decide +kernel
theorem dL_changes_165 : decode cL_changes 165 = .ok (.iconst 1, 1) := by decide +kernel
theorem dL_changes_166 : decode cL_changes 166 = .ok (.goto 4, 3) := by decide +kernel
theorem dL_changes_169 : decode cL_changes 169 = .ok (.iconst 0, 1) := by decide +kernel
theorem dL_changes_170 : decode cL_changes 170 = .ok (.ireturn, 1) := by decide +kernel
theorem dL_changes_171 : decode cL_changes 171 = .ok (.aload_n 0, 1) := by decide +kernel
theorem dL_changes_172 : decode cL_changes 172 = .ok (.iload_n 2, 1) := by decide +kernel
theorem dL_changes_173 : decode cL_changes 173 = .ok (.iload_n 3, 1) := by decide +kernel
theorem dL_changes_174 : decode cL_changes 174 = .ok (.invokestatic 180, 3) := by decide +kernel
theorem dL_changes_177 : decode cL_changes 177 = .ok (.ifCond .lt 7, 3) := by decide +kernel
theorem dL_changes_180 : decode cL_changes 180 = .ok (.iconst 1, 1) := by decide +kernel
theorem dL_changes_181 : decode cL_changes 181 = .ok (.goto 4, 3) := by decide +kernel
theorem dL_changes_184 : decode cL_changes 184 = .ok (.iconst 0, 1) := by decide +kernel
theorem dL_changes_185 : decode cL_changes 185 = .ok (.ireturn, 1) := by decide +kernel
theorem dL_changes_186 : decode cL_changes 186 = .ok (.aload_n 0, 1) := by decide +kernel
theorem dL_changes_187 : decode cL_changes 187 = .ok (.iload_n 2, 1) := by decide +kernel
theorem dL_changes_188 : decode cL_changes 188 = .ok (.invokestatic 263, 3) := by decide +kernel
theorem dL_changes_191 : decode cL_changes 191 = .ok (.ifCond .lt 7, 3) := by decide +kernel
theorem dL_changes_194 : decode cL_changes 194 = .ok (.iconst 1, 1) := by decide +kernel
theorem dL_changes_195 : decode cL_changes 195 = .ok (.goto 4, 3) := by decide +kernel
theorem dL_changes_198 : decode cL_changes 198 = .ok (.iconst 0, 1) := by decide +kernel
theorem dL_changes_199 : decode cL_changes 199 = .ok (.ireturn, 1) := by decide +kernel
theorem dL_changes_200 : decode cL_changes 200 = .ok (.aload_n 0, 1) := by decide +kernel
theorem dL_changes_201 : decode cL_changes 201 = .ok (.iload_n 2, 1) := by decide +kernel
theorem dL_changes_202 : decode cL_changes 202 = .ok (.invokestatic 265, 3) := by decide +kernel
theorem dL_changes_205 : decode cL_changes 205 = .ok (.ifCond .lt 7, 3) := by decide +kernel
theorem dL_changes_208 : decode cL_changes 208 = .ok (.iconst 1, 1) := by decide +kernel
theorem dL_changes_209 : decode cL_changes 209 = .ok (.goto 4, 3) := by decide +kernel
theorem dL_changes_212 : decode cL_changes 212 = .ok (.iconst 0, 1) := by decide +kernel
theorem dL_changes_213 : decode cL_changes 213 = .ok (.ireturn, 1) := by decide +kernel
theorem dL_changes_214 : decode cL_changes 214 = .ok (.aload_n 0, 1) := by decide +kernel
theorem dL_changes_215 : decode cL_changes 215 = .ok (.iload_n 2, 1) := by decide +kernel
theorem dL_changes_216 : decode cL_changes 216 = .ok (.iload_n 3, 1) := by decide +kernel
theorem dL_changes_217 : decode cL_changes 217 = .ok (.invokestatic 182, 3) := by decide +kernel
theorem dL_changes_220 : decode cL_changes 220 = .ok (.ifCond .lt 7, 3) := by decide +kernel
theorem dL_changes_223 : decode cL_changes 223 = .ok (.iconst 1, 1) := by decide +kernel
theorem dL_changes_224 : decode cL_changes 224 = .ok (.goto 4, 3) := by decide +kernel
theorem dL_changes_227 : decode cL_changes 227 = .ok (.iconst 0, 1) := by decide +kernel
theorem dL_changes_228 : decode cL_changes 228 = .ok (.ireturn, 1) := by decide +kernel
theorem dL_changes_229 : decode cL_changes 229 = .ok (.aload_n 0, 1) := by decide +kernel
theorem dL_changes_230 : decode cL_changes 230 = .ok (.iload_n 2, 1) := by decide +kernel
theorem dL_changes_231 : decode cL_changes 231 = .ok (.invokestatic 267, 3) := by decide +kernel
theorem dL_changes_234 : decode cL_changes 234 = .ok (.ifCond .lt 7, 3) := by decide +kernel
theorem dL_changes_237 : decode cL_changes 237 = .ok (.iconst 1, 1) := by decide +kernel
theorem dL_changes_238 : decode cL_changes 238 = .ok (.goto 4, 3) := by decide +kernel
theorem dL_changes_241 : decode cL_changes 241 = .ok (.iconst 0, 1) := by decide +kernel
theorem dL_changes_242 : decode cL_changes 242 = .ok (.ireturn, 1) := by decide +kernel
theorem dL_changes_243 : decode cL_changes 243 = .ok (.aload_n 0, 1) := by decide +kernel
theorem dL_changes_244 : decode cL_changes 244 = .ok (.iload_n 2, 1) := by decide +kernel
theorem dL_changes_245 : decode cL_changes 245 = .ok (.iload_n 3, 1) := by decide +kernel
theorem dL_changes_246 : decode cL_changes 246 = .ok (.invokestatic 269, 3) := by decide +kernel
theorem dL_changes_249 : decode cL_changes 249 = .ok (.ifCond .lt 7, 3) := by decide +kernel
theorem dL_changes_252 : decode cL_changes 252 = .ok (.iconst 1, 1) := by decide +kernel
theorem dL_changes_253 : decode cL_changes 253 = .ok (.goto 4, 3) := by decide +kernel
theorem dL_changes_256 : decode cL_changes 256 = .ok (.iconst 0, 1) := by decide +kernel
theorem dL_changes_257 : decode cL_changes 257 = .ok (.ireturn, 1) := by decide +kernel
theorem dL_changes_258 : decode cL_changes 258 = .ok (.aload_n 0, 1) := by decide +kernel
theorem dL_changes_259 : decode cL_changes 259 = .ok (.iload_n 1, 1) := by decide +kernel
theorem dL_changes_260 : decode cL_changes 260 = .ok (.iconst 4, 1) := by decide +kernel
theorem dL_changes_261 : decode cL_changes 261 = .ok (.ishr, 1) := by decide +kernel
theorem dL_changes_262 : decode cL_changes 262 = .ok (.bipush 90, 2) := by decide +kernel
theorem dL_changes_264 : decode cL_changes 264 = .ok (.invokestatic 174, 3) := by decide +kernel
theorem dL_changes_267 : decode cL_changes 267 = .ok (.invokestatic 271, 3) := by decide +kernel
theorem dL_changes_270 : decode cL_changes 270 = .ok (.ifCond .lt 7, 3) := by decide +kernel
theorem dL_changes_273 : decode cL_changes 273 = .ok (.iconst 1, 1) := by decide +kernel
theorem dL_changes_274 : decode cL_changes 274 = .ok (.goto 4, 3) := by decide +kernel
theorem dL_changes_277 : decode cL_changes 277 = .ok (.iconst 0, 1) := by decide +kernel
theorem dL_changes_278 : decode cL_changes 278 = .ok (.ireturn, 1) := by decide +kernel
theorem dL_changes_279 : decode cL_changes 279 = .ok (.aload_n 0, 1) := by decide +kernel
theorem dL_changes_280 : decode cL_changes 280 = .ok (.iload_n 1, 1) := by decide +kernel
theorem dL_changes_281 : decode cL_changes 281 = .ok (.bipush 6, 2) := by decide +kernel
theorem dL_changes_283 : decode cL_changes 283 = .ok (.ishr, 1) := by decide +kernel
theorem dL_changes_284 : decode cL_changes 284 = .ok (.iconst 1, 1) := by decide +kernel
theorem dL_changes_285 : decode cL_changes 285 = .ok (.iand, 1) := by decide +kernel
theorem dL_changes_286 : decode cL_changes 286 = .ok (.ifCond .ne 33, 3) := by decide +kernel
theorem dL_changes_289 : decode cL_changes 289 = .ok (.new 273, 3) := by decide +kernel
theorem dL_changes_292 : decode cL_changes 292 = .ok (.dup, 1) := by decide +kernel
theorem dL_changes_293 : decode cL_changes 293 = .ok (.invokespecial 275, 3) := by decide +kernel
theorem dL_changes_296 : decode cL_changes 296 = .ok (.ldc_w 276, 3) := by decide +kernel
theorem dL_changes_299 : decode cL_changes 299 = .ok (.invokevirtual 278, 3) := by decide +kernel
theorem dL_changes_302 : decode cL_changes 302 = .ok (.iload_n 1, 1) := by decide +kernel
theorem dL_changes_303 : decode cL_changes 303 = .ok (.iconst 4, 1) := by decide +kernel
theorem dL_changes_304 : decode cL_changes 304 = .ok (.ishr, 1) := by decide +kernel
theorem dL_changes_305 : decode cL_changes 305 = .ok (.bipush 9, 2) := by decide +kernel
theorem dL_changes_307 : decode cL_changes 307 = .ok (.invokestatic 174, 3) := by decide +kernel
theorem dL_changes_310 : decode cL_changes 310 = .ok (.invokevirtual 281, 3) := by decide +kernel
theorem dL_changes_313 : decode cL_changes 313 = .ok (.invokevirtual 284, 3) := by decide +kernel
theorem dL_changes_316 : decode cL_changes 316 = .ok (.goto 36, 3) := by decide +kernel
theorem dL_changes_319 : decode cL_changes 319 = .ok (.new 273, 3) := by decide +kernel
theorem dL_changes_322 : decode cL_changes 322 = .ok (.dup, 1) := by decide +kernel
theorem dL_changes_323 : decode cL_changes 323 = .ok (.invokespecial 275, 3) := by decide +kernel
theorem dL_changes_326 : decode cL_changes 326 = .ok (.ldc_w 288, 3) := by decide +kernel
theorem dL_changes_329 : decode cL_changes 329 = .ok (.invokevirtual 278, 3) := by decide +kernel
theorem dL_changes_332 : decode cL_changes 332 = .ok (.iload_n 1, 1) := by decide +kernel
theorem dL_changes_333 : decode cL_changes 333 = .ok (.iconst 4, 1) := by decide +kernel
theorem dL_changes_334 : decode cL_changes 334 = .ok (.ishr, 1) := by decide +kernel
theorem dL_changes_335 : decode cL_changes 335 = .ok (.bipush 9, 2) := by decide +kernel
theorem dL_changes_337 : decode cL_changes 337 = .ok (.invokestatic 174, 3) := by decide +kernel
theorem dL_changes_340 : decode cL_changes 340 = .ok (.invokevirtual 281, 3) := by decide +kernel
theorem dL_changes_343 : decode cL_changes 343 = .ok (.ldc_w 290, 3) := by decide +kernel
theorem dL_changes_346 : decode cL_changes 346 = .ok (.invokevirtual 278, 3) := by decide +kernel
theorem dL_changes_349 : decode cL_changes 349 = .ok (.invokevirtual 284, 3) := by decide +kernel
theorem dL_changes_352 : decode cL_changes 352 = .ok (.invokestatic 292, 3) := by decide +kernel
theorem dL_changes_355 : decode cL_changes 355 = .ok (.ifCond .lt 7, 3) := by decide +kernel
theorem dL_changes_358 : decode cL_changes 358 = .ok (.iconst 1, 1) := by decide +kernel
theorem dL_changes_359 : decode cL_changes 359 = .ok (.goto 4, 3) := by decide +kernel
theorem dL_changes_362 : decode cL_changes 362 = .ok (.iconst 0, 1) := by decide +kernel
theorem dL_changes_363 : decode cL_changes 363 = .ok (.ireturn, 1) := by decide +kernel
theorem dL_changes_364 : decode cL_changes 364 = .ok (.aload_n 0, 1) := by decide +kernel
theorem dL_changes_365 : decode cL_changes 365 = .ok (.iload_n 1, 1) := by decide +kernel
theorem dL_changes_366 : decode cL_changes 366 = .ok (.iconst 4, 1) := by decide +kernel
theorem dL_changes_367 : decode cL_changes 367 = .ok (.ishr, 1) := by decide +kernel
theorem dL_changes_368 : decode cL_changes 368 = .ok (.bipush 63, 2) := by decide +kernel
theorem dL_changes_370 : decode cL_changes 370 = .ok (.invokestatic 174, 3) := by decide +kernel
theorem dL_changes_373 : decode cL_changes 373 = .ok (.invokestatic 184, 3) := by decide +kernel
theorem dL_changes_376 : decode cL_changes 376 = .ok (.ifCond .lt 7, 3) := by decide +kernel
theorem dL_changes_379 : decode cL_changes 379 = .ok (.iconst 1, 1) := by decide +kernel
theorem dL_changes_380 : decode cL_changes 380 = .ok (.goto 4, 3) := by decide +kernel
theorem dL_changes_383 : decode cL_changes 383 = .ok (.iconst 0, 1) := by decide +kernel
theorem dL_changes_384 : decode cL_changes 384 = .ok (.ireturn, 1) := by decide +kernel
theorem dL_thrown_0 : decode cL_thrown 0 = .ok (.aload_n 0, 1) := by decide +kernel
theorem dL_thrown_1 : decode cL_thrown 1 = .ok (.invokestatic 296, 3) := by decide +kernel
theorem dL_thrown_4 : decode cL_thrown 4 = .ok (.lstore_n 1, 1) := by decide +kernel
theorem dL_thrown_5 : decode cL_thrown 5 = .ok (.aload_n 0, 1) := by decide +kernel
theorem dL_thrown_6 : decode cL_thrown 6 = .ok (.invokevirtual 186, 3) := by decide +kernel
theorem dL_thrown_9 : decode cL_thrown 9 = .ok (.istore_n 3, 1) := by decide +kernel
theorem dL_thrown_10 : decode cL_thrown 10 = .ok (.aload_n 0, 1) := by decide +kernel
theorem dL_thrown_11 : decode cL_thrown 11 = .ok (.bipush 10, 2) := by decide +kernel
theorem dL_thrown_13 : decode cL_thrown 13 = .ok (.iconst 0, 1) := by decide +kernel
theorem dL_thrown_14 : decode cL_thrown 14 = .ok (.invokestatic 177, 3) := by decide +kernel
theorem dL_thrown_17 : decode cL_thrown 17 = .ok (.sipush (-1001), 3) := by decide +kernel
theorem dL_thrown_20 : decode cL_thrown 20 = .ok (.if_icmp .ne 491, 3) := by decide +kernel
theorem dL_thrown_23 : decode cL_thrown 23 = .ok (.aload_n 0, 1) := by decide +kernel
theorem dL_thrown_24 : decode cL_thrown 24 = .ok (.iconst 0, 1) := by decide +kernel
theorem dL_thrown_25 : decode cL_thrown 25 = .ok (.iconst 3, 1) := by decide +kernel
theorem dL_thrown_26 : decode cL_thrown 26 = .ok (.invokestatic 177, 3) := by decide +kernel
theorem dL_thrown_29 : decode cL_thrown 29 = .ok (.sipush (-1001), 3) := by decide +kernel
theorem dL_thrown_32 : decode cL_thrown 32 = .ok (.if_icmp .ne 479, 3) := by decide +kernel
theorem dL_thrown_35 : decode cL_thrown 35 = .ok (.aload_n 0, 1) := by decide +kernel
theorem dL_thrown_36 : decode cL_thrown 36 = .ok (.iconst (-1), 1) := by decide +kernel
theorem dL_thrown_37 : decode cL_thrown 37 = .ok (.iconst 0, 1) := by decide +kernel
theorem dL_thrown_38 : decode cL_thrown 38 = .ok (.invokestatic 177, 3) := by decide +kernel
theorem dL_thrown_41 : decode cL_thrown 41 = .ok (.sipush (-1001), 3) := by decide +kernel
theorem dL_thrown_44 : decode cL_thrown 44 = .ok (.if_icmp .ne 467, 3) := by decide +kernel
theorem dL_thrown_47 : decode cL_thrown 47 = .ok (.iload_n 3, 1) := by decide +kernel
theorem dL_thrown_48 : decode cL_thrown 48 = .ok (.bipush 8, 2) := by decide +kernel
theorem dL_thrown_50 : decode cL_thrown 50 = .ok (.if_icmp .lt 15, 3) := by decide +kernel
theorem dL_thrown_53 : decode cL_thrown 53 = .ok (.aload_n 0, 1) := by decide +kernel
theorem dL_thrown_54 : decode cL_thrown 54 = .ok (.iconst 0, 1) := by decide +kernel
theorem dL_thrown_55 : decode cL_thrown 55 = .ok (.iconst 0, 1) := by decide +kernel
theorem dL_thrown_56 : decode cL_thrown 56 = .ok (.invokestatic 177, 3) := by decide +kernel
theorem dL_thrown_59 : decode cL_thrown 59 = .ok (.sipush (-1002), 3) := by decide +kernel
theorem dL_thrown_62 : decode cL_thrown 62 = .ok (.if_icmp .ne 449, 3) := by decide +kernel
theorem dL_thrown_65 : decode cL_thrown 65 = .ok (.aload_n 0, 1) := by decide +kernel
theorem dL_thrown_66 : decode cL_thrown 66 = .ok (.iload_n 3, 1) := by decide +kernel
theorem dL_thrown_67 : decode cL_thrown 67 = .ok (.invokestatic 261, 3) := by decide +kernel
theorem dL_thrown_70 : decode cL_thrown 70 = .ok (.sipush (-1001), 3) := by decide +kernel
theorem dL_thrown_73 : decode cL_thrown 73 = .ok (.if_icmp .ne 438, 3) := by decide +kernel
theorem dL_thrown_76 : decode cL_thrown 76 = .ok (.aload_n 0, 1) := by decide +kernel
theorem dL_thrown_77 : decode cL_thrown 77 = .ok (.iload_n 3, 1) := by decide +kernel
theorem dL_thrown_78 : decode cL_thrown 78 = .ok (.iconst 0, 1) := by decide +kernel
theorem dL_thrown_79 : decode cL_thrown 79 = .ok (.invokestatic 180, 3) := by decide +kernel
theorem dL_thrown_82 : decode cL_thrown 82 = .ok (.sipush (-1001), 3) := by decide +kernel
theorem dL_thrown_85 : decode cL_thrown 85 = .ok (.if_icmp .ne 426, 3) := by decide +kernel
theorem dL_thrown_88 : decode cL_thrown 88 = .ok (.aload_n 0, 1) := by decide +kernel
theorem dL_thrown_89 : decode cL_thrown 89 = .ok (.iconst 0, 1) := by decide +kernel
theorem dL_thrown_90 : decode cL_thrown 90 = .ok (.bipush 40, 2) := by decide +kernel
theorem dL_thrown_92 : decode cL_thrown 92 = .ok (.invokestatic 180, 3) := by decide +kernel
theorem dL_thrown_95 : decode cL_thrown 95 = .ok (.sipush (-1001), 3) := by decide +kernel
theorem dL_thrown_98 : decode cL_thrown 98 = .ok (.if_icmp .ne 413, 3) := by decide +kernel
theorem dL_thrown_101 : decode cL_thrown 101 = .ok (.aload_n 0, 1) := by decide +kernel
theorem dL_thrown_102 : decode cL_thrown 102 = .ok (.iconst 0, 1) := by decide +kernel
theorem dL_thrown_103 : decode cL_thrown 103 = .ok (.iconst (-1), 1) := by decide +kernel
theorem dL_thrown_104 : decode cL_thrown 104 = .ok (.invokestatic 180, 3) := by decide +kernel
theorem dL_thrown_107 : decode cL_thrown 107 = .ok (.sipush (-1001), 3) := by decide +kernel
theorem dL_thrown_110 : decode cL_thrown 110 = .ok (.if_icmp .ne 401, 3) := by decide +kernel
theorem dL_thrown_113 : decode cL_thrown 113 = .ok (.aload_n 0, 1) := by decide +kernel
theorem dL_thrown_114 : decode cL_thrown 114 = .ok (.iload_n 3, 1) := by decide +kernel
theorem dL_thrown_115 : decode cL_thrown 115 = .ok (.invokestatic 263, 3) := by decide +kernel
theorem dL_thrown_118 : decode cL_thrown 118 = .ok (.sipush (-1001), 3) := by decide +kernel
theorem dL_thrown_121 : decode cL_thrown 121 = .ok (.if_icmp .ne 390, 3) := by decide +kernel
theorem dL_thrown_124 : decode cL_thrown 124 = .ok (.aload_n 0, 1) := by decide +kernel
theorem dL_thrown_125 : decode cL_thrown 125 = .ok (.iload_n 3, 1) := by decide +kernel
theorem dL_thrown_126 : decode cL_thrown 126 = .ok (.invokestatic 265, 3) := by decide +kernel
theorem dL_thrown_129 : decode cL_thrown 129 = .ok (.sipush (-1001), 3) := by decide +kernel
theorem dL_thrown_132 : decode cL_thrown 132 = .ok (.if_icmp .ne 379, 3) := by decide +kernel
theorem dL_thrown_135 : decode cL_thrown 135 = .ok (.aload_n 0, 1) := by decide +kernel
theorem dL_thrown_136 : decode cL_thrown 136 = .ok (.iload_n 3, 1) := by decide +kernel
theorem dL_thrown_137 : decode cL_thrown 137 = .ok (.invokestatic 232, 3) := by decide +kernel
theorem dL_thrown_140 : decode cL_thrown 140 = .ok (.sipush (-1001), 3) := by decide +kernel
theorem dL_thrown_143 : decode cL_thrown 143 = .ok (.if_icmp .ne 368, 3) := by decide +kernel
theorem dL_thrown_146 : decode cL_thrown 146 = .ok (.aload_n 0, 1) := by decide +kernel
theorem dL_thrown_147 : decode cL_thrown 147 = .ok (.iconst (-1), 1) := by decide +kernel
theorem dL_thrown_148 : decode cL_thrown 148 = .ok (.invokestatic 234, 3) := by decide +kernel
theorem dL_thrown_151 : decode cL_thrown 151 = .ok (.sipush (-1001), 3) := by decide +kernel
theorem dL_thrown_154 : decode cL_thrown 154 = .ok (.if_icmp .ne 357, 3) := by decide +kernel
theorem dL_thrown_157 : decode cL_thrown 157 = .ok (.aload_n 0, 1) := by decide +kernel
theorem dL_thrown_158 : decode cL_thrown 158 = .ok (.iload_n 3, 1) := by decide +kernel
theorem dL_thrown_159 : decode cL_thrown 159 = .ok (.invokestatic 300, 3) := by decide +kernel
theorem dL_thrown_162 : decode cL_thrown 162 = .ok (.sipush (-1001), 3) := by decide +kernel
theorem dL_thrown_165 : decode cL_thrown 165 = .ok (.if_icmp .ne 346, 3) := by decide +kernel
theorem dL_thrown_168 : decode cL_thrown 168 = .ok (.aload_n 0, 1) := by decide +kernel
theorem dL_thrown_169 : decode cL_thrown 169 = .ok (.iload_n 3, 1) := by decide +kernel
theorem dL_thrown_170 : decode cL_thrown 170 = .ok (.invokestatic 236, 3) := by decide +kernel
theorem dL_thrown_173 : decode cL_thrown 173 = .ok (.sipush (-1001), 3) := by decide +kernel
theorem dL_thrown_176 : decode cL_thrown 176 = .ok (.if_icmp .ne 335, 3) := by decide +kernel
theorem dL_thrown_179 : decode cL_thrown 179 = .ok (.aload_n 0, 1) := by decide +kernel
theorem dL_thrown_180 : decode cL_thrown 180 = .ok (.iload_n 3, 1) := by decide +kernel
theorem dL_thrown_181 : decode cL_thrown 181 = .ok (.invokestatic 243, 3) := by decide +kernel
theorem dL_thrown_184 : decode cL_thrown 184 = .ok (.sipush (-1001), 3) := by decide +kernel
theorem dL_thrown_187 : decode cL_thrown 187 = .ok (.if_icmp .ne 324, 3) := by decide +kernel
theorem dL_thrown_190 : decode cL_thrown 190 = .ok (.aload_n 0, 1) := by decide +kernel
theorem dL_thrown_191 : decode cL_thrown 191 = .ok (.iload_n 3, 1) := by decide +kernel
theorem dL_thrown_192 : decode cL_thrown 192 = .ok (.invokestatic 238, 3) := by decide +kernel
theorem dL_thrown_195 : decode cL_thrown 195 = .ok (.sipush (-1001), 3) := by decide +kernel
theorem dL_thrown_198 : decode cL_thrown 198 = .ok (.if_icmp .ne 313, 3) := by decide +kernel
theorem dL_thrown_201 : decode cL_thrown 201 = .ok (.aload_n 0, 1) := by decide +kernel
theorem dL_thrown_202 : decode cL_thrown 202 = .ok (.iload_n 3, 1) := by decide +kernel
theorem dL_thrown_203 : decode cL_thrown 203 = .ok (.iconst 0, 1) := by decide +kernel
theorem dL_thrown_204 : decode cL_thrown 204 = .ok (.invokestatic 182, 3) := by decide +kernel
theorem dL_thrown_207 : decode cL_thrown 207 = .ok (.sipush (-1001), 3) := by decide +kernel
theorem dL_thrown_210 : decode cL_thrown 210 = .ok (.if_icmp .ne 301, 3) := by decide +kernel
theorem dL_thrown_213 : decode cL_thrown 213 = .ok (.aload_n 0, 1) := by decide +kernel
theorem dL_thrown_214 : decode cL_thrown 214 = .ok (.iconst 0, 1) := by decide +kernel
theorem dL_thrown_215 : decode cL_thrown 215 = .ok (.bipush 40, 2) := by decide +kernel
theorem dL_thrown_217 : decode cL_thrown 217 = .ok (.invokestatic 182, 3) := by decide +kernel
theorem dL_thrown_220 : decode cL_thrown 220 = .ok (.sipush (-1001), 3) := by decide +kernel
theorem dL_thrown_223 : decode cL_thrown 223 = .ok (.if_icmp .ne 288, 3) := by decide +kernel
theorem dL_thrown_226 : decode cL_thrown 226 = .ok (.aload_n 0, 1) := by decide +kernel
theorem dL_thrown_227 : decode cL_thrown 227 = .ok (.iload_n 3, 1) := by decide +kernel
theorem dL_thrown_228 : decode cL_thrown 228 = .ok (.invokestatic 267, 3) := by decide +kernel
theorem dL_thrown_231 : decode cL_thrown 231 = .ok (.sipush (-1001), 3) := by decide +kernel
theorem dL_thrown_234 : decode cL_thrown 234 = .ok (.if_icmp .ne 277, 3) := by decide +kernel
theorem dL_thrown_237 : decode cL_thrown 237 = .ok (.aload_n 0, 1) := by decide +kernel
theorem dL_thrown_238 : decode cL_thrown 238 = .ok (.iload_n 3, 1) := by decide +kernel
theorem dL_thrown_239 : decode cL_thrown 239 = .ok (.invokestatic 302, 3) := by decide +kernel
theorem dL_thrown_242 : decode cL_thrown 242 = .ok (.sipush (-1001), 3) := by decide +kernel
theorem dL_thrown_245 : decode cL_thrown 245 = .ok (.if_icmp .ne 266, 3) := by decide +kernel
theorem dL_thrown_248 : decode cL_thrown 248 = .ok (.aload_n 0, 1) := by decide +kernel
theorem dL_thrown_249 : decode cL_thrown 249 = .ok (.iload_n 3, 1) := by decide +kernel
theorem dL_thrown_250 : decode cL_thrown 250 = .ok (.invokestatic 241, 3) := by decide +kernel
theorem dL_thrown_253 : decode cL_thrown 253 = .ok (.sipush (-1001), 3) := by decide +kernel
theorem dL_thrown_256 : decode cL_thrown 256 = .ok (.if_icmp .ne 255, 3) := by decide +kernel
theorem dL_thrown_259 : decode cL_thrown 259 = .ok (.aload_n 0, 1) := by decide +kernel
theorem dL_thrown_260 : decode cL_thrown 260 = .ok (.bipush 40, 2) := by decide +kernel
theorem dL_thrown_262 : decode cL_thrown 262 = .ok (.invokestatic 254, 3) := by decide +kernel
theorem dL_thrown_265 : decode cL_thrown 265 = .ok (.sipush (-1001), 3) := by decide +kernel
theorem dL_thrown_268 : decode cL_thrown 268 = .ok (.if_icmp .ne 243, 3) := by decide +kernel
theorem dL_thrown_271 : decode cL_thrown 271 = .ok (.aload_n 0, 1) := by decide +kernel
theorem dL_thrown_272 : decode cL_thrown 272 = .ok (.iconst (-1), 1) := by decide +kernel
theorem dL_thrown_273 : decode cL_thrown 273 = .ok (.iconst 0, 1) := by decide +kernel
theorem dL_thrown_274 : decode cL_thrown 274 = .ok (.invokestatic 256, 3) := by decide +kernel
theorem dL_thrown_277 : decode cL_thrown 277 = .ok (.sipush (-1001), 3) := by decide +kernel
theorem dL_thrown_280 : decode cL_thrown 280 = .ok (.if_icmp .ne 231, 3) := by decide +kernel
theorem dL_thrown_283 : decode cL_thrown 283 = .ok (.aload_n 0, 1) := by decide +kernel
theorem dL_thrown_284 : decode cL_thrown 284 = .ok (.bipush 40, 2) := by decide +kernel
theorem dL_thrown_286 : decode cL_thrown 286 = .ok (.invokestatic 251, 3) := by decide +kernel
theorem dL_thrown_289 : decode cL_thrown 289 = .ok (.sipush (-1001), 3) := by decide +kernel
theorem dL_thrown_292 : decode cL_thrown 292 = .ok (.if_icmp .ne 219, 3) := by decide +kernel
theorem dL_thrown_295 : decode cL_thrown 295 = .ok (.aload_n 0, 1) := by decide +kernel
theorem dL_thrown_296 : decode cL_thrown 296 = .ok (.iconst (-1), 1) := by decide +kernel
theorem dL_thrown_297 : decode cL_thrown 297 = .ok (.invokestatic 305, 3) := by decide +kernel
theorem dL_thrown_300 : decode cL_thrown 300 = .ok (.sipush (-1001), 3) := by decide +kernel
theorem dL_thrown_303 : decode cL_thrown 303 = .ok (.if_icmp .ne 208, 3) := by decide +kernel
theorem dL_thrown_306 : decode cL_thrown 306 = .ok (.aload_n 0, 1) := by decide +kernel
theorem dL_thrown_307 : decode cL_thrown 307 = .ok (.iload_n 3, 1) := by decide +kernel
theorem dL_thrown_308 : decode cL_thrown 308 = .ok (.iconst 0, 1) := by decide +kernel
theorem dL_thrown_309 : decode cL_thrown 309 = .ok (.invokestatic 269, 3) := by decide +kernel
theorem dL_thrown_312 : decode cL_thrown 312 = .ok (.sipush (-1001), 3) := by decide +kernel
theorem dL_thrown_315 : decode cL_thrown 315 = .ok (.if_icmp .ne 196, 3) := by decide +kernel
theorem dL_thrown_318 : decode cL_thrown 318 = .ok (.aload_n 0, 1) := by decide +kernel
theorem dL_thrown_319 : decode cL_thrown 319 = .ok (.iconst 0, 1) := by decide +kernel
theorem dL_thrown_320 : decode cL_thrown 320 = .ok (.bipush 40, 2) := by decide +kernel
theorem dL_thrown_322 : decode cL_thrown 322 = .ok (.invokestatic 269, 3) := by decide +kernel
theorem dL_thrown_325 : decode cL_thrown 325 = .ok (.sipush (-1001), 3) := by decide +kernel
theorem dL_thrown_328 : decode cL_thrown 328 = .ok (.if_icmp .ne 183, 3) := by decide +kernel
theorem dL_thrown_331 : decode cL_thrown 331 = .ok (.aload_n 0, 1) := by decide +kernel
theorem dL_thrown_332 : decode cL_thrown 332 = .ok (.iconst 0, 1) := by decide +kernel
theorem dL_thrown_333 : decode cL_thrown 333 = .ok (.bipush 40, 2) := by decide +kernel
theorem dL_thrown_335 : decode cL_thrown 335 = .ok (.invokestatic 308, 3) := by decide +kernel
theorem dL_thrown_338 : decode cL_thrown 338 = .ok (.sipush (-1001), 3) := by decide +kernel
theorem dL_thrown_341 : decode cL_thrown 341 = .ok (.if_icmp .ne 170, 3) := by decide +kernel
theorem dL_thrown_344 : decode cL_thrown 344 = .ok (.aload_n 0, 1) := by decide +kernel
theorem dL_thrown_345 : decode cL_thrown 345 = .ok (.iload_n 3, 1) := by decide +kernel
theorem dL_thrown_346 : decode cL_thrown 346 = .ok (.iconst 0, 1) := by decide +kernel
theorem dL_thrown_347 : decode cL_thrown 347 = .ok (.invokestatic 308, 3) := by decide +kernel
theorem dL_thrown_350 : decode cL_thrown 350 = .ok (.sipush (-1001), 3) := by decide +kernel
theorem dL_thrown_353 : decode cL_thrown 353 = .ok (.if_icmp .ne 158, 3) := by decide +kernel
theorem dL_thrown_356 : decode cL_thrown 356 = .ok (.aload_n 0, 1) := by decide +kernel
theorem dL_thrown_357 : decode cL_thrown 357 = .ok (.iconst 0, 1) := by decide +kernel
theorem dL_thrown_358 : decode cL_thrown 358 = .ok (.invokestatic 184, 3) := by decide +kernel
theorem dL_thrown_361 : decode cL_thrown 361 = .ok (.sipush (-1001), 3) := by decide +kernel
theorem dL_thrown_364 : decode cL_thrown 364 = .ok (.if_icmp .ne 147, 3) := by decide +kernel
theorem dL_thrown_367 : decode cL_thrown 367 = .ok (.aload_n 0, 1) := by decide +kernel
theorem dL_thrown_368 : decode cL_thrown 368 = .ok (.bipush 61, 2) := by decide +kernel
theorem dL_thrown_370 : decode cL_thrown 370 = .ok (.invokestatic 184, 3) := by decide +kernel
theorem dL_thrown_373 : decode cL_thrown 373 = .ok (.sipush (-1001), 3) := by decide +kernel
theorem dL_thrown_376 : decode cL_thrown 376 = .ok (.if_icmp .ne 135, 3) := by decide +kernel
theorem dL_thrown_379 : decode cL_thrown 379 = .ok (.aload_n 0, 1) := by decide +kernel
theorem dL_thrown_380 : decode cL_thrown 380 = .ok (.iconst 0, 1) := by decide +kernel
theorem dL_thrown_381 : decode cL_thrown 381 = .ok (.invokestatic 271, 3) := by decide +kernel
theorem dL_thrown_384 : decode cL_thrown 384 = .ok (.sipush (-1001), 3) := by decide +kernel
theorem dL_thrown_387 : decode cL_thrown 387 = .ok (.if_icmp .ne 124, 3) := by decide +kernel
theorem dL_thrown_390 : decode cL_thrown 390 = .ok (.aload_n 0, 1) := by decide +kernel
theorem dL_thrown_391 : decode cL_thrown 391 = .ok (.sipush 241, 3) := by decide +kernel
theorem dL_thrown_394 : decode cL_thrown 394 = .ok (.invokestatic 271, 3) := by decide +kernel
theorem dL_thrown_397 : decode cL_thrown 397 = .ok (.sipush (-1001), 3) := by decide +kernel
theorem dL_thrown_400 : decode cL_thrown 400 = .ok (.if_icmp .ne 111, 3) := by decide +kernel
theorem dL_thrown_403 : decode cL_thrown 403 = .ok (.aload_n 0, 1) := by decide +kernel
theorem dL_thrown_404 : decode cL_thrown 404 = .ok (.bipush 40, 2) := by decide +kernel
theorem dL_thrown_406 : decode cL_thrown 406 = .ok (.invokestatic 310, 3) := by decide +kernel
theorem dL_thrown_409 : decode cL_thrown 409 = .ok (.sipush (-1001), 3) := by decide +kernel
theorem dL_thrown_412 : decode cL_thrown 412 = .ok (.if_icmp .ne 99, 3) := by decide +kernel
theorem dL_thrown_415 : decode cL_thrown 415 = .ok (.aload_n 0, 1) := by decide +kernel
theorem dL_thrown_416 : decode cL_thrown 416 = .ok (.iconst (-1), 1) := by decide +kernel
theorem dL_thrown_417 : decode cL_thrown 417 = .ok (.invokestatic 248, 3) := by decide +kernel
theorem dL_thrown_420 : decode cL_thrown 420 = .ok (.sipush (-1001), 3) := by decide +kernel
theorem dL_thrown_423 : decode cL_thrown 423 = .ok (.if_icmp .ne 88, 3) := by decide +kernel
theorem dL_thrown_426 : decode cL_thrown 426 = .ok (.aload_n 0, 1) := by decide +kernel
theorem dL_thrown_427 : decode cL_thrown 427 = .ok (.iconst 4, 1) := by decide +kernel
theorem dL_thrown_428 : decode cL_thrown 428 = .ok (.invokestatic 258, 3) := by decide +kernel
theorem dL_thrown_431 : decode cL_thrown 431 = .ok (.sipush (-1001), 3) := by decide +kernel
theorem dL_thrown_434 : decode cL_thrown 434 = .ok (.if_icmp .ne 77, 3) := by decide +kernel
theorem dL_thrown_437 : decode cL_thrown 437 = .ok (.aload_n 0, 1) := by decide +kernel
theorem dL_thrown_438 : decode cL_thrown 438 = .ok (.iconst (-1), 1) := by decide +kernel
theorem dL_thrown_439 : decode cL_thrown 439 = .ok (.invokestatic 312, 3) := by decide +kernel
theorem dL_thrown_442 : decode cL_thrown 442 = .ok (.sipush (-1001), 3) := by decide +kernel
theorem dL_thrown_445 : decode cL_thrown 445 = .ok (.if_icmp .ne 66, 3) := by decide +kernel
theorem dL_thrown_448 : decode cL_thrown 448 = .ok (.aload_n 0, 1) := by decide +kernel
theorem dL_thrown_449 : decode cL_thrown 449 = .ok (.iload_n 3, 1) := by decide +kernel
theorem dL_thrown_450 : decode cL_thrown 450 = .ok (.invokestatic 245, 3) := by decide +kernel
theorem dL_thrown_453 : decode cL_thrown 453 = .ok (.sipush (-1001), 3) := by decide +kernel
theorem dL_thrown_456 : decode cL_thrown 456 = .ok (.if_icmp .ne 55, 3) := by decide +kernel
theorem dL_thrown_459 : decode cL_thrown 459 = .ok (.aload_n 0, 1) := by decide +kernel
theorem dL_thrown_460 : decode cL_thrown 460 = .ok (.iconst 4, 1) := by decide +kernel
theorem dL_thrown_461 : decode cL_thrown 461 = .ok (.invokestatic 164, 3) := by decide +kernel
theorem dL_thrown_464 : decode cL_thrown 464 = .ok (.sipush (-1001), 3) := by decide +kernel
theorem dL_thrown_467 : decode cL_thrown 467 = .ok (.if_icmp .ne 44, 3) := by decide +kernel
theorem dL_thrown_470 : decode cL_thrown 470 = .ok (.aload_n 0, 1) := by decide +kernel
theorem dL_thrown_471 : decode cL_thrown 471 = .ok (.bipush 10, 2) := by decide +kernel
theorem dL_thrown_473 : decode cL_thrown 473 = .ok (.invokestatic 168, 3) := by decide +kernel
theorem dL_thrown_476 : decode cL_thrown 476 = .ok (.sipush (-1001), 3) := by decide +kernel
theorem dL_thrown_479 : decode cL_thrown 479 = .ok (.if_icmp .ne 32, 3) := by decide +kernel
theorem dL_thrown_482 : decode cL_thrown 482 = .ok (.aload_n 0, 1) := by decide +kernel
theorem dL_thrown_483 : decode cL_thrown 483 = .ok (.bipush 31, 2) := by decide +kernel
theorem dL_thrown_485 : decode cL_thrown 485 = .ok (.invokestatic 156, 3) := by decide +kernel
theorem dL_thrown_488 : decode cL_thrown 488 = .ok (.sipush (-1001), 3) := by decide +kernel
theorem dL_thrown_491 : decode cL_thrown 491 = .ok (.if_icmp .ne 20, 3) := by decide +kernel
theorem dL_thrown_494 : decode cL_thrown 494 = .ok (.aload_n 0, 1) := by decide +kernel
theorem dL_thrown_495 : decode cL_thrown 495 = .ok (.sipush 200, 3) := by decide +kernel
theorem dL_thrown_498 : decode cL_thrown 498 = .ok (.invokestatic 156, 3) := by decide +kernel
theorem dL_thrown_501 : decode cL_thrown 501 = .ok (.sipush (-1001), 3) := by decide +kernel
theorem dL_thrown_504 : decode cL_thrown 504 = .ok (.if_icmp .ne 7, 3) := by decide +kernel
theorem dL_thrown_507 : decode cL_thrown 507 = .ok (.iconst 1, 1) := by decide +kernel
theorem dL_thrown_508 : decode cL_thrown 508 = .ok (.goto 4, 3) := by decide +kernel
theorem dL_thrown_511 : decode cL_thrown 511 = .ok (.iconst 0, 1) := by decide +kernel
theorem dL_thrown_512 : decode cL_thrown 512 = .ok (.istore 4, 2) := by decide +kernel
theorem dL_thrown_514 : decode cL_thrown 514 = .ok (.iconst 0, 1) := by decide +kernel
theorem dL_thrown_515 : decode cL_thrown 515 = .ok (.istore 5, 2) := by decide +kernel
theorem dL_thrown_517 : decode cL_thrown 517 = .ok (.iload 5, 2) := by decide +kernel
theorem dL_thrown_519 : decode cL_thrown 519 = .ok (.iload_n 3, 1) := by decide +kernel
theorem dL_thrown_520 : decode cL_thrown 520 = .ok (.if_icmp .ge 394, 3) := by decide +kernel
theorem dL_thrown_523 : decode cL_thrown 523 = .ok (.aload_n 0, 1) := by decide +kernel
theorem dL_thrown_524 : decode cL_thrown 524 = .ok (.iload 5, 2) := by decide +kernel
theorem dL_thrown_526 : decode cL_thrown 526 = .ok (.invokestatic 232, 3) := by decide +kernel
theorem dL_thrown_529 : decode cL_thrown 529 = .ok (.bipush 9, 2) := by decide +kernel
theorem dL_thrown_531 : decode cL_thrown 531 = .ok (.if_icmp .ne 27, 3) := by decide +kernel
theorem dL_thrown_534 : decode cL_thrown 534 = .ok (.iload 4, 2) := by decide +kernel
theorem dL_thrown_536 : decode cL_thrown 536 = .ok (.ifCond .eq 19, 3) := by decide +kernel
theorem dL_thrown_539 : decode cL_thrown 539 = .ok (.aload_n 0, 1) := by decide +kernel
theorem dL_thrown_540 : decode cL_thrown 540 = .ok (.iload 5, 2) := by decide +kernel
theorem dL_thrown_542 : decode cL_thrown 542 = .ok (.invokestatic 261, 3) := by decide +kernel
theorem dL_thrown_545 : decode cL_thrown 545 = .ok (.sipush (-1002), 3) := by decide +kernel
theorem dL_thrown_548 : decode cL_thrown 548 = .ok (.if_icmp .ne 7, 3) := by decide +kernel
theorem dL_thrown_551 : decode cL_thrown 551 = .ok (.iconst 1, 1) := by decide +kernel
theorem dL_thrown_552 : decode cL_thrown 552 = .ok (.goto 4, 3) := by decide +kernel
theorem dL_thrown_555 : decode cL_thrown 555 = .ok (.iconst 0, 1) := by decide +kernel
theorem dL_thrown_556 : decode cL_thrown 556 = .ok (.istore 4, 2) := by decide +kernel
theorem dL_thrown_558 : decode cL_thrown 558 = .ok (.aload_n 0, 1) := by decide +kernel
theorem dL_thrown_559 : decode cL_thrown 559 = .ok (.iload 5, 2) := by decide +kernel
theorem dL_thrown_561 : decode cL_thrown 561 = .ok (.invokestatic 300, 3) := by decide +kernel
theorem dL_thrown_564 : decode cL_thrown 564 = .ok (.iconst 1, 1) := by decide +kernel
theorem dL_thrown_565 : decode cL_thrown 565 = .ok (.if_icmp .ne 84, 3) := by decide +kernel
theorem dL_thrown_568 : decode cL_thrown 568 = .ok (.iload 4, 2) := by decide +kernel
theorem dL_thrown_570 : decode cL_thrown 570 = .ok (.ifCond .eq 73, 3) := by decide +kernel
theorem dL_thrown_573 : decode cL_thrown 573 = .ok (.aload_n 0, 1) := by decide +kernel
theorem dL_thrown_574 : decode cL_thrown 574 = .ok (.iload 5, 2) := by decide +kernel
theorem dL_thrown_576 : decode cL_thrown 576 = .ok (.bipush 39, 2) := by decide +kernel
theorem dL_thrown_578 : decode cL_thrown 578 = .ok (.invokestatic 180, 3) := by decide +kernel
theorem dL_thrown_581 : decode cL_thrown 581 = .ok (.sipush (-1002), 3) := by decide +kernel
theorem dL_thrown_584 : decode cL_thrown 584 = .ok (.if_icmp .ne 59, 3) := by decide +kernel
theorem dL_thrown_587 : decode cL_thrown 587 = .ok (.aload_n 0, 1) := by decide +kernel
theorem dL_thrown_588 : decode cL_thrown 588 = .ok (.iload 5, 2) := by decide +kernel
theorem dL_thrown_590 : decode cL_thrown 590 = .ok (.aload_n 0, 1) := by decide +kernel
theorem dL_thrown_591 : decode cL_thrown 591 = .ok (.iload 5, 2) := by decide +kernel
theorem dL_thrown_593 : decode cL_thrown 593 = .ok (.invokestatic 236, 3) := by decide +kernel
theorem dL_thrown_596 : decode cL_thrown 596 = .ok (.invokestatic 182, 3) := by decide +kernel
theorem dL_thrown_599 : decode cL_thrown 599 = .ok (.aload_n 0, 1) := by decide +kernel
theorem dL_thrown_600 : decode cL_thrown 600 = .ok (.iload 5, 2) := by decide +kernel
theorem dL_thrown_602 : decode cL_thrown 602 = .ok (.invokestatic 302, 3) := by decide +kernel
theorem dL_thrown_605 : decode cL_thrown 605 = .ok (.iconst 1, 1) := by decide +kernel
theorem dL_thrown_606 : decode cL_thrown 606 = .ok (.if_icmp .ne 9, 3) := by decide +kernel
theorem dL_thrown_609 : decode cL_thrown 609 = .ok (.sipush (-1002), 3) := by decide +kernel
theorem dL_thrown_612 : decode cL_thrown 612 = .ok (.goto 6, 3) := by decide +kernel
theorem dL_thrown_615 : decode cL_thrown 615 = .ok (.sipush (-1003), 3) := by decide +kernel
theorem dL_thrown_618 : decode cL_thrown 618 = .ok (.if_icmp .ne 25, 3) := by decide +kernel
theorem dL_thrown_621 : decode cL_thrown 621 = .ok (.aload_n 0, 1) := by decide +kernel
theorem dL_thrown_622 : decode cL_thrown 622 = .ok (.iload 5, 2) := by decide +kernel
theorem dL_thrown_624 : decode cL_thrown 624 = .ok (.aload_n 0, 1) := by decide +kernel
theorem dL_thrown_625 : decode cL_thrown 625 = .ok (.iload 5, 2) := by decide +kernel
theorem dL_thrown_627 : decode cL_thrown 627 = .ok (.invokestatic 236, 3) := by decide +kernel
theorem dL_thrown_630 : decode cL_thrown 630 = .ok (.invokestatic 269, 3) := by decide +kernel
theorem dL_thrown_633 : decode cL_thrown 633 = .ok (.sipush (-1003), 3) := by decide +kernel
theorem dL_thrown_636 : decode cL_thrown 636 = .ok (.if_icmp .ne 7, 3) := by decide +kernel
theorem dL_thrown_639 : decode cL_thrown 639 = .ok (.iconst 1, 1) := by decide +kernel
theorem dL_thrown_640 : decode cL_thrown 640 = .ok (.goto 4, 3) := by decide +kernel
theorem dL_thrown_643 : decode cL_thrown 643 = .ok (.iconst 0, 1) := by decide +kernel
theorem dL_thrown_644 : decode cL_thrown 644 = .ok (.istore 4, 2) := by decide +kernel
theorem dL_thrown_646 : decode cL_thrown 646 = .ok (.goto 63, 3) := by decide +kernel
theorem dL_thrown_649 : decode cL_thrown 649 = .ok (.iload 4, 2) := by decide +kernel
theorem dL_thrown_651 : decode cL_thrown 651 = .ok (.ifCond .eq 55, 3) := by decide +kernel
theorem dL_thrown_654 : decode cL_thrown 654 = .ok (.aload_n 0, 1) := by decide +kernel
theorem dL_thrown_655 : decode cL_thrown 655 = .ok (.iload 5, 2) := by decide +kernel
theorem dL_thrown_657 : decode cL_thrown 657 = .ok (.invokestatic 263, 3) := by decide +kernel
theorem dL_thrown_660 : decode cL_thrown 660 = .ok (.sipush (-1002), 3) := by decide +kernel
theorem dL_thrown_663 : decode cL_thrown 663 = .ok (.if_icmp .ne 43, 3) := by decide +kernel
theorem dL_thrown_666 : decode cL_thrown 666 = .ok (.aload_n 0, 1) := by decide +kernel
theorem dL_thrown_667 : decode cL_thrown 667 = .ok (.iload 5, 2) := by decide +kernel
theorem dL_thrown_669 : decode cL_thrown 669 = .ok (.invokestatic 265, 3) := by decide +kernel
theorem dL_thrown_672 : decode cL_thrown 672 = .ok (.sipush (-1002), 3) := by decide +kernel
theorem dL_thrown_675 : decode cL_thrown 675 = .ok (.if_icmp .ne 31, 3) := by decide +kernel
theorem dL_thrown_678 : decode cL_thrown 678 = .ok (.aload_n 0, 1) := by decide +kernel
theorem dL_thrown_679 : decode cL_thrown 679 = .ok (.iload 5, 2) := by decide +kernel
theorem dL_thrown_681 : decode cL_thrown 681 = .ok (.invokestatic 236, 3) := by decide +kernel
theorem dL_thrown_684 : decode cL_thrown 684 = .ok (.sipush (-1002), 3) := by decide +kernel
theorem dL_thrown_687 : decode cL_thrown 687 = .ok (.if_icmp .ne 19, 3) := by decide +kernel
theorem dL_thrown_690 : decode cL_thrown 690 = .ok (.aload_n 0, 1) := by decide +kernel
theorem dL_thrown_691 : decode cL_thrown 691 = .ok (.iload 5, 2) := by decide +kernel
theorem dL_thrown_693 : decode cL_thrown 693 = .ok (.invokestatic 238, 3) := by decide +kernel
theorem dL_thrown_696 : decode cL_thrown 696 = .ok (.sipush (-1002), 3) := by decide +kernel
theorem dL_thrown_699 : decode cL_thrown 699 = .ok (.if_icmp .ne 7, 3) := by decide +kernel
theorem dL_thrown_702 : decode cL_thrown 702 = .ok (.iconst 1, 1) := by decide +kernel
theorem dL_thrown_703 : decode cL_thrown 703 = .ok (.goto 4, 3) := by decide +kernel
theorem dL_thrown_706 : decode cL_thrown 706 = .ok (.iconst 0, 1) := by decide +kernel
theorem dL_thrown_707 : decode cL_thrown 707 = .ok (.istore 4, 2) := by decide +kernel
theorem dL_thrown_709 : decode cL_thrown 709 = .ok (.aload_n 0, 1) := by decide +kernel
theorem dL_thrown_710 : decode cL_thrown 710 = .ok (.iload 5, 2) := by decide +kernel
theorem dL_thrown_712 : decode cL_thrown 712 = .ok (.invokestatic 302, 3) := by decide +kernel
theorem dL_thrown_715 : decode cL_thrown 715 = .ok (.iconst 1, 1) := by decide +kernel
theorem dL_thrown_716 : decode cL_thrown 716 = .ok (.if_icmp .ne 31, 3) := by decide +kernel
theorem dL_thrown_719 : decode cL_thrown 719 = .ok (.iload 4, 2) := by decide +kernel
theorem dL_thrown_721 : decode cL_thrown 721 = .ok (.ifCond .eq 20, 3) := by decide +kernel
theorem dL_thrown_724 : decode cL_thrown 724 = .ok (.aload_n 0, 1) := by decide +kernel
theorem dL_thrown_725 : decode cL_thrown 725 = .ok (.iload 5, 2) := by decide +kernel
theorem dL_thrown_727 : decode cL_thrown 727 = .ok (.iconst 0, 1) := by decide +kernel
theorem dL_thrown_728 : decode cL_thrown 728 = .ok (.invokestatic 182, 3) := by decide +kernel
theorem dL_thrown_731 : decode cL_thrown 731 = .ok (.sipush (-1002), 3) := by decide +kernel
theorem dL_thrown_734 : decode cL_thrown 734 = .ok (.if_icmp .ne 7, 3) := by decide +kernel
theorem dL_thrown_737 : decode cL_thrown 737 = .ok (.iconst 1, 1) := by decide +kernel
theorem dL_thrown_738 : decode cL_thrown 738 = .ok (.goto 4, 3) := by decide +kernel
theorem dL_thrown_741 : decode cL_thrown 741 = .ok (.iconst 0, 1) := by decide +kernel
theorem dL_thrown_742 : decode cL_thrown 742 = .ok (.istore 4, 2) := by decide +kernel
theorem dL_thrown_744 : decode cL_thrown 744 = .ok (.goto 39, 3) := by decide +kernel
theorem dL_thrown_747 : decode cL_thrown 747 = .ok (.iload 4, 2) := by decide +kernel
theorem dL_thrown_749 : decode cL_thrown 749 = .ok (.ifCond .eq 31, 3) := by decide +kernel
theorem dL_thrown_752 : decode cL_thrown 752 = .ok (.aload_n 0, 1) := by decide +kernel
theorem dL_thrown_753 : decode cL_thrown 753 = .ok (.iload 5, 2) := by decide +kernel
theorem dL_thrown_755 : decode cL_thrown 755 = .ok (.invokestatic 267, 3) := by decide +kernel
theorem dL_thrown_758 : decode cL_thrown 758 = .ok (.sipush (-1002), 3) := by decide +kernel
theorem dL_thrown_761 : decode cL_thrown 761 = .ok (.if_icmp .ne 19, 3) := by decide +kernel
theorem dL_thrown_764 : decode cL_thrown 764 = .ok (.aload_n 0, 1) := by decide +kernel
theorem dL_thrown_765 : decode cL_thrown 765 = .ok (.iload 5, 2) := by decide +kernel
theorem dL_thrown_767 : decode cL_thrown 767 = .ok (.invokestatic 241, 3) := by decide +kernel
theorem dL_thrown_770 : decode cL_thrown 770 = .ok (.sipush (-1002), 3) := by decide +kernel
theorem dL_thrown_773 : decode cL_thrown 773 = .ok (.if_icmp .ne 7, 3) := by decide +kernel
theorem dL_thrown_776 : decode cL_thrown 776 = .ok (.iconst 1, 1) := by decide +kernel
theorem dL_thrown_777 : decode cL_thrown 777 = .ok (.goto 4, 3) := by decide +kernel
theorem dL_thrown_780 : decode cL_thrown 780 = .ok (.iconst 0, 1) := by decide +kernel
theorem dL_thrown_781 : decode cL_thrown 781 = .ok (.istore 4, 2) := by decide +kernel
theorem dL_thrown_783 : decode cL_thrown 783 = .ok (.iconst 0, 1) := by decide +kernel
theorem dL_thrown_784 : decode cL_thrown 784 = .ok (.istore 6, 2) := by decide +kernel
theorem dL_thrown_786 : decode cL_thrown 786 = .ok (.iload 6, 2) := by decide +kernel
theorem dL_thrown_788 : decode cL_thrown 788 = .ok (.bipush 20, 2) := by decide +kernel
theorem dL_thrown_790 : decode cL_thrown 790 = .ok (.if_icmp .ge 118, 3) := by decide +kernel
theorem dL_thrown_793 : decode cL_thrown 793 = .ok (.aload_n 0, 1) := by decide +kernel
theorem dL_thrown_794 : decode cL_thrown 794 = .ok (.iload 6, 2) := by decide +kernel
theorem dL_thrown_796 : decode cL_thrown 796 = .ok (.invokestatic 310, 3) := by decide +kernel
theorem dL_thrown_799 : decode cL_thrown 799 = .ok (.ifCond .ne 68, 3) := by decide +kernel
theorem dL_thrown_802 : decode cL_thrown 802 = .ok (.iload 4, 2) := by decide +kernel
theorem dL_thrown_804 : decode cL_thrown 804 = .ok (.ifCond .eq 57, 3) := by decide +kernel
theorem dL_thrown_807 : decode cL_thrown 807 = .ok (.aload_n 0, 1) := by decide +kernel
theorem dL_thrown_808 : decode cL_thrown 808 = .ok (.iload 5, 2) := by decide +kernel
theorem dL_thrown_810 : decode cL_thrown 810 = .ok (.iload 6, 2) := by decide +kernel
theorem dL_thrown_812 : decode cL_thrown 812 = .ok (.invokestatic 269, 3) := by decide +kernel
theorem dL_thrown_815 : decode cL_thrown 815 = .ok (.sipush (-1002), 3) := by decide +kernel
theorem dL_thrown_818 : decode cL_thrown 818 = .ok (.if_icmp .ne 43, 3) := by decide +kernel
theorem dL_thrown_821 : decode cL_thrown 821 = .ok (.aload_n 0, 1) := by decide +kernel
theorem dL_thrown_822 : decode cL_thrown 822 = .ok (.iload 6, 2) := by decide +kernel
theorem dL_thrown_824 : decode cL_thrown 824 = .ok (.invokestatic 248, 3) := by decide +kernel
theorem dL_thrown_827 : decode cL_thrown 827 = .ok (.sipush (-1002), 3) := by decide +kernel
theorem dL_thrown_830 : decode cL_thrown 830 = .ok (.if_icmp .ne 31, 3) := by decide +kernel
theorem dL_thrown_833 : decode cL_thrown 833 = .ok (.aload_n 0, 1) := by decide +kernel
theorem dL_thrown_834 : decode cL_thrown 834 = .ok (.iload 5, 2) := by decide +kernel
theorem dL_thrown_836 : decode cL_thrown 836 = .ok (.invokestatic 302, 3) := by decide +kernel
theorem dL_thrown_839 : decode cL_thrown 839 = .ok (.iconst 1, 1) := by decide +kernel
theorem dL_thrown_840 : decode cL_thrown 840 = .ok (.if_icmp .eq 17, 3) := by decide +kernel
theorem dL_thrown_843 : decode cL_thrown 843 = .ok (.aload_n 0, 1) := by decide +kernel
theorem dL_thrown_844 : decode cL_thrown 844 = .ok (.iload 5, 2) := by decide +kernel
theorem dL_thrown_846 : decode cL_thrown 846 = .ok (.iload 6, 2) := by decide +kernel
theorem dL_thrown_848 : decode cL_thrown 848 = .ok (.invokestatic 182, 3) := by decide +kernel
theorem dL_thrown_851 : decode cL_thrown 851 = .ok (.sipush (-1003), 3) := by decide +kernel
theorem dL_thrown_854 : decode cL_thrown 854 = .ok (.if_icmp .ne 7, 3) := by decide +kernel
theorem dL_thrown_857 : decode cL_thrown 857 = .ok (.iconst 1, 1) := by decide +kernel
theorem dL_thrown_858 : decode cL_thrown 858 = .ok (.goto 4, 3) := by decide +kernel
theorem dL_thrown_861 : decode cL_thrown 861 = .ok (.iconst 0, 1) := by decide +kernel
theorem dL_thrown_862 : decode cL_thrown 862 = .ok (.istore 4, 2) := by decide +kernel
theorem dL_thrown_864 : decode cL_thrown 864 = .ok (.goto 38, 3) := by decide +kernel
theorem dL_thrown_867 : decode cL_thrown 867 = .ok (.aload_n 0, 1) := by decide +kernel
theorem dL_thrown_868 : decode cL_thrown 868 = .ok (.iload 5, 2) := by decide +kernel
theorem dL_thrown_870 : decode cL_thrown 870 = .ok (.invokestatic 300, 3) := by decide +kernel
theorem dL_thrown_873 : decode cL_thrown 873 = .ok (.ifCond .ne 29, 3) := by decide +kernel
theorem dL_thrown_876 : decode cL_thrown 876 = .ok (.iload 4, 2) := by decide +kernel
theorem dL_thrown_878 : decode cL_thrown 878 = .ok (.ifCond .eq 21, 3) := by decide +kernel
theorem dL_thrown_881 : decode cL_thrown 881 = .ok (.aload_n 0, 1) := by decide +kernel
theorem dL_thrown_882 : decode cL_thrown 882 = .ok (.iload 5, 2) := by decide +kernel
theorem dL_thrown_884 : decode cL_thrown 884 = .ok (.iload 6, 2) := by decide +kernel
theorem dL_thrown_886 : decode cL_thrown 886 = .ok (.invokestatic 180, 3) := by decide +kernel
theorem dL_thrown_889 : decode cL_thrown 889 = .ok (.sipush (-1003), 3) := by decide +kernel
theorem dL_thrown_892 : decode cL_thrown 892 = .ok (.if_icmp .ne 7, 3) := by decide +kernel
theorem dL_thrown_895 : decode cL_thrown 895 = .ok (.iconst 1, 1) := by decide +kernel
theorem dL_thrown_896 : decode cL_thrown 896 = .ok (.goto 4, 3) := by decide +kernel
theorem dL_thrown_899 : decode cL_thrown 899 = .ok (.iconst 0, 1) := by decide +kernel
theorem dL_thrown_900 : decode cL_thrown 900 = .ok (.istore 4, 2) := by decide +kernel
theorem dL_thrown_902 : decode cL_thrown 902 = .ok (.iinc 6 1, 3) := by decide +kernel
theorem dL_thrown_905 : decode cL_thrown 905 = .ok (.goto (-119), 3) := by decide +kernel
theorem dL_thrown_908 : decode cL_thrown 908 = .ok (.iinc 5 1, 3) := by decide +kernel
theorem dL_thrown_911 : decode cL_thrown 911 = .ok (.goto (-394), 3) := by decide +kernel
theorem dL_thrown_914 : decode cL_thrown 914 = .ok (.iload 4, 2) := by decide +kernel
theorem dL_thrown_916 : decode cL_thrown 916 = .ok (.ifCond .eq 93, 3) := by decide +kernel
theorem dL_thrown_919 : decode cL_thrown 919 = .ok (.aload_n 0, 1) := by decide +kernel
theorem dL_thrown_920 : decode cL_thrown 920 = .ok (.ldc_w 315, 3) := by decide +kernel
theorem dL_thrown_923 : decode cL_thrown 923 = .ok (.invokestatic 292, 3) := by decide +kernel
theorem dL_thrown_926 : decode cL_thrown 926 = .ok (.sipush (-1001), 3) := by decide +kernel
theorem dL_thrown_929 : decode cL_thrown 929 = .ok (.if_icmp .ne 80, 3) := by decide +kernel
theorem dL_thrown_932 : decode cL_thrown 932 = .ok (.aload_n 0, 1) := by decide +kernel
theorem dL_thrown_933 : decode cL_thrown 933 = .ok (.invokestatic 317, 3) := by decide +kernel
theorem dL_thrown_936 : decode cL_thrown 936 = .ok (.ifCond .ne 73, 3) := by decide +kernel
theorem dL_thrown_939 : decode cL_thrown 939 = .ok (.aload_n 0, 1) := by decide +kernel
theorem dL_thrown_940 : decode cL_thrown 940 = .ok (.ldc_w 319, 3) := by decide +kernel
theorem dL_thrown_943 : decode cL_thrown 943 = .ok (.invokestatic 292, 3) := by decide +kernel
theorem dL_thrown_946 : decode cL_thrown 946 = .ok (.sipush (-1002), 3) := by decide +kernel
theorem dL_thrown_949 : decode cL_thrown 949 = .ok (.if_icmp .ne 60, 3) := by decide +kernel
theorem dL_thrown_952 : decode cL_thrown 952 = .ok (.aload_n 0, 1) := by decide +kernel
theorem dL_thrown_953 : decode cL_thrown 953 = .ok (.invokestatic 321, 3) := by decide +kernel
theorem dL_thrown_956 : decode cL_thrown 956 = .ok (.iconst 2, 1) := by decide +kernel
theorem dL_thrown_957 : decode cL_thrown 957 = .ok (.if_icmp .ne 52, 3) := by decide +kernel
theorem dL_thrown_960 : decode cL_thrown 960 = .ok (.aload_n 0, 1) := by decide +kernel
theorem dL_thrown_961 : decode cL_thrown 961 = .ok (.invokestatic 323, 3) := by decide +kernel
theorem dL_thrown_964 : decode cL_thrown 964 = .ok (.iconst 1, 1) := by decide +kernel
theorem dL_thrown_965 : decode cL_thrown 965 = .ok (.if_icmp .ne 44, 3) := by decide +kernel
theorem dL_thrown_968 : decode cL_thrown 968 = .ok (.aload_n 0, 1) := by decide +kernel
theorem dL_thrown_969 : decode cL_thrown 969 = .ok (.ldc_w 325, 3) := by decide +kernel
theorem dL_thrown_972 : decode cL_thrown 972 = .ok (.invokestatic 292, 3) := by decide +kernel
theorem dL_thrown_975 : decode cL_thrown 975 = .ok (.sipush (-1002), 3) := by decide +kernel
theorem dL_thrown_978 : decode cL_thrown 978 = .ok (.if_icmp .ne 31, 3) := by decide +kernel
theorem dL_thrown_981 : decode cL_thrown 981 = .ok (.aload_n 0, 1) := by decide +kernel
theorem dL_thrown_982 : decode cL_thrown 982 = .ok (.invokestatic 321, 3) := by decide +kernel
theorem dL_thrown_985 : decode cL_thrown 985 = .ok (.iconst 1, 1) := by decide +kernel
theorem dL_thrown_986 : decode cL_thrown 986 = .ok (.if_icmp .ne 23, 3) := by decide +kernel
theorem dL_thrown_989 : decode cL_thrown 989 = .ok (.aload_n 0, 1) := by decide +kernel
theorem dL_thrown_990 : decode cL_thrown 990 = .ok (.invokestatic 317, 3) := by decide +kernel
theorem dL_thrown_993 : decode cL_thrown 993 = .ok (.ifCond .ne 16, 3) := by decide +kernel
theorem dL_thrown_996 : decode cL_thrown 996 = .ok (.aload_n 0, 1) := by decide +kernel
theorem dL_thrown_997 : decode cL_thrown 997 = .ok (.invokestatic 296, 3) := by decide +kernel
theorem dL_thrown_1000 : decode cL_thrown 1000 = .ok (.lload_n 1, 1) := by decide +kernel
theorem dL_thrown_1001 : decode cL_thrown 1001 = .ok (.lcmp, 1) := by decide +kernel
theorem dL_thrown_1002 : decode cL_thrown 1002 = .ok (.ifCond .ne 7, 3) := by decide +kernel
theorem dL_thrown_1005 : decode cL_thrown 1005 = .ok (.iconst 1, 1) := by decide +kernel
theorem dL_thrown_1006 : decode cL_thrown 1006 = .ok (.goto 4, 3) := by decide +kernel
theorem dL_thrown_1009 : decode cL_thrown 1009 = .ok (.iconst 0, 1) := by decide +kernel
theorem dL_thrown_1010 : decode cL_thrown 1010 = .ok (.ireturn, 1) := by decide +kernel
theorem dL_law_0 : decode cL_law 0 = .ok (.new 8, 3) := by decide +kernel
theorem dL_law_3 : decode cL_law 3 = .ok (.dup, 1) := by decide +kernel
theorem dL_law_4 : decode cL_law 4 = .ok (.invokespecial 327, 3) := by decide +kernel
theorem dL_law_7 : decode cL_law 7 = .ok (.astore_n 1, 1) := by decide +kernel
theorem dL_law_8 : decode cL_law 8 = .ok (.aload_n 1, 1) := by decide +kernel
theorem dL_law_9 : decode cL_law 9 = .ok (.invokestatic 328, 3) := by decide +kernel
theorem dL_law_12 : decode cL_law 12 = .ok (.sipush (-1001), 3) := by decide +kernel
theorem dL_law_15 : decode cL_law 15 = .ok (.if_icmp .ne 31, 3) := by decide +kernel
theorem dL_law_18 : decode cL_law 18 = .ok (.aload_n 1, 1) := by decide +kernel
theorem dL_law_19 : decode cL_law 19 = .ok (.invokestatic 330, 3) := by decide +kernel
theorem dL_law_22 : decode cL_law 22 = .ok (.sipush (-1001), 3) := by decide +kernel
theorem dL_law_25 : decode cL_law 25 = .ok (.if_icmp .ne 21, 3) := by decide +kernel
theorem dL_law_28 : decode cL_law 28 = .ok (.aload_n 1, 1) := by decide +kernel
theorem dL_law_29 : decode cL_law 29 = .ok (.invokevirtual 332, 3) := by decide +kernel
theorem dL_law_32 : decode cL_law 32 = .ok (.ifCond .ne 14, 3) := by decide +kernel
theorem dL_law_35 : decode cL_law 35 = .ok (.aload_n 1, 1) := by decide +kernel
theorem dL_law_36 : decode cL_law 36 = .ok (.bipush 60, 2) := by decide +kernel
theorem dL_law_38 : decode cL_law 38 = .ok (.invokestatic 184, 3) := by decide +kernel
theorem dL_law_41 : decode cL_law 41 = .ok (.bipush 60, 2) := by decide +kernel
theorem dL_law_43 : decode cL_law 43 = .ok (.if_icmp .eq 5, 3) := by decide +kernel
theorem dL_law_46 : decode cL_law 46 = .ok (.iconst 0, 1) := by decide +kernel
theorem dL_law_47 : decode cL_law 47 = .ok (.ireturn, 1) := by decide +kernel
theorem dL_law_48 : decode cL_law 48 = .ok (.iconst 0, 1) := by decide +kernel
theorem dL_law_49 : decode cL_law 49 = .ok (.istore_n 2, 1) := by decide +kernel
theorem dL_law_50 : decode cL_law 50 = .ok (.iload_n 2, 1) := by decide +kernel
theorem dL_law_51 : decode cL_law 51 = .ok (.bipush 60, 2) := by decide +kernel
theorem dL_law_53 : decode cL_law 53 = .ok (.if_icmp .ge 26, 3) := by decide +kernel
theorem dL_law_56 : decode cL_law 56 = .ok (.aload_n 1, 1) := by decide +kernel
theorem dL_law_57 : decode cL_law 57 = .ok (.bipush 65, 2) := by decide +kernel
theorem dL_law_59 : decode cL_law 59 = .ok (.iload_n 2, 1) := by decide +kernel
theorem dL_law_60 : decode cL_law 60 = .ok (.iadd, 1) := by decide +kernel
theorem dL_law_61 : decode cL_law 61 = .ok (.i2c, 1) := by decide +kernel
theorem dL_law_62 : decode cL_law 62 = .ok (.invokestatic 156, 3) := by decide +kernel
theorem dL_law_65 : decode cL_law 65 = .ok (.iload_n 2, 1) := by decide +kernel
theorem dL_law_66 : decode cL_law 66 = .ok (.iconst 1, 1) := by decide +kernel
theorem dL_law_67 : decode cL_law 67 = .ok (.iadd, 1) := by decide +kernel
theorem dL_law_68 : decode cL_law 68 = .ok (.if_icmp .eq 5, 3) := by decide +kernel
theorem dL_law_71 : decode cL_law 71 = .ok (.iconst 0, 1) := by decide +kernel
theorem dL_law_72 : decode cL_law 72 = .ok (.ireturn, 1) := by decide +kernel
theorem dL_law_73 : decode cL_law 73 = .ok (.iinc 2 1, 3) := by decide +kernel
theorem dL_law_76 : decode cL_law 76 = .ok (.goto (-26), 3) := by decide +kernel
theorem dL_law_79 : decode cL_law 79 = .ok (.aload_n 1, 1) := by decide +kernel
theorem dL_law_80 : decode cL_law 80 = .ok (.bipush 112, 2) := by decide +kernel
theorem dL_law_82 : decode cL_law 82 = .ok (.invokestatic 156, 3) := by decide +kernel
theorem dL_law_85 : decode cL_law 85 = .ok (.sipush (-1002), 3) := by decide +kernel
theorem dL_law_88 : decode cL_law 88 = .ok (.if_icmp .ne 48, 3) := by decide +kernel
theorem dL_law_91 : decode cL_law 91 = .ok (.aload_n 1, 1) := by decide +kernel
theorem dL_law_92 : decode cL_law 92 = .ok (.invokestatic 161, 3) := by decide +kernel
theorem dL_law_95 : decode cL_law 95 = .ok (.sipush (-1001), 3) := by decide +kernel
theorem dL_law_98 : decode cL_law 98 = .ok (.if_icmp .ne 38, 3) := by decide +kernel
theorem dL_law_101 : decode cL_law 101 = .ok (.aload_n 1, 1) := by decide +kernel
theorem dL_law_102 : decode cL_law 102 = .ok (.invokestatic 317, 3) := by decide +kernel
theorem dL_law_105 : decode cL_law 105 = .ok (.ifCond .ne 31, 3) := by decide +kernel
theorem dL_law_108 : decode cL_law 108 = .ok (.aload_n 1, 1) := by decide +kernel
theorem dL_law_109 : decode cL_law 109 = .ok (.bipush 112, 2) := by decide +kernel
theorem dL_law_111 : decode cL_law 111 = .ok (.invokestatic 156, 3) := by decide +kernel
theorem dL_law_114 : decode cL_law 114 = .ok (.iconst 1, 1) := by decide +kernel
theorem dL_law_115 : decode cL_law 115 = .ok (.if_icmp .ne 21, 3) := by decide +kernel
theorem dL_law_118 : decode cL_law 118 = .ok (.aload_n 1, 1) := by decide +kernel
theorem dL_law_119 : decode cL_law 119 = .ok (.invokestatic 161, 3) := by decide +kernel
theorem dL_law_122 : decode cL_law 122 = .ok (.sipush (-1001), 3) := by decide +kernel
theorem dL_law_125 : decode cL_law 125 = .ok (.if_icmp .ne 11, 3) := by decide +kernel
theorem dL_law_128 : decode cL_law 128 = .ok (.aload_n 1, 1) := by decide +kernel
theorem dL_law_129 : decode cL_law 129 = .ok (.invokestatic 317, 3) := by decide +kernel
theorem dL_law_132 : decode cL_law 132 = .ok (.iconst 1, 1) := by decide +kernel
theorem dL_law_133 : decode cL_law 133 = .ok (.if_icmp .eq 5, 3) := by decide +kernel
theorem dL_law_136 : decode cL_law 136 = .ok (.iconst 0, 1) := by decide +kernel
theorem dL_law_137 : decode cL_law 137 = .ok (.ireturn, 1) := by decide +kernel
theorem dL_law_138 : decode cL_law 138 = .ok (.iconst 0, 1) := by decide +kernel
theorem dL_law_139 : decode cL_law 139 = .ok (.istore_n 2, 1) := by decide +kernel
theorem dL_law_140 : decode cL_law 140 = .ok (.iload_n 2, 1) := by decide +kernel
theorem dL_law_141 : decode cL_law 141 = .ok (.bipush 8, 2) := by decide +kernel
theorem dL_law_143 : decode cL_law 143 = .ok (.if_icmp .ge 21, 3) := by decide +kernel
theorem dL_law_146 : decode cL_law 146 = .ok (.aload_n 1, 1) := by decide +kernel
theorem dL_law_147 : decode cL_law 147 = .ok (.iload_n 2, 1) := by decide +kernel
theorem dL_law_148 : decode cL_law 148 = .ok (.iconst 2, 1) := by decide +kernel
theorem dL_law_149 : decode cL_law 149 = .ok (.invokestatic 177, 3) := by decide +kernel
theorem dL_law_152 : decode cL_law 152 = .ok (.iload_n 2, 1) := by decide +kernel
theorem dL_law_153 : decode cL_law 153 = .ok (.if_icmp .eq 5, 3) := by decide +kernel
theorem dL_law_156 : decode cL_law 156 = .ok (.iconst 0, 1) := by decide +kernel
theorem dL_law_157 : decode cL_law 157 = .ok (.ireturn, 1) := by decide +kernel
theorem dL_law_158 : decode cL_law 158 = .ok (.iinc 2 1, 3) := by decide +kernel
theorem dL_law_161 : decode cL_law 161 = .ok (.goto (-21), 3) := by decide +kernel
theorem dL_law_164 : decode cL_law 164 = .ok (.aload_n 1, 1) := by decide +kernel
theorem dL_law_165 : decode cL_law 165 = .ok (.iconst 0, 1) := by decide +kernel
theorem dL_law_166 : decode cL_law 166 = .ok (.iconst 0, 1) := by decide +kernel
theorem dL_law_167 : decode cL_law 167 = .ok (.invokestatic 177, 3) := by decide +kernel
theorem dL_law_170 : decode cL_law 170 = .ok (.sipush (-1002), 3) := by decide +kernel
theorem dL_law_173 : decode cL_law 173 = .ok (.if_icmp .ne 53, 3) := by decide +kernel
theorem dL_law_176 : decode cL_law 176 = .ok (.aload_n 1, 1) := by decide +kernel
theorem dL_law_177 : decode cL_law 177 = .ok (.iconst 0, 1) := by decide +kernel
theorem dL_law_178 : decode cL_law 178 = .ok (.iconst 5, 1) := by decide +kernel
theorem dL_law_179 : decode cL_law 179 = .ok (.invokestatic 180, 3) := by decide +kernel
theorem dL_law_182 : decode cL_law 182 = .ok (.iconst 5, 1) := by decide +kernel
theorem dL_law_183 : decode cL_law 183 = .ok (.if_icmp .ne 43, 3) := by decide +kernel
theorem dL_law_186 : decode cL_law 186 = .ok (.aload_n 1, 1) := by decide +kernel
theorem dL_law_187 : decode cL_law 187 = .ok (.iconst 1, 1) := by decide +kernel
theorem dL_law_188 : decode cL_law 188 = .ok (.iconst 0, 1) := by decide +kernel
theorem dL_law_189 : decode cL_law 189 = .ok (.invokestatic 180, 3) := by decide +kernel
theorem dL_law_192 : decode cL_law 192 = .ok (.iconst 3, 1) := by decide +kernel
theorem dL_law_193 : decode cL_law 193 = .ok (.if_icmp .ne 33, 3) := by decide +kernel
theorem dL_law_196 : decode cL_law 196 = .ok (.aload_n 1, 1) := by decide +kernel
theorem dL_law_197 : decode cL_law 197 = .ok (.bipush 7, 2) := by decide +kernel
theorem dL_law_199 : decode cL_law 199 = .ok (.iconst 5, 1) := by decide +kernel
theorem dL_law_200 : decode cL_law 200 = .ok (.invokestatic 269, 3) := by decide +kernel
theorem dL_law_203 : decode cL_law 203 = .ok (.iconst 1, 1) := by decide +kernel
theorem dL_law_204 : decode cL_law 204 = .ok (.if_icmp .ne 22, 3) := by decide +kernel
theorem dL_law_207 : decode cL_law 207 = .ok (.aload_n 1, 1) := by decide +kernel
theorem dL_law_208 : decode cL_law 208 = .ok (.bipush 7, 2) := by decide +kernel
theorem dL_law_210 : decode cL_law 210 = .ok (.invokestatic 232, 3) := by decide +kernel
theorem dL_law_213 : decode cL_law 213 = .ok (.bipush 7, 2) := by decide +kernel
theorem dL_law_215 : decode cL_law 215 = .ok (.if_icmp .ne 11, 3) := by decide +kernel
theorem dL_law_218 : decode cL_law 218 = .ok (.aload_n 1, 1) := by decide +kernel
theorem dL_law_219 : decode cL_law 219 = .ok (.iconst 0, 1) := by decide +kernel
theorem dL_law_220 : decode cL_law 220 = .ok (.invokestatic 300, 3) := by decide +kernel
theorem dL_law_223 : decode cL_law 223 = .ok (.ifCond .eq 5, 3) := by decide +kernel
theorem dL_law_226 : decode cL_law 226 = .ok (.iconst 0, 1) := by decide +kernel
theorem dL_law_227 : decode cL_law 227 = .ok (.ireturn, 1) := by decide +kernel
theorem dL_law_228 : decode cL_law 228 = .ok (.aload_n 1, 1) := by decide +kernel
theorem dL_law_229 : decode cL_law 229 = .ok (.invokestatic 328, 3) := by decide +kernel
theorem dL_law_232 : decode cL_law 232 = .ok (.bipush 7, 2) := by decide +kernel
theorem dL_law_234 : decode cL_law 234 = .ok (.if_icmp .ne 117, 3) := by decide +kernel
theorem dL_law_237 : decode cL_law 237 = .ok (.aload_n 1, 1) := by decide +kernel
theorem dL_law_238 : decode cL_law 238 = .ok (.iconst 0, 1) := by decide +kernel
theorem dL_law_239 : decode cL_law 239 = .ok (.invokestatic 300, 3) := by decide +kernel
theorem dL_law_242 : decode cL_law 242 = .ok (.iconst 1, 1) := by decide +kernel
theorem dL_law_243 : decode cL_law 243 = .ok (.if_icmp .ne 108, 3) := by decide +kernel
theorem dL_law_246 : decode cL_law 246 = .ok (.aload_n 1, 1) := by decide +kernel
theorem dL_law_247 : decode cL_law 247 = .ok (.invokevirtual 226, 3) := by decide +kernel
theorem dL_law_250 : decode cL_law 250 = .ok (.ifCond .ne 101, 3) := by decide +kernel
theorem dL_law_253 : decode cL_law 253 = .ok (.aload_n 1, 1) := by decide +kernel
theorem dL_law_254 : decode cL_law 254 = .ok (.invokestatic 328, 3) := by decide +kernel
theorem dL_law_257 : decode cL_law 257 = .ok (.bipush 6, 2) := by decide +kernel
theorem dL_law_259 : decode cL_law 259 = .ok (.if_icmp .ne 92, 3) := by decide +kernel
theorem dL_law_262 : decode cL_law 262 = .ok (.aload_n 1, 1) := by decide +kernel
theorem dL_law_263 : decode cL_law 263 = .ok (.iconst 1, 1) := by decide +kernel
theorem dL_law_264 : decode cL_law 264 = .ok (.invokestatic 300, 3) := by decide +kernel
theorem dL_law_267 : decode cL_law 267 = .ok (.ifCond .ne 84, 3) := by decide +kernel
theorem dL_law_270 : decode cL_law 270 = .ok (.aload_n 1, 1) := by decide +kernel
theorem dL_law_271 : decode cL_law 271 = .ok (.invokestatic 328, 3) := by decide +kernel
theorem dL_law_274 : decode cL_law 274 = .ok (.iconst 5, 1) := by decide +kernel
theorem dL_law_275 : decode cL_law 275 = .ok (.if_icmp .ne 76, 3) := by decide +kernel
theorem dL_law_278 : decode cL_law 278 = .ok (.aload_n 1, 1) := by decide +kernel
theorem dL_law_279 : decode cL_law 279 = .ok (.invokevirtual 335, 3) := by decide +kernel
theorem dL_law_282 : decode cL_law 282 = .ok (.ifCond .ne 69, 3) := by decide +kernel
theorem dL_law_285 : decode cL_law 285 = .ok (.aload_n 1, 1) := by decide +kernel
theorem dL_law_286 : decode cL_law 286 = .ok (.invokestatic 328, 3) := by decide +kernel
theorem dL_law_289 : decode cL_law 289 = .ok (.iconst 4, 1) := by decide +kernel
theorem dL_law_290 : decode cL_law 290 = .ok (.if_icmp .ne 61, 3) := by decide +kernel
theorem dL_law_293 : decode cL_law 293 = .ok (.aload_n 1, 1) := by decide +kernel
theorem dL_law_294 : decode cL_law 294 = .ok (.invokevirtual 186, 3) := by decide +kernel
theorem dL_law_297 : decode cL_law 297 = .ok (.bipush 7, 2) := by decide +kernel
theorem dL_law_299 : decode cL_law 299 = .ok (.if_icmp .ne 52, 3) := by decide +kernel
theorem dL_law_302 : decode cL_law 302 = .ok (.aload_n 1, 1) := by decide +kernel
theorem dL_law_303 : decode cL_law 303 = .ok (.invokestatic 328, 3) := by decide +kernel
theorem dL_law_306 : decode cL_law 306 = .ok (.iconst 3, 1) := by decide +kernel
theorem dL_law_307 : decode cL_law 307 = .ok (.if_icmp .ne 44, 3) := by decide +kernel
theorem dL_law_310 : decode cL_law 310 = .ok (.aload_n 1, 1) := by decide +kernel
theorem dL_law_311 : decode cL_law 311 = .ok (.invokestatic 328, 3) := by decide +kernel
theorem dL_law_314 : decode cL_law 314 = .ok (.iconst 2, 1) := by decide +kernel
theorem dL_law_315 : decode cL_law 315 = .ok (.if_icmp .ne 36, 3) := by decide +kernel
theorem dL_law_318 : decode cL_law 318 = .ok (.aload_n 1, 1) := by decide +kernel
theorem dL_law_319 : decode cL_law 319 = .ok (.invokestatic 328, 3) := by decide +kernel
theorem dL_law_322 : decode cL_law 322 = .ok (.iconst 1, 1) := by decide +kernel
theorem dL_law_323 : decode cL_law 323 = .ok (.if_icmp .ne 28, 3) := by decide +kernel
theorem dL_law_326 : decode cL_law 326 = .ok (.aload_n 1, 1) := by decide +kernel
theorem dL_law_327 : decode cL_law 327 = .ok (.invokestatic 328, 3) := by decide +kernel
theorem dL_law_330 : decode cL_law 330 = .ok (.ifCond .ne 21, 3) := by decide +kernel
theorem dL_law_333 : decode cL_law 333 = .ok (.aload_n 1, 1) := by decide +kernel
theorem dL_law_334 : decode cL_law 334 = .ok (.invokevirtual 186, 3) := by decide +kernel
theorem dL_law_337 : decode cL_law 337 = .ok (.iconst 3, 1) := by decide +kernel
theorem dL_law_338 : decode cL_law 338 = .ok (.if_icmp .ne 13, 3) := by decide +kernel
theorem dL_law_341 : decode cL_law 341 = .ok (.aload_n 1, 1) := by decide +kernel
theorem dL_law_342 : decode cL_law 342 = .ok (.invokestatic 328, 3) := by decide +kernel
theorem dL_law_345 : decode cL_law 345 = .ok (.sipush (-1001), 3) := by decide +kernel
theorem dL_law_348 : decode cL_law 348 = .ok (.if_icmp .eq 5, 3) := by decide +kernel
theorem dL_law_351 : decode cL_law 351 = .ok (.iconst 0, 1) := by decide +kernel
theorem dL_law_352 : decode cL_law 352 = .ok (.ireturn, 1) := by decide +kernel
theorem dL_law_353 : decode cL_law 353 = .ok (.aload_n 1, 1) := by decide +kernel
theorem dL_law_354 : decode cL_law 354 = .ok (.invokestatic 330, 3) := by decide +kernel
theorem dL_law_357 : decode cL_law 357 = .ok (.ifCond .ne 27, 3) := by decide +kernel
theorem dL_law_360 : decode cL_law 360 = .ok (.aload_n 1, 1) := by decide +kernel
theorem dL_law_361 : decode cL_law 361 = .ok (.invokevirtual 186, 3) := by decide +kernel
theorem dL_law_364 : decode cL_law 364 = .ok (.ifCond .ne 20, 3) := by decide +kernel
theorem dL_law_367 : decode cL_law 367 = .ok (.aload_n 1, 1) := by decide +kernel
theorem dL_law_368 : decode cL_law 368 = .ok (.invokevirtual 214, 3) := by decide +kernel
theorem dL_law_371 : decode cL_law 371 = .ok (.ifCond .ne 13, 3) := by decide +kernel
theorem dL_law_374 : decode cL_law 374 = .ok (.aload_n 1, 1) := by decide +kernel
theorem dL_law_375 : decode cL_law 375 = .ok (.invokestatic 328, 3) := by decide +kernel
theorem dL_law_378 : decode cL_law 378 = .ok (.sipush (-1001), 3) := by decide +kernel
theorem dL_law_381 : decode cL_law 381 = .ok (.if_icmp .eq 5, 3) := by decide +kernel
theorem dL_law_384 : decode cL_law 384 = .ok (.iconst 0, 1) := by decide +kernel
theorem dL_law_385 : decode cL_law 385 = .ok (.ireturn, 1) := by decide +kernel
theorem dL_law_386 : decode cL_law 386 = .ok (.new 8, 3) := by decide +kernel
theorem dL_law_389 : decode cL_law 389 = .ok (.dup, 1) := by decide +kernel
theorem dL_law_390 : decode cL_law 390 = .ok (.invokespecial 327, 3) := by decide +kernel
theorem dL_law_393 : decode cL_law 393 = .ok (.astore_n 2, 1) := by decide +kernel
theorem dL_law_394 : decode cL_law 394 = .ok (.aload_n 2, 1) := by decide +kernel
theorem dL_law_395 : decode cL_law 395 = .ok (.aload_n 0, 1) := by decide +kernel
theorem dL_law_396 : decode cL_law 396 = .ok (.invokestatic 338, 3) := by decide +kernel
theorem dL_law_399 : decode cL_law 399 = .ok (.ifCond .ne 5, 3) := by decide +kernel
theorem dL_law_402 : decode cL_law 402 = .ok (.iconst 0, 1) := by decide +kernel
theorem dL_law_403 : decode cL_law 403 = .ok (.ireturn, 1) := by decide +kernel
theorem dL_law_404 : decode cL_law 404 = .ok (.aload_n 2, 1) := by decide +kernel
theorem dL_law_405 : decode cL_law 405 = .ok (.invokestatic 296, 3) := by decide +kernel
theorem dL_law_408 : decode cL_law 408 = .ok (.lstore_n 3, 1) := by decide +kernel
theorem dL_law_409 : decode cL_law 409 = .ok (.aload_n 2, 1) := by decide +kernel
theorem dL_law_410 : decode cL_law 410 = .ok (.invokestatic 296, 3) := by decide +kernel
theorem dL_law_413 : decode cL_law 413 = .ok (.lload_n 3, 1) := by decide +kernel
theorem dL_law_414 : decode cL_law 414 = .ok (.lcmp, 1) := by decide +kernel
theorem dL_law_415 : decode cL_law 415 = .ok (.ifCond .ne 10, 3) := by decide +kernel
theorem dL_law_418 : decode cL_law 418 = .ok (.aload_n 2, 1) := by decide +kernel
theorem dL_law_419 : decode cL_law 419 = .ok (.invokestatic 342, 3) := by decide +kernel
theorem dL_law_422 : decode cL_law 422 = .ok (.ifCond .ne 5, 3) := by decide +kernel
theorem dL_law_425 : decode cL_law 425 = .ok (.iconst 0, 1) := by decide +kernel
theorem dL_law_426 : decode cL_law 426 = .ok (.ireturn, 1) := by decide +kernel
theorem dL_law_427 : decode cL_law 427 = .ok (.aload_n 2, 1) := by decide +kernel
theorem dL_law_428 : decode cL_law 428 = .ok (.invokevirtual 332, 3) := by decide +kernel
theorem dL_law_431 : decode cL_law 431 = .ok (.istore 5, 2) := by decide +kernel
theorem dL_law_433 : decode cL_law 433 = .ok (.aload_n 2, 1) := by decide +kernel
theorem dL_law_434 : decode cL_law 434 = .ok (.invokestatic 296, 3) := by decide +kernel
theorem dL_law_437 : decode cL_law 437 = .ok (.lload_n 3, 1) := by decide +kernel
theorem dL_law_438 : decode cL_law 438 = .ok (.lcmp, 1) := by decide +kernel
theorem dL_law_439 : decode cL_law 439 = .ok (.ifCond .ne 21, 3) := by decide +kernel
theorem dL_law_442 : decode cL_law 442 = .ok (.aload_n 2, 1) := by decide +kernel
theorem dL_law_443 : decode cL_law 443 = .ok (.invokestatic 330, 3) := by decide +kernel
theorem dL_law_446 : decode cL_law 446 = .ok (.iload 5, 2) := by decide +kernel
theorem dL_law_448 : decode cL_law 448 = .ok (.if_icmp .ne 12, 3) := by decide +kernel
theorem dL_law_451 : decode cL_law 451 = .ok (.aload_n 2, 1) := by decide +kernel
theorem dL_law_452 : decode cL_law 452 = .ok (.invokestatic 296, 3) := by decide +kernel
theorem dL_law_455 : decode cL_law 455 = .ok (.lload_n 3, 1) := by decide +kernel
theorem dL_law_456 : decode cL_law 456 = .ok (.lcmp, 1) := by decide +kernel
theorem dL_law_457 : decode cL_law 457 = .ok (.ifCond .eq 5, 3) := by decide +kernel
theorem dL_law_460 : decode cL_law 460 = .ok (.iconst 0, 1) := by decide +kernel
theorem dL_law_461 : decode cL_law 461 = .ok (.ireturn, 1) := by decide +kernel
theorem dL_law_462 : decode cL_law 462 = .ok (.bipush 9, 2) := by decide +kernel
theorem dL_law_464 : decode cL_law 464 = .ok (.newarray .long, 2) := by decide +kernel
theorem dL_law_466 : decode cL_law 466 = .ok (.astore 6, 2) := by decide +kernel
theorem dL_law_468 : decode cL_law 468 = .ok (.iconst 0, 1) := by decide +kernel
theorem dL_law_469 : decode cL_law 469 = .ok (.istore 7, 2) := by decide +kernel
theorem dL_law_471 : decode cL_law 471 = .ok (.iconst 0, 1) := by decide +kernel
theorem dL_law_472 : decode cL_law 472 = .ok (.istore 8, 2) := by decide +kernel
theorem dL_law_474 : decode cL_law 474 = .ok (.iload 8, 2) := by decide +kernel
theorem dL_law_476 : decode cL_law 476 = .ok (.bipush 8, 2) := by decide +kernel
theorem dL_law_478 : decode cL_law 478 = .ok (.if_icmp .ge 63, 3) := by decide +kernel
theorem dL_law_481 : decode cL_law 481 = .ok (.aload_n 2, 1) := by decide +kernel
theorem dL_law_482 : decode cL_law 482 = .ok (.invokestatic 296, 3) := by decide +kernel
theorem dL_law_485 : decode cL_law 485 = .ok (.lstore 9, 2) := by decide +kernel
theorem dL_law_487 : decode cL_law 487 = .ok (.aload_n 2, 1) := by decide +kernel
theorem dL_law_488 : decode cL_law 488 = .ok (.aload_n 0, 1) := by decide +kernel
theorem dL_law_489 : decode cL_law 489 = .ok (.bipush 20, 2) := by decide +kernel
theorem dL_law_491 : decode cL_law 491 = .ok (.iload 8, 2) := by decide +kernel
theorem dL_law_493 : decode cL_law 493 = .ok (.iadd, 1) := by decide +kernel
theorem dL_law_494 : decode cL_law 494 = .ok (.invokestatic 170, 3) := by decide +kernel
theorem dL_law_497 : decode cL_law 497 = .ok (.iload 8, 2) := by decide +kernel
theorem dL_law_499 : decode cL_law 499 = .ok (.sipush 977, 3) := by decide +kernel
theorem dL_law_502 : decode cL_law 502 = .ok (.imul, 1) := by decide +kernel
theorem dL_law_503 : decode cL_law 503 = .ok (.ixor, 1) := by decide +kernel
theorem dL_law_504 : decode cL_law 504 = .ok (.invokestatic 346, 3) := by decide +kernel
theorem dL_law_507 : decode cL_law 507 = .ok (.ifCond .eq 16, 3) := by decide +kernel
theorem dL_law_510 : decode cL_law 510 = .ok (.aload 6, 2) := by decide +kernel
theorem dL_law_512 : decode cL_law 512 = .ok (.iload 7, 2) := by decide +kernel
theorem dL_law_514 : decode cL_law 514 = .ok (.iinc 7 1, 3) := by decide +kernel
theorem dL_law_517 : decode cL_law 517 = .ok (.lload 9, 2) := by decide +kernel
theorem dL_law_519 : decode cL_law 519 = .ok (.lastore, 1) := by decide +kernel
theorem dL_law_520 : decode cL_law 520 = .ok (.goto 15, 3) := by decide +kernel
theorem dL_law_523 : decode cL_law 523 = .ok (.aload_n 2, 1) := by decide +kernel
theorem dL_law_524 : decode cL_law 524 = .ok (.invokestatic 296, 3) := by decide +kernel
theorem dL_law_527 : decode cL_law 527 = .ok (.lload 9, 2) := by decide +kernel
theorem dL_law_529 : decode cL_law 529 = .ok (.lcmp, 1) := by decide +kernel
theorem dL_law_530 : decode cL_law 530 = .ok (.ifCond .eq 5, 3) := by decide +kernel
theorem dL_law_533 : decode cL_law 533 = .ok (.iconst 0, 1) := by decide +kernel
theorem dL_law_534 : decode cL_law 534 = .ok (.ireturn, 1) := by decide +kernel
theorem dL_law_535 : decode cL_law 535 = .ok (.iinc 8 1, 3) := by decide +kernel
theorem dL_law_538 : decode cL_law 538 = .ok (.goto (-64), 3) := by decide +kernel
theorem dL_law_541 : decode cL_law 541 = .ok (.iconst 1, 1) := by decide +kernel
theorem dL_law_542 : decode cL_law 542 = .ok (.istore 8, 2) := by decide +kernel
theorem dL_law_544 : decode cL_law 544 = .ok (.iload 8, 2) := by decide +kernel
theorem dL_law_546 : decode cL_law 546 = .ok (.iload 7, 2) := by decide +kernel
theorem dL_law_548 : decode cL_law 548 = .ok (.if_icmp .gt 39, 3) := by decide +kernel
theorem dL_law_551 : decode cL_law 551 = .ok (.aload_n 2, 1) := by decide +kernel
theorem dL_law_552 : decode cL_law 552 = .ok (.invokestatic 328, 3) := by decide +kernel
theorem dL_law_555 : decode cL_law 555 = .ok (.iload 7, 2) := by decide +kernel
theorem dL_law_557 : decode cL_law 557 = .ok (.iload 8, 2) := by decide +kernel
theorem dL_law_559 : decode cL_law 559 = .ok (.isub, 1) := by decide +kernel
theorem dL_law_560 : decode cL_law 560 = .ok (.if_icmp .ne 19, 3) := by decide +kernel
theorem dL_law_563 : decode cL_law 563 = .ok (.aload_n 2, 1) := by decide +kernel
theorem dL_law_564 : decode cL_law 564 = .ok (.invokestatic 296, 3) := by decide +kernel
theorem dL_law_567 : decode cL_law 567 = .ok (.aload 6, 2) := by decide +kernel
theorem dL_law_569 : decode cL_law 569 = .ok (.iload 7, 2) := by decide +kernel
theorem dL_law_571 : decode cL_law 571 = .ok (.iload 8, 2) := by decide +kernel
theorem dL_law_573 : decode cL_law 573 = .ok (.isub, 1) := by decide +kernel
theorem dL_law_574 : decode cL_law 574 = .ok (.laload, 1) := by decide +kernel
theorem dL_law_575 : decode cL_law 575 = .ok (.lcmp, 1) := by decide +kernel
theorem dL_law_576 : decode cL_law 576 = .ok (.ifCond .eq 5, 3) := by decide +kernel
theorem dL_law_579 : decode cL_law 579 = .ok (.iconst 0, 1) := by decide +kernel
theorem dL_law_580 : decode cL_law 580 = .ok (.ireturn, 1) := by decide +kernel
theorem dL_law_581 : decode cL_law 581 = .ok (.iinc 8 1, 3) := by decide +kernel
theorem dL_law_584 : decode cL_law 584 = .ok (.goto (-40), 3) := by decide +kernel
theorem dL_law_587 : decode cL_law 587 = .ok (.aload_n 2, 1) := by decide +kernel
theorem dL_law_588 : decode cL_law 588 = .ok (.invokestatic 328, 3) := by decide +kernel
theorem dL_law_591 : decode cL_law 591 = .ok (.sipush (-1001), 3) := by decide +kernel
theorem dL_law_594 : decode cL_law 594 = .ok (.if_icmp .ne 35, 3) := by decide +kernel
theorem dL_law_597 : decode cL_law 597 = .ok (.aload_n 2, 1) := by decide +kernel
theorem dL_law_598 : decode cL_law 598 = .ok (.invokestatic 330, 3) := by decide +kernel
theorem dL_law_601 : decode cL_law 601 = .ok (.iload 5, 2) := by decide +kernel
theorem dL_law_603 : decode cL_law 603 = .ok (.if_icmp .ne 26, 3) := by decide +kernel
theorem dL_law_606 : decode cL_law 606 = .ok (.aload_n 2, 1) := by decide +kernel
theorem dL_law_607 : decode cL_law 607 = .ok (.invokestatic 296, 3) := by decide +kernel
theorem dL_law_610 : decode cL_law 610 = .ok (.lload_n 3, 1) := by decide +kernel
theorem dL_law_611 : decode cL_law 611 = .ok (.lcmp, 1) := by decide +kernel
theorem dL_law_612 : decode cL_law 612 = .ok (.ifCond .ne 17, 3) := by decide +kernel
theorem dL_law_615 : decode cL_law 615 = .ok (.aload_n 2, 1) := by decide +kernel
theorem dL_law_616 : decode cL_law 616 = .ok (.invokestatic 328, 3) := by decide +kernel
theorem dL_law_619 : decode cL_law 619 = .ok (.sipush (-1001), 3) := by decide +kernel
theorem dL_law_622 : decode cL_law 622 = .ok (.if_icmp .ne 7, 3) := by decide +kernel
theorem dL_law_625 : decode cL_law 625 = .ok (.iconst 1, 1) := by decide +kernel
theorem dL_law_626 : decode cL_law 626 = .ok (.goto 4, 3) := by decide +kernel
theorem dL_law_629 : decode cL_law 629 = .ok (.iconst 0, 1) := by decide +kernel
theorem dL_law_630 : decode cL_law 630 = .ok (.ireturn, 1) := by decide +kernel
