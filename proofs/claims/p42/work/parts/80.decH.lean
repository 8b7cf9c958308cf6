theorem dL_at_0 : decode cL_at 0 = .ok (.iload_n 1, 1) := by decide +kernel
theorem dL_at_1 : decode cL_at 1 = .ok (.aload_n 0, 1) := by decide +kernel
theorem dL_at_2 : decode cL_at 2 = .ok (.arraylength, 1) := by decide +kernel
theorem dL_at_3 : decode cL_at 3 = .ok (.if_icmp .ge 9, 3) := by decide +kernel
theorem dL_at_6 : decode cL_at 6 = .ok (.aload_n 0, 1) := by decide +kernel
theorem dL_at_7 : decode cL_at 7 = .ok (.iload_n 1, 1) := by decide +kernel
theorem dL_at_8 : decode cL_at 8 = .ok (.iaload, 1) := by decide +kernel
theorem dL_at_9 : decode cL_at 9 = .ok (.goto 4, 3) := by decide +kernel
theorem dL_at_12 : decode cL_at 12 = .ok (.iconst 0, 1) := by decide +kernel
theorem dL_at_13 : decode cL_at 13 = .ok (.ireturn, 1) := by decide +kernel
theorem dL_some_0 : decode cL_some 0 = .ok (.iload_n 0, 1) := by decide +kernel
theorem dL_some_1 : decode cL_some 1 = .ok (.iload_n 1, 1) := by decide +kernel
theorem dL_some_2 : decode cL_some 2 = .ok (.irem, 1) := by decide +kernel
theorem dL_some_3 : decode cL_some 3 = .ok (.istore_n 2, 1) := by decide +kernel
theorem dL_some_4 : decode cL_some 4 = .ok (.iload_n 2, 1) := by decide +kernel
theorem dL_some_5 : decode cL_some 5 = .ok (.ifCond .ge 9, 3) := by decide +kernel
theorem dL_some_8 : decode cL_some 8 = .ok (.iload_n 2, 1) := by decide +kernel
theorem dL_some_9 : decode cL_some 9 = .ok (.iload_n 1, 1) := by decide +kernel
theorem dL_some_10 : decode cL_some 10 = .ok (.iadd, 1) := by decide +kernel
theorem dL_some_11 : decode cL_some 11 = .ok (.goto 4, 3) := by decide +kernel
theorem dL_some_14 : decode cL_some 14 = .ok (.iload_n 2, 1) := by decide +kernel
theorem dL_some_15 : decode cL_some 15 = .ok (.ireturn, 1) := by decide +kernel
set_option maxRecDepth 20000 in
theorem ggL_pass_X7_pass : GoodIn wsL_pass wsX7_pass := goodIn_ca (goodIn_ca (goodIn_ca (goodIn_r _ [7, 8, 9, 10, 11, 12, 6, 13, 14, 15, 16, 17, 18, 19, 20, 21, 22, 23, 24, 25, 26, 27, 28, 29, 30, 31, 32, 33, 34, 35, 36, 37, 38, 39, 40, 41, 42, 43, 44, 45, 46, 47, 48, 49, 50, 51, 52, 53, 54, 55, 56, 57, 58, 59, 60, 61, 62, 63, 64, 65, 66, 67, 68, 69, 70, 71, 72, 73, 74, 75, 76, 77, 78, 79, 80, 81, 82, 83, 84, 85, 86, 87, 88, 89, 90, 91, 92, 93, 94, 95, 96, 97, 98, 99, 100, 101, 102, 103, 104, 105, 106, 107, 108, 109, 110, 111, 112, 113, 114, 115, 116, 117, 118, 119, 120, 121, 122, 123, 124, 125, 126, 127, 128, 129, 130, 131, 132, 133, 134, 135, 136, 137, 138, 139, 140, 141, 142, 143, 144, 145, 146, 147, 148, 149, 150, 151, 152, 153, 154, 155, 156, 157, 158, 159, 160, 161, 162, 163, 164, 165, 166, 167, 168, 169, 170, 171, 172, 173, 174, 175, 176, 177, 178, 179, 180, 181, 182, 183, 184, 185, 186, 187, 188, 189, 190, 191, 192, 193, 194, 195, 196, 197, 198, 199, 200, 201, 202, 203, 204, 205, 206, 207, 208, 209, 210, 211, 212, 213, 214, 215, 216, 217, 218, 219, 220, 221, 222, 223, 224, 225, 226, 227, 228, 229, 230, 231, 232, 233, 234, 235, 236, 237, 238, 239, 240, 241, 242, 243, 244, 245, 246, 247, 248, 249, 250, 251, 252, 253] (by decide +kernel) (by decide +kernel)) (goodIn_sub (fun _ h => List.mem_cons_of_mem _ (List.mem_append_left _ (List.mem_append_left _ (List.mem_append_right _ h)))) (by decide +kernel))) (goodIn_sub (fun _ h => List.mem_cons_of_mem _ (List.mem_append_left _ (List.mem_append_right _ h))) (by decide +kernel))) (goodIn_sub (fun _ h => List.mem_cons_of_mem _ (List.mem_append_right _ h)) (by decide +kernel))
set_option maxRecDepth 20000 in
theorem gL_pass_X7_pass : GoodIn wsL_pass (wsV RL 7 RX7 yX7_pass wsX7_pass) := goodIn_app (goodIn_of _ (by decide +kernel)) ggL_pass_X7_pass
theorem dL_pass_0 : decode cL_pass 0 = .ok (.aload_n 0, 1) := by decide +kernel
theorem dL_pass_1 : decode cL_pass 1 = .ok (.iload_n 1, 1) := by decide +kernel
theorem dL_pass_2 : decode cL_pass 2 = .ok (.invokevirtual 7, 3) := by decide +kernel
theorem dL_pass_5 : decode cL_pass 5 = .ok (.ireturn, 1) := by decide +kernel
theorem dL_pass_6 : decode cL_pass 6 = .ok (.astore_n 2, 1) := by decide +kernel
theorem dL_pass_7 : decode cL_pass 7 = .ok (.sipush (-1001), 3) := by decide +kernel
theorem dL_pass_10 : decode cL_pass 10 = .ok (.ireturn, 1) := by decide +kernel
theorem dL_pass_11 : decode cL_pass 11 = .ok (.astore_n 2, 1) := by decide +kernel
theorem dL_pass_12 : decode cL_pass 12 = .ok (.sipush (-1002), 3) := by decide +kernel
theorem dL_pass_15 : decode cL_pass 15 = .ok (.ireturn, 1) := by decide +kernel
set_option maxRecDepth 20000 in
theorem ggL_room_X7_addRoom : GoodIn wsL_room wsX7_addRoom := goodIn_ca (goodIn_ca (goodIn_r _ [7, 8, 9, 10, 11, 12, 13, 14, 15, 16, 6, 17, 18, 19, 20, 21, 22, 23, 24, 25, 26, 27, 28, 29, 30, 31, 32, 33, 34, 35, 36, 37, 38, 39, 40, 41, 42, 43, 44, 45, 46, 47, 48, 49, 50, 51, 52, 53, 54, 55, 56, 57, 58, 59, 60, 61, 62, 63, 64, 65, 66, 67, 68, 69, 70, 71, 72, 73, 74, 75, 76, 77, 78, 79, 80, 81, 82, 83, 84, 85, 86, 87, 88, 89, 90, 91, 92, 93, 94, 95, 96, 97, 98, 99, 100, 101, 102, 103, 104, 105, 106, 107, 108, 109, 110, 111, 112, 113, 114, 115, 116, 117, 118, 119, 120, 121, 122, 123, 124, 125, 126, 127, 128, 129, 130, 131] (by decide +kernel) (by decide +kernel)) (goodIn_sub (fun _ h => List.mem_cons_of_mem _ (List.mem_append_left _ (List.mem_append_right _ h))) (by decide +kernel))) (goodIn_sub (fun _ h => List.mem_cons_of_mem _ (List.mem_append_right _ h)) (by decide +kernel))
set_option maxRecDepth 20000 in
theorem gL_room_X7_addRoom : GoodIn wsL_room (wsV RL 17 RX7 yX7_addRoom wsX7_addRoom) := goodIn_app (goodIn_of _ (by decide +kernel)) ggL_room_X7_addRoom
theorem dL_room_0 : decode cL_room 0 = .ok (.aload_n 0, 1) := by decide +kernel
theorem dL_room_1 : decode cL_room 1 = .ok (.iload_n 1, 1) := by decide +kernel
theorem dL_room_2 : decode cL_room 2 = .ok (.iload_n 2, 1) := by decide +kernel
theorem dL_room_3 : decode cL_room 3 = .ok (.iload_n 3, 1) := by decide +kernel
theorem dL_room_4 : decode cL_room 4 = .ok (.invokevirtual 17, 3) := by decide +kernel
theorem dL_room_7 : decode cL_room 7 = .ok (.ireturn, 1) := by decide +kernel
theorem dL_room_8 : decode cL_room 8 = .ok (.astore 4, 2) := by decide +kernel
theorem dL_room_10 : decode cL_room 10 = .ok (.sipush (-1001), 3) := by decide +kernel
theorem dL_room_13 : decode cL_room 13 = .ok (.ireturn, 1) := by decide +kernel
theorem dL_room_14 : decode cL_room 14 = .ok (.astore 4, 2) := by decide +kernel
theorem dL_room_16 : decode cL_room 16 = .ok (.sipush (-1002), 3) := by decide +kernel
theorem dL_room_19 : decode cL_room 19 = .ok (.ireturn, 1) := by decide +kernel
set_option maxRecDepth 20000 in
theorem ggL_sets_X7_setLimits : GoodIn wsL_sets wsX7_setLimits := goodIn_ca (goodIn_ca (goodIn_r _ [7, 8, 9, 10, 11, 12, 6, 13, 14, 15, 16, 17, 18, 19, 20, 21, 22, 23, 24, 25, 26, 27, 28, 29, 30, 31, 32, 33, 34, 35, 36, 37, 38, 39, 40, 41, 42, 43, 44, 45, 68, 69, 70, 71, 72, 73, 74, 75, 76, 77, 78, 79, 80, 81, 82, 83, 84, 85, 86, 87, 88, 89, 90, 91, 92, 93, 94, 95] (by decide +kernel) (by decide +kernel)) (goodIn_sub (fun _ h => List.mem_cons_of_mem _ (List.mem_append_left _ (List.mem_append_right _ h))) (by decide +kernel))) (goodIn_sub (fun _ h => List.mem_cons_of_mem _ (List.mem_append_right _ h)) (by decide +kernel))
set_option maxRecDepth 20000 in
theorem gL_sets_X7_setLimits : GoodIn wsL_sets (wsV RL 21 RX7 yX7_setLimits wsX7_setLimits) := goodIn_app (goodIn_of _ (by decide +kernel)) ggL_sets_X7_setLimits
set_option maxRecDepth 20000 in
theorem ggL_sets_X7_setLead : GoodIn wsL_sets wsX7_setLead := goodIn_ca (goodIn_ca (goodIn_r _ [49, 50, 51, 10, 11, 12, 6, 13, 14, 15, 16, 17, 18, 19, 20, 21, 22, 23, 24, 25, 26, 27, 28, 29, 30, 31, 32, 33, 34, 35, 36, 37, 38, 39, 40, 41, 42, 43, 44, 45, 68, 69, 70, 71, 72, 73, 74, 75, 76, 77, 78, 79, 80, 81, 82, 83, 84, 85, 86, 87, 88, 89, 90, 91, 92, 93, 94, 95] (by decide +kernel) (by decide +kernel)) (goodIn_sub (fun _ h => List.mem_cons_of_mem _ (List.mem_append_left _ (List.mem_append_right _ h))) (by decide +kernel))) (goodIn_sub (fun _ h => List.mem_cons_of_mem _ (List.mem_append_right _ h)) (by decide +kernel))
set_option maxRecDepth 20000 in
theorem gL_sets_X7_setLead : GoodIn wsL_sets (wsV RL 24 RX7 yX7_setLead wsX7_setLead) := goodIn_app (goodIn_of _ (by decide +kernel)) ggL_sets_X7_setLead
set_option maxRecDepth 20000 in
theorem ggL_sets_X7_setOutside : GoodIn wsL_sets wsX7_setOutside := goodIn_ca (goodIn_r _ [55, 56, 41, 42, 6, 43, 44, 45, 85, 86, 87, 88, 89, 90, 91, 92] (by decide +kernel) (by decide +kernel)) (goodIn_sub (fun _ h => List.mem_cons_of_mem _ (List.mem_append_right _ h)) (by decide +kernel))
set_option maxRecDepth 20000 in
theorem gL_sets_X7_setOutside : GoodIn wsL_sets (wsV RL 27 RX7 yX7_setOutside wsX7_setOutside) := goodIn_app (goodIn_of _ (by decide +kernel)) ggL_sets_X7_setOutside
set_option maxRecDepth 20000 in
theorem ggL_sets_X7_setCharge : GoodIn wsL_sets wsX7_setCharge := goodIn_ca (goodIn_r _ [60, 61, 62, 41, 42, 6, 43, 44, 45, 85, 86, 87, 88, 89, 90, 91, 92, 96, 97, 98, 99, 100, 101] (by decide +kernel) (by decide +kernel)) (goodIn_sub (fun _ h => List.mem_cons_of_mem _ (List.mem_append_right _ h)) (by decide +kernel))
set_option maxRecDepth 20000 in
theorem gL_sets_X7_setCharge : GoodIn wsL_sets (wsV RL 30 RX7 yX7_setCharge wsX7_setCharge) := goodIn_app (goodIn_of _ (by decide +kernel)) ggL_sets_X7_setCharge
set_option maxRecDepth 20000 in
theorem ggL_sets_X7_setPowerLimit : GoodIn wsL_sets wsX7_setPowerLimit := goodIn_ca (goodIn_r _ [66, 61, 67, 41, 42, 6, 43, 44, 45, 85, 86, 87, 88, 89, 90, 91, 92, 96, 97, 98, 99, 100, 101] (by decide +kernel) (by decide +kernel)) (goodIn_sub (fun _ h => List.mem_cons_of_mem _ (List.mem_append_right _ h)) (by decide +kernel))
set_option maxRecDepth 20000 in
theorem gL_sets_X7_setPowerLimit : GoodIn wsL_sets (wsV RL 33 RX7 yX7_setPowerLimit wsX7_setPowerLimit) := goodIn_app (goodIn_of _ (by decide +kernel)) ggL_sets_X7_setPowerLimit
theorem dL_sets_0 : decode cL_sets 0 = .ok (.iload_n 2, 1) := by decide +kernel
theorem dL_sets_1 : decode cL_sets 1 = .ok (.bipush 108, 2) := by decide +kernel
theorem dL_sets_3 : decode cL_sets 3 = .ok (.if_icmp .ne 14, 3) := by decide +kernel
theorem dL_sets_6 : decode cL_sets 6 = .ok (.aload_n 0, 1) := by decide +kernel
theorem dL_sets_7 : decode cL_sets 7 = .ok (.iload_n 1, 1) := by decide +kernel
theorem dL_sets_8 : decode cL_sets 8 = .ok (.iload_n 3, 1) := by decide +kernel
theorem dL_sets_9 : decode cL_sets 9 = .ok (.iload 4, 2) := by decide +kernel
theorem dL_sets_11 : decode cL_sets 11 = .ok (.invokevirtual 21, 3) := by decide +kernel
theorem dL_sets_14 : decode cL_sets 14 = .ok (.goto 53, 3) := by decide +kernel
theorem dL_sets_17 : decode cL_sets 17 = .ok (.iload_n 2, 1) := by decide +kernel
theorem dL_sets_18 : decode cL_sets 18 = .ok (.bipush 100, 2) := by decide +kernel
theorem dL_sets_20 : decode cL_sets 20 = .ok (.if_icmp .ne 14, 3) := by decide +kernel
theorem dL_sets_23 : decode cL_sets 23 = .ok (.aload_n 0, 1) := by decide +kernel
theorem dL_sets_24 : decode cL_sets 24 = .ok (.iload_n 1, 1) := by decide +kernel
theorem dL_sets_25 : decode cL_sets 25 = .ok (.iload_n 3, 1) := by decide +kernel
theorem dL_sets_26 : decode cL_sets 26 = .ok (.iload 4, 2) := by decide +kernel
theorem dL_sets_28 : decode cL_sets 28 = .ok (.invokevirtual 24, 3) := by decide +kernel
theorem dL_sets_31 : decode cL_sets 31 = .ok (.goto 36, 3) := by decide +kernel
theorem dL_sets_34 : decode cL_sets 34 = .ok (.iload_n 2, 1) := by decide +kernel
theorem dL_sets_35 : decode cL_sets 35 = .ok (.bipush 111, 2) := by decide +kernel
theorem dL_sets_37 : decode cL_sets 37 = .ok (.if_icmp .ne 11, 3) := by decide +kernel
theorem dL_sets_40 : decode cL_sets 40 = .ok (.aload_n 0, 1) := by decide +kernel
theorem dL_sets_41 : decode cL_sets 41 = .ok (.iload_n 3, 1) := by decide +kernel
theorem dL_sets_42 : decode cL_sets 42 = .ok (.invokevirtual 27, 3) := by decide +kernel
theorem dL_sets_45 : decode cL_sets 45 = .ok (.goto 22, 3) := by decide +kernel
theorem dL_sets_48 : decode cL_sets 48 = .ok (.iload_n 2, 1) := by decide +kernel
theorem dL_sets_49 : decode cL_sets 49 = .ok (.bipush 99, 2) := by decide +kernel
theorem dL_sets_51 : decode cL_sets 51 = .ok (.if_icmp .ne 11, 3) := by decide +kernel
theorem dL_sets_54 : decode cL_sets 54 = .ok (.aload_n 0, 1) := by decide +kernel
theorem dL_sets_55 : decode cL_sets 55 = .ok (.iload_n 3, 1) := by decide +kernel
theorem dL_sets_56 : decode cL_sets 56 = .ok (.invokevirtual 30, 3) := by decide +kernel
theorem dL_sets_59 : decode cL_sets 59 = .ok (.goto 8, 3) := by decide +kernel
theorem dL_sets_62 : decode cL_sets 62 = .ok (.aload_n 0, 1) := by decide +kernel
theorem dL_sets_63 : decode cL_sets 63 = .ok (.iload_n 3, 1) := by decide +kernel
theorem dL_sets_64 : decode cL_sets 64 = .ok (.invokevirtual 33, 3) := by decide +kernel
theorem dL_sets_67 : decode cL_sets 67 = .ok (.ireturn, 1) := by decide +kernel
theorem dL_sets_68 : decode cL_sets 68 = .ok (.astore 5, 2) := by decide +kernel
theorem dL_sets_70 : decode cL_sets 70 = .ok (.sipush (-1001), 3) := by decide +kernel
theorem dL_sets_73 : decode cL_sets 73 = .ok (.ireturn, 1) := by decide +kernel
theorem dL_sets_74 : decode cL_sets 74 = .ok (.astore 5, 2) := by decide +kernel
theorem dL_sets_76 : decode cL_sets 76 = .ok (.sipush (-1002), 3) := by decide +kernel
theorem dL_sets_79 : decode cL_sets 79 = .ok (.ireturn, 1) := by decide +kernel
set_option maxRecDepth 20000 in
theorem ggL_mode_X7_setMode : GoodIn wsL_mode wsX7_setMode := goodIn_ca (goodIn_ca (goodIn_r _ [7, 8, 9, 10, 11, 12, 13, 6, 14, 15, 16, 17, 18, 19, 20, 21, 22, 23, 24, 25, 26, 27, 28, 29, 30, 31, 32, 33, 34, 35, 36, 37, 38, 39, 40, 41, 42, 43, 44, 45, 46, 47, 48, 49, 50, 51, 52, 53, 54, 55, 56, 57, 58, 59, 60, 61, 62, 63, 64, 65, 66, 67, 68, 69] (by decide +kernel) (by decide +kernel)) (goodIn_sub (fun _ h => List.mem_cons_of_mem _ (List.mem_append_left _ (List.mem_append_right _ h))) (by decide +kernel))) (goodIn_sub (fun _ h => List.mem_cons_of_mem _ (List.mem_append_right _ h)) (by decide +kernel))
set_option maxRecDepth 20000 in
theorem gL_mode_X7_setMode : GoodIn wsL_mode (wsV RL 38 RX7 yX7_setMode wsX7_setMode) := goodIn_app (goodIn_of _ (by decide +kernel)) ggL_mode_X7_setMode
theorem dL_mode_0 : decode cL_mode 0 = .ok (.aload_n 0, 1) := by decide +kernel
theorem dL_mode_1 : decode cL_mode 1 = .ok (.iload_n 1, 1) := by decide +kernel
theorem dL_mode_2 : decode cL_mode 2 = .ok (.iload_n 2, 1) := by decide +kernel
theorem dL_mode_3 : decode cL_mode 3 = .ok (.invokevirtual 38, 3) := by decide +kernel
theorem dL_mode_6 : decode cL_mode 6 = .ok (.ireturn, 1) := by decide +kernel
theorem dL_mode_7 : decode cL_mode 7 = .ok (.astore_n 3, 1) := by decide +kernel
theorem dL_mode_8 : decode cL_mode 8 = .ok (.bipush 49, 2) := by decide +kernel
theorem dL_mode_10 : decode cL_mode 10 = .ok (.ireturn, 1) := by decide +kernel
theorem dL_mode_11 : decode cL_mode 11 = .ok (.astore_n 3, 1) := by decide +kernel
theorem dL_mode_12 : decode cL_mode 12 = .ok (.bipush 50, 2) := by decide +kernel
theorem dL_mode_14 : decode cL_mode 14 = .ok (.ireturn, 1) := by decide +kernel
set_option maxRecDepth 20000 in
theorem ggL_prices_X7_setPrices : GoodIn wsL_prices wsX7_setPrices := goodIn_ca (goodIn_r _ [6, 7, 8, 9, 10, 11, 12, 13, 5, 14, 15, 16, 17, 18, 19, 20, 21, 22, 23, 24, 25, 26, 27, 28, 29, 30] (by decide +kernel) (by decide +kernel)) (goodIn_sub (fun _ h => List.mem_cons_of_mem _ (List.mem_append_right _ h)) (by decide +kernel))
set_option maxRecDepth 20000 in
theorem gL_prices_X7_setPrices : GoodIn wsL_prices (wsV RL 42 RX7 yX7_setPrices wsX7_setPrices) := goodIn_app (goodIn_of _ (by decide +kernel)) ggL_prices_X7_setPrices
theorem dL_prices_0 : decode cL_prices 0 = .ok (.aload_n 0, 1) := by decide +kernel
theorem dL_prices_1 : decode cL_prices 1 = .ok (.iload_n 1, 1) := by decide +kernel
theorem dL_prices_2 : decode cL_prices 2 = .ok (.iload_n 2, 1) := by decide +kernel
theorem dL_prices_3 : decode cL_prices 3 = .ok (.iload_n 3, 1) := by decide +kernel
theorem dL_prices_4 : decode cL_prices 4 = .ok (.iload 4, 2) := by decide +kernel
theorem dL_prices_6 : decode cL_prices 6 = .ok (.invokevirtual 42, 3) := by decide +kernel
theorem dL_prices_9 : decode cL_prices 9 = .ok (.ireturn, 1) := by decide +kernel
theorem dL_prices_10 : decode cL_prices 10 = .ok (.astore 5, 2) := by decide +kernel
theorem dL_prices_12 : decode cL_prices 12 = .ok (.sipush (-1001), 3) := by decide +kernel
theorem dL_prices_15 : decode cL_prices 15 = .ok (.ireturn, 1) := by decide +kernel
set_option maxRecDepth 20000 in
theorem ggL_of_X7_temperature : GoodIn wsL_of wsX7_temperature := goodIn_ca (goodIn_r _ [7, 8, 9, 10, 11, 6, 12, 13, 14, 15, 16, 17, 18, 19, 20, 21, 22, 23, 24, 25, 26, 27, 28, 29, 30, 31, 32, 33, 34, 35, 36, 37, 38, 39, 71, 72, 73, 74, 75, 76, 77, 78, 79, 80, 81, 82, 83, 84, 85, 86, 87, 88, 89, 90, 91, 92, 93, 94, 95, 96, 97, 98] (by decide +kernel) (by decide +kernel)) (goodIn_sub (fun _ h => List.mem_cons_of_mem _ (List.mem_append_left _ (List.mem_append_right _ h))) (by decide +kernel))
set_option maxRecDepth 20000 in
theorem gL_of_X7_temperature : GoodIn wsL_of (wsV RL 46 RX7 yX7_temperature wsX7_temperature) := goodIn_app (goodIn_of _ (by decide +kernel)) ggL_of_X7_temperature
set_option maxRecDepth 20000 in
theorem ggL_of_X7_isCooled : GoodIn wsL_of wsX7_isCooled := goodIn_ca (goodIn_r _ [43, 44, 9, 10, 11, 6, 12, 13, 14, 15, 16, 17, 18, 19, 20, 21, 22, 23, 24, 25, 26, 27, 28, 29, 30, 31, 32, 33, 34, 35, 36, 37, 38, 39, 71, 72, 73, 74, 75, 76, 77, 78, 79, 80, 81, 82, 83, 84, 85, 86, 87, 88, 89, 90, 91, 92, 93, 94, 95, 96, 97, 98] (by decide +kernel) (by decide +kernel)) (goodIn_sub (fun _ h => List.mem_cons_of_mem _ (List.mem_append_left _ (List.mem_append_right _ h))) (by decide +kernel))
set_option maxRecDepth 20000 in
theorem gL_of_X7_isCooled : GoodIn wsL_of (wsV RL 49 RX7 yX7_isCooled wsX7_isCooled) := goodIn_app (goodIn_of _ (by decide +kernel)) ggL_of_X7_isCooled
set_option maxRecDepth 20000 in
theorem ggL_of_X7_warmest : GoodIn wsL_of wsX7_warmest := goodIn_ca (goodIn_ca (goodIn_r _ [48, 49, 50, 51, 52, 9, 10, 11, 6, 12, 13, 14, 15, 16, 17, 18, 19, 20, 21, 22, 23, 24, 25, 26, 27, 28, 29, 30, 31, 32, 33, 34, 35, 36, 37, 38, 39, 71, 72, 73, 74, 75, 76, 77, 78, 79, 80, 81, 82, 83, 84, 85, 86, 87, 88, 89, 90, 91, 92, 93, 94, 95, 96, 97, 98] (by decide +kernel) (by decide +kernel)) (goodIn_sub (fun _ h => List.mem_cons_of_mem _ (List.mem_append_right _ h)) (by decide +kernel))) (goodIn_sub (fun _ h => List.mem_cons_of_mem _ (List.mem_append_left _ (List.mem_append_right _ h))) (by decide +kernel))
set_option maxRecDepth 20000 in
theorem gL_of_X7_warmest : GoodIn wsL_of (wsV RL 53 RX7 yX7_warmest wsX7_warmest) := goodIn_app (goodIn_of _ (by decide +kernel)) ggL_of_X7_warmest
set_option maxRecDepth 20000 in
theorem ggL_of_X7_freeSpace : GoodIn wsL_of wsX7_freeSpace := goodIn_ca (goodIn_r _ [56, 9, 10, 11, 6, 12, 13, 14, 15, 16, 17, 18, 19, 20, 21, 22, 23, 24, 25, 26, 27, 28, 29, 30, 31, 32, 33, 34, 35, 36, 37, 38, 39, 57, 58, 59, 60, 61, 62, 63, 64, 65, 66, 67, 68, 69, 70, 88, 89, 90, 91, 92, 93, 94, 95, 96, 97, 98, 99, 100, 101, 102, 103, 104, 105, 106, 107] (by decide +kernel) (by decide +kernel)) (goodIn_sub (fun _ h => List.mem_cons_of_mem _ (List.mem_append_left _ (List.mem_append_right _ h))) (by decide +kernel))
set_option maxRecDepth 20000 in
theorem gL_of_X7_freeSpace : GoodIn wsL_of (wsV RL 56 RX7 yX7_freeSpace wsX7_freeSpace) := goodIn_app (goodIn_of _ (by decide +kernel)) ggL_of_X7_freeSpace
theorem dL_of_0 : decode cL_of 0 = .ok (.iload_n 2, 1) := by decide +kernel
theorem dL_of_1 : decode cL_of 1 = .ok (.ifCond .ne 11, 3) := by decide +kernel
theorem dL_of_4 : decode cL_of 4 = .ok (.aload_n 0, 1) := by decide +kernel
theorem dL_of_5 : decode cL_of 5 = .ok (.iload_n 1, 1) := by decide +kernel
theorem dL_of_6 : decode cL_of 6 = .ok (.invokevirtual 46, 3) := by decide +kernel
theorem dL_of_9 : decode cL_of 9 = .ok (.goto 42, 3) := by decide +kernel
theorem dL_of_12 : decode cL_of 12 = .ok (.iload_n 2, 1) := by decide +kernel
theorem dL_of_13 : decode cL_of 13 = .ok (.iconst 1, 1) := by decide +kernel
theorem dL_of_14 : decode cL_of 14 = .ok (.if_icmp .ne 19, 3) := by decide +kernel
theorem dL_of_17 : decode cL_of 17 = .ok (.aload_n 0, 1) := by decide +kernel
theorem dL_of_18 : decode cL_of 18 = .ok (.iload_n 1, 1) := by decide +kernel
theorem dL_of_19 : decode cL_of 19 = .ok (.invokevirtual 49, 3) := by decide +kernel
theorem dL_of_22 : decode cL_of 22 = .ok (.ifCond .eq 7, 3) := by decide +kernel
theorem dL_of_25 : decode cL_of 25 = .ok (.iconst 1, 1) := by decide +kernel
theorem dL_of_26 : decode cL_of 26 = .ok (.goto 25, 3) := by decide +kernel
theorem dL_of_29 : decode cL_of 29 = .ok (.iconst 0, 1) := by decide +kernel
theorem dL_of_30 : decode cL_of 30 = .ok (.goto 21, 3) := by decide +kernel
theorem dL_of_33 : decode cL_of 33 = .ok (.iload_n 2, 1) := by decide +kernel
theorem dL_of_34 : decode cL_of 34 = .ok (.iconst 2, 1) := by decide +kernel
theorem dL_of_35 : decode cL_of 35 = .ok (.if_icmp .ne 11, 3) := by decide +kernel
theorem dL_of_38 : decode cL_of 38 = .ok (.aload_n 0, 1) := by decide +kernel
theorem dL_of_39 : decode cL_of 39 = .ok (.iload_n 1, 1) := by decide +kernel
theorem dL_of_40 : decode cL_of 40 = .ok (.invokevirtual 53, 3) := by decide +kernel
theorem dL_of_43 : decode cL_of 43 = .ok (.goto 8, 3) := by decide +kernel
theorem dL_of_46 : decode cL_of 46 = .ok (.aload_n 0, 1) := by decide +kernel
theorem dL_of_47 : decode cL_of 47 = .ok (.iload_n 1, 1) := by decide +kernel
theorem dL_of_48 : decode cL_of 48 = .ok (.invokevirtual 56, 3) := by decide +kernel
theorem dL_of_51 : decode cL_of 51 = .ok (.ireturn, 1) := by decide +kernel
theorem dL_of_52 : decode cL_of 52 = .ok (.astore_n 3, 1) := by decide +kernel
theorem dL_of_53 : decode cL_of 53 = .ok (.sipush (-1001), 3) := by decide +kernel
theorem dL_of_56 : decode cL_of 56 = .ok (.ireturn, 1) := by decide +kernel
theorem dL_of_57 : decode cL_of 57 = .ok (.astore_n 3, 1) := by decide +kernel
theorem dL_of_58 : decode cL_of 58 = .ok (.sipush (-1002), 3) := by decide +kernel
theorem dL_of_61 : decode cL_of 61 = .ok (.ireturn, 1) := by decide +kernel
set_option maxRecDepth 20000 in
theorem ggL_mean_X7_meanTemperature : GoodIn wsL_mean wsX7_meanTemperature := goodIn_ca (goodIn_ca (goodIn_r _ [9, 10, 11, 12, 13, 14, 15, 16, 8, 17, 18, 19, 20, 21, 22, 23, 24, 25, 26, 27, 28, 29, 30, 31, 32, 33, 34, 35, 36, 37, 38, 39, 40, 41, 42, 43, 44, 45, 46, 47, 48, 49, 50, 51, 52, 53, 54, 55, 56, 57, 58, 59, 60, 61, 62, 63, 64, 65, 66, 67, 68, 69, 70, 71, 72] (by decide +kernel) (by decide +kernel)) (goodIn_sub (fun _ h => List.mem_cons_of_mem _ (List.mem_append_left _ (List.mem_append_right _ h))) (by decide +kernel))) (goodIn_sub (fun _ h => List.mem_cons_of_mem _ (List.mem_append_right _ h)) (by decide +kernel))
set_option maxRecDepth 20000 in
theorem gL_mean_X7_meanTemperature : GoodIn wsL_mean (wsV RL 61 RX7 yX7_meanTemperature wsX7_meanTemperature) := goodIn_app (goodIn_of _ (by decide +kernel)) ggL_mean_X7_meanTemperature
theorem dL_mean_0 : decode cL_mean 0 = .ok (.aload_n 0, 1) := by decide +kernel
theorem dL_mean_1 : decode cL_mean 1 = .ok (.iload_n 1, 1) := by decide +kernel
theorem dL_mean_2 : decode cL_mean 2 = .ok (.invokevirtual 61, 3) := by decide +kernel
theorem dL_mean_5 : decode cL_mean 5 = .ok (.dreturn, 1) := by decide +kernel
theorem dL_mean_6 : decode cL_mean 6 = .ok (.astore_n 2, 1) := by decide +kernel
theorem dL_mean_7 : decode cL_mean 7 = .ok (.ldc2_w 65, 3) := by decide +kernel
theorem dL_mean_10 : decode cL_mean 10 = .ok (.dreturn, 1) := by decide +kernel
theorem dL_mean_11 : decode cL_mean 11 = .ok (.astore_n 2, 1) := by decide +kernel
theorem dL_mean_12 : decode cL_mean 12 = .ok (.ldc2_w 69, 3) := by decide +kernel
theorem dL_mean_15 : decode cL_mean 15 = .ok (.dreturn, 1) := by decide +kernel
set_option maxRecDepth 20000 in
theorem ggL_kind_X7_addKind : GoodIn wsL_kind wsX7_addKind := goodIn_ca (goodIn_ca (goodIn_r _ [7, 8, 9, 10, 11, 12, 13, 14, 15, 6, 16, 17, 18, 19, 20, 21, 22, 23, 24, 25, 26, 27, 28, 29, 30, 31, 32, 33, 34, 35, 36, 37, 38, 39, 40, 41, 42, 43, 44, 45, 46, 47, 48, 49, 50, 51, 52, 53, 54, 55, 56, 57, 58, 59, 60, 61, 62, 63, 64, 65, 66, 67, 68, 69, 70, 71, 72, 73, 74, 75, 76, 77, 78, 79, 80, 81, 82, 83, 84, 85, 86, 87, 88, 89, 90, 91, 92, 93, 94, 95, 96, 97, 98, 99, 100, 101] (by decide +kernel) (by decide +kernel)) (goodIn_sub (fun _ h => List.mem_cons_of_mem _ (List.mem_append_left _ (List.mem_append_right _ h))) (by decide +kernel))) (goodIn_sub (fun _ h => List.mem_cons_of_mem _ (List.mem_append_right _ h)) (by decide +kernel))
set_option maxRecDepth 20000 in
theorem gL_kind_X7_addKind : GoodIn wsL_kind (wsV RL 71 RX7 yX7_addKind wsX7_addKind) := goodIn_app (goodIn_of _ (by decide +kernel)) ggL_kind_X7_addKind
theorem dL_kind_0 : decode cL_kind 0 = .ok (.aload_n 0, 1) := by decide +kernel
theorem dL_kind_1 : decode cL_kind 1 = .ok (.iload_n 1, 1) := by decide +kernel
theorem dL_kind_2 : decode cL_kind 2 = .ok (.iload_n 2, 1) := by decide +kernel
theorem dL_kind_3 : decode cL_kind 3 = .ok (.iload_n 3, 1) := by decide +kernel
theorem dL_kind_4 : decode cL_kind 4 = .ok (.invokevirtual 71, 3) := by decide +kernel
theorem dL_kind_7 : decode cL_kind 7 = .ok (.ireturn, 1) := by decide +kernel
theorem dL_kind_8 : decode cL_kind 8 = .ok (.astore 4, 2) := by decide +kernel
theorem dL_kind_10 : decode cL_kind 10 = .ok (.sipush (-1001), 3) := by decide +kernel
theorem dL_kind_13 : decode cL_kind 13 = .ok (.ireturn, 1) := by decide +kernel
theorem dL_kind_14 : decode cL_kind 14 = .ok (.astore 4, 2) := by decide +kernel
theorem dL_kind_16 : decode cL_kind 16 = .ok (.sipush (-1002), 3) := by decide +kernel
theorem dL_kind_19 : decode cL_kind 19 = .ok (.ireturn, 1) := by decide +kernel
set_option maxRecDepth 20000 in
theorem ggL_puts_X7_addPallet : GoodIn wsL_puts wsX7_addPallet := goodIn_ca (goodIn_ca (goodIn_r _ [8, 9, 10, 11, 12, 13, 14, 15, 16, 17, 18, 7, 19, 20, 21, 22, 23, 24, 25, 26, 27, 28, 29, 30, 31, 32, 33, 34, 35, 36, 37, 38, 39, 40, 41, 42, 43, 44, 45, 46, 47, 48, 49, 50, 51, 52, 53, 54, 55, 56, 57, 58, 59, 60, 61, 62, 63, 64, 65, 66, 67, 68, 69, 70, 71, 72, 73, 74, 75, 76, 77, 78, 79, 80, 81, 82, 83, 84, 85, 86, 87, 88, 89, 90, 91, 92, 93, 94, 95, 96, 97, 98, 99, 100, 101, 102, 103, 104, 105, 106, 107, 108, 109, 110, 111, 112, 113, 114, 115, 116, 117, 118, 119, 120, 121, 122, 123, 124, 125, 126, 127, 128, 129, 130, 131, 132, 133, 134, 135, 136, 137, 138, 139, 140, 141, 142, 143, 164, 165, 166, 167, 168, 169, 170, 171, 172, 173, 174, 175, 176, 177, 178, 179, 180, 181, 182, 183, 184, 185, 186] (by decide +kernel) (by decide +kernel)) (goodIn_sub (fun _ h => List.mem_cons_of_mem _ (List.mem_append_left _ (List.mem_append_left _ (List.mem_append_right _ h)))) (by decide +kernel))) (goodIn_sub (fun _ h => List.mem_cons_of_mem _ (List.mem_append_left _ (List.mem_append_right _ h))) (by decide +kernel))
set_option maxRecDepth 20000 in
theorem gL_puts_X7_addPallet : GoodIn wsL_puts (wsV RL 74 RX7 yX7_addPallet wsX7_addPallet) := goodIn_app (goodIn_of _ (by decide +kernel)) ggL_puts_X7_addPallet
set_option maxRecDepth 20000 in
theorem ggL_puts_X7_movePallet : GoodIn wsL_puts wsX7_movePallet := goodIn_ca (goodIn_ca (goodIn_ca (goodIn_r _ [147, 62, 63, 15, 148, 149, 150, 151, 7, 152, 20, 21, 11, 61, 24, 25, 26, 27, 28, 29, 30, 31, 32, 33, 34, 35, 36, 37, 38, 39, 40, 41, 42, 43, 44, 45, 46, 47, 48, 49, 50, 51, 52, 153, 154, 155, 156, 157, 64, 65, 66, 14, 67, 68, 53, 54, 55, 56, 9, 10, 57, 58, 59, 60, 158, 159, 160, 161, 81, 162, 163, 78, 79, 80, 84, 85, 86, 87, 73, 74, 88, 89, 90, 172, 173, 174, 175, 176, 177, 181, 182, 183, 164, 165, 166, 167, 168, 169, 170, 171, 187, 188, 189, 190, 191, 192, 193, 194, 195, 196, 197, 198, 199, 200, 201, 202, 203, 178, 179, 180] (by decide +kernel) (by decide +kernel)) (goodIn_sub (fun _ h => List.mem_cons_of_mem _ (List.mem_append_left _ (List.mem_append_right _ h))) (by decide +kernel))) (goodIn_sub (fun _ h => List.mem_cons_of_mem _ (List.mem_append_right _ h)) (by decide +kernel))) (goodIn_sub (fun _ h => List.mem_cons_of_mem _ (List.mem_append_left _ (List.mem_append_left _ (List.mem_append_right _ h)))) (by decide +kernel))
set_option maxRecDepth 20000 in
theorem gL_puts_X7_movePallet : GoodIn wsL_puts (wsV RL 78 RX7 yX7_movePallet wsX7_movePallet) := goodIn_app (goodIn_of _ (by decide +kernel)) ggL_puts_X7_movePallet
theorem dL_puts_0 : decode cL_puts 0 = .ok (.iload_n 1, 1) := by decide +kernel
theorem dL_puts_1 : decode cL_puts 1 = .ok (.bipush 112, 2) := by decide +kernel
theorem dL_puts_3 : decode cL_puts 3 = .ok (.if_icmp .ne 12, 3) := by decide +kernel
theorem dL_puts_6 : decode cL_puts 6 = .ok (.aload_n 0, 1) := by decide +kernel
theorem dL_puts_7 : decode cL_puts 7 = .ok (.iload_n 2, 1) := by decide +kernel
theorem dL_puts_8 : decode cL_puts 8 = .ok (.iload_n 3, 1) := by decide +kernel
theorem dL_puts_9 : decode cL_puts 9 = .ok (.invokevirtual 74, 3) := by decide +kernel
theorem dL_puts_12 : decode cL_puts 12 = .ok (.goto 9, 3) := by decide +kernel
theorem dL_puts_15 : decode cL_puts 15 = .ok (.aload_n 0, 1) := by decide +kernel
theorem dL_puts_16 : decode cL_puts 16 = .ok (.iload_n 2, 1) := by decide +kernel
theorem dL_puts_17 : decode cL_puts 17 = .ok (.iload_n 3, 1) := by decide +kernel
theorem dL_puts_18 : decode cL_puts 18 = .ok (.invokevirtual 78, 3) := by decide +kernel
theorem dL_puts_21 : decode cL_puts 21 = .ok (.ireturn, 1) := by decide +kernel
theorem dL_puts_22 : decode cL_puts 22 = .ok (.astore 4, 2) := by decide +kernel
theorem dL_puts_24 : decode cL_puts 24 = .ok (.sipush (-1001), 3) := by decide +kernel
theorem dL_puts_27 : decode cL_puts 27 = .ok (.ireturn, 1) := by decide +kernel
theorem dL_puts_28 : decode cL_puts 28 = .ok (.astore 4, 2) := by decide +kernel
theorem dL_puts_30 : decode cL_puts 30 = .ok (.sipush (-1002), 3) := by decide +kernel
theorem dL_puts_33 : decode cL_puts 33 = .ok (.ireturn, 1) := by decide +kernel
theorem dL_puts_34 : decode cL_puts 34 = .ok (.astore 4, 2) := by decide +kernel
theorem dL_puts_36 : decode cL_puts 36 = .ok (.sipush (-1003), 3) := by decide +kernel
theorem dL_puts_39 : decode cL_puts 39 = .ok (.ireturn, 1) := by decide +kernel
set_option maxRecDepth 20000 in
theorem ggL_pallet_X7_life : GoodIn wsL_pallet wsX7_life := goodIn_ca (goodIn_r _ [7, 8, 9, 10, 11, 6, 12, 13, 14, 15, 16, 17, 18, 19, 20, 21, 22, 23, 24, 25, 26, 27, 28, 29, 30, 31, 32, 33, 34, 35, 36, 37, 38, 39, 106, 107, 108, 109, 110, 111, 112, 113, 114, 115, 116, 117, 118, 119, 120, 121, 122] (by decide +kernel) (by decide +kernel)) (goodIn_sub (fun _ h => List.mem_cons_of_mem _ (List.mem_append_left _ (List.mem_append_left _ (List.mem_append_right _ h)))) (by decide +kernel))
set_option maxRecDepth 20000 in
theorem gL_pallet_X7_life : GoodIn wsL_pallet (wsV RL 81 RX7 yX7_life wsX7_life) := goodIn_app (goodIn_of _ (by decide +kernel)) ggL_pallet_X7_life
set_option maxRecDepth 20000 in
theorem ggL_pallet_X7_lifeByRecords : GoodIn wsL_pallet wsX7_lifeByRecords := goodIn_ca (goodIn_ca (goodIn_r _ [43, 44, 9, 10, 11, 6, 12, 13, 14, 15, 16, 17, 18, 19, 20, 21, 22, 23, 24, 25, 26, 27, 28, 29, 30, 31, 32, 33, 34, 35, 36, 37, 38, 39, 45, 46, 47, 48, 49, 50, 51, 52, 53, 54, 55, 56, 57, 58, 59, 60, 61, 62, 63, 64, 65, 66, 67, 68, 69, 70, 71, 72, 73, 74, 75, 76, 77, 78, 79, 112, 113, 114, 115, 116, 117, 118, 119, 120, 121, 122, 106, 107, 108, 109, 110, 111, 123, 124, 125, 126, 127, 128, 129, 130, 131, 132, 133, 134, 135, 136, 137, 138, 139, 140, 141, 142, 143, 144, 145] (by decide +kernel) (by decide +kernel)) (goodIn_sub (fun _ h => List.mem_cons_of_mem _ (List.mem_append_left _ (List.mem_append_left _ (List.mem_append_right _ h)))) (by decide +kernel))) (goodIn_sub (fun _ h => List.mem_cons_of_mem _ (List.mem_append_left _ (List.mem_append_right _ h))) (by decide +kernel))
set_option maxRecDepth 20000 in
theorem gL_pallet_X7_lifeByRecords : GoodIn wsL_pallet (wsV RL 84 RX7 yX7_lifeByRecords wsX7_lifeByRecords) := goodIn_app (goodIn_of _ (by decide +kernel)) ggL_pallet_X7_lifeByRecords
set_option maxRecDepth 20000 in
theorem ggL_pallet_X7_state : GoodIn wsL_pallet wsX7_state := goodIn_ca (goodIn_r _ [83, 84, 9, 10, 11, 6, 12, 13, 14, 15, 16, 17, 18, 19, 20, 21, 22, 23, 24, 25, 26, 27, 28, 29, 30, 31, 32, 33, 34, 35, 36, 37, 38, 39, 106, 107, 108, 109, 110, 111, 112, 113, 114, 115, 116, 117, 118, 119, 120, 121, 122] (by decide +kernel) (by decide +kernel)) (goodIn_sub (fun _ h => List.mem_cons_of_mem _ (List.mem_append_left _ (List.mem_append_left _ (List.mem_append_right _ h)))) (by decide +kernel))
set_option maxRecDepth 20000 in
theorem gL_pallet_X7_state : GoodIn wsL_pallet (wsV RL 87 RX7 yX7_state wsX7_state) := goodIn_app (goodIn_of _ (by decide +kernel)) ggL_pallet_X7_state
set_option maxRecDepth 20000 in
theorem ggL_pallet_X7_roomOf : GoodIn wsL_pallet wsX7_roomOf := goodIn_ca (goodIn_ca (goodIn_r _ [88, 89, 90, 91, 9, 10, 11, 6, 12, 13, 14, 15, 16, 17, 18, 19, 20, 21, 22, 23, 24, 25, 26, 27, 28, 29, 30, 31, 32, 33, 34, 35, 36, 37, 38, 39, 92, 93, 94, 95, 96, 97, 62, 63, 48, 64, 65, 106, 107, 108, 109, 110, 111, 123, 124, 125, 129, 130, 131, 132, 133, 134, 135, 136, 137, 138, 139, 140, 141, 142, 143, 144, 145, 112, 113, 114, 115, 116, 117, 118, 119, 120, 121, 122] (by decide +kernel) (by decide +kernel)) (goodIn_sub (fun _ h => List.mem_cons_of_mem _ (List.mem_append_left _ (List.mem_append_left _ (List.mem_append_right _ h)))) (by decide +kernel))) (goodIn_sub (fun _ h => List.mem_cons_of_mem _ (List.mem_append_right _ h)) (by decide +kernel))
set_option maxRecDepth 20000 in
theorem gL_pallet_X7_roomOf : GoodIn wsL_pallet (wsV RL 91 RX7 yX7_roomOf wsX7_roomOf) := goodIn_app (goodIn_of _ (by decide +kernel)) ggL_pallet_X7_roomOf
set_option maxRecDepth 20000 in
theorem ggL_pallet_X7_scrap : GoodIn wsL_pallet wsX7_scrap := goodIn_ca (goodIn_ca (goodIn_r _ [101, 44, 8, 9, 10, 11, 6, 12, 13, 14, 15, 16, 17, 18, 19, 20, 21, 22, 23, 24, 25, 26, 27, 28, 29, 30, 31, 32, 33, 34, 35, 36, 37, 38, 39, 92, 93, 94, 95, 96, 97, 62, 63, 48, 64, 65, 102, 103, 104, 105, 50, 112, 113, 114, 115, 116, 117, 118, 119, 106, 107, 108, 109, 110, 111, 120, 121, 122] (by decide +kernel) (by decide +kernel)) (goodIn_sub (fun _ h => List.mem_cons_of_mem _ (List.mem_append_left _ (List.mem_append_left _ (List.mem_append_right _ h)))) (by decide +kernel))) (goodIn_sub (fun _ h => List.mem_cons_of_mem _ (List.mem_append_right _ h)) (by decide +kernel))
set_option maxRecDepth 20000 in
theorem gL_pallet_X7_scrap : GoodIn wsL_pallet (wsV RL 94 RX7 yX7_scrap wsX7_scrap) := goodIn_app (goodIn_of _ (by decide +kernel)) ggL_pallet_X7_scrap
theorem dL_pallet_0 : decode cL_pallet 0 = .ok (.iload_n 2, 1) := by decide +kernel
theorem dL_pallet_1 : decode cL_pallet 1 = .ok (.ifCond .ne 11, 3) := by decide +kernel
theorem dL_pallet_4 : decode cL_pallet 4 = .ok (.aload_n 0, 1) := by decide +kernel
theorem dL_pallet_5 : decode cL_pallet 5 = .ok (.iload_n 1, 1) := by decide +kernel
theorem dL_pallet_6 : decode cL_pallet 6 = .ok (.invokevirtual 81, 3) := by decide +kernel
theorem dL_pallet_9 : decode cL_pallet 9 = .ok (.goto 47, 3) := by decide +kernel
theorem dL_pallet_12 : decode cL_pallet 12 = .ok (.iload_n 2, 1) := by decide +kernel
theorem dL_pallet_13 : decode cL_pallet 13 = .ok (.iconst 1, 1) := by decide +kernel
theorem dL_pallet_14 : decode cL_pallet 14 = .ok (.if_icmp .ne 11, 3) := by decide +kernel
theorem dL_pallet_17 : decode cL_pallet 17 = .ok (.aload_n 0, 1) := by decide +kernel
theorem dL_pallet_18 : decode cL_pallet 18 = .ok (.iload_n 1, 1) := by decide +kernel
theorem dL_pallet_19 : decode cL_pallet 19 = .ok (.invokevirtual 84, 3) := by decide +kernel
theorem dL_pallet_22 : decode cL_pallet 22 = .ok (.goto 34, 3) := by decide +kernel
theorem dL_pallet_25 : decode cL_pallet 25 = .ok (.iload_n 2, 1) := by decide +kernel
theorem dL_pallet_26 : decode cL_pallet 26 = .ok (.iconst 2, 1) := by decide +kernel
theorem dL_pallet_27 : decode cL_pallet 27 = .ok (.if_icmp .ne 11, 3) := by decide +kernel
theorem dL_pallet_30 : decode cL_pallet 30 = .ok (.aload_n 0, 1) := by decide +kernel
theorem dL_pallet_31 : decode cL_pallet 31 = .ok (.iload_n 1, 1) := by decide +kernel
theorem dL_pallet_32 : decode cL_pallet 32 = .ok (.invokevirtual 87, 3) := by decide +kernel
theorem dL_pallet_35 : decode cL_pallet 35 = .ok (.goto 21, 3) := by decide +kernel
theorem dL_pallet_38 : decode cL_pallet 38 = .ok (.iload_n 2, 1) := by decide +kernel
theorem dL_pallet_39 : decode cL_pallet 39 = .ok (.iconst 3, 1) := by decide +kernel
theorem dL_pallet_40 : decode cL_pallet 40 = .ok (.if_icmp .ne 11, 3) := by decide +kernel
theorem dL_pallet_43 : decode cL_pallet 43 = .ok (.aload_n 0, 1) := by decide +kernel
theorem dL_pallet_44 : decode cL_pallet 44 = .ok (.iload_n 1, 1) := by decide +kernel
theorem dL_pallet_45 : decode cL_pallet 45 = .ok (.invokevirtual 91, 3) := by decide +kernel
theorem dL_pallet_48 : decode cL_pallet 48 = .ok (.goto 8, 3) := by decide +kernel
theorem dL_pallet_51 : decode cL_pallet 51 = .ok (.aload_n 0, 1) := by decide +kernel
theorem dL_pallet_52 : decode cL_pallet 52 = .ok (.iload_n 1, 1) := by decide +kernel
theorem dL_pallet_53 : decode cL_pallet 53 = .ok (.invokevirtual 94, 3) := by decide +kernel
theorem dL_pallet_56 : decode cL_pallet 56 = .ok (.ireturn, 1) := by decide +kernel
theorem dL_pallet_57 : decode cL_pallet 57 = .ok (.astore_n 3, 1) := by decide +kernel
theorem dL_pallet_58 : decode cL_pallet 58 = .ok (.sipush (-1001), 3) := by decide +kernel
theorem dL_pallet_61 : decode cL_pallet 61 = .ok (.ireturn, 1) := by decide +kernel
theorem dL_pallet_62 : decode cL_pallet 62 = .ok (.astore_n 3, 1) := by decide +kernel
theorem dL_pallet_63 : decode cL_pallet 63 = .ok (.sipush (-1002), 3) := by decide +kernel
theorem dL_pallet_66 : decode cL_pallet 66 = .ok (.ireturn, 1) := by decide +kernel
set_option maxRecDepth 20000 in
theorem ggL_forecast_X7_forecast : GoodIn wsL_forecast wsX7_forecast := goodIn_ca (goodIn_ca (goodIn_ca (goodIn_r _ [8, 9, 10, 11, 12, 13, 14, 15, 16, 17, 18, 19, 20, 7, 21, 22, 23, 24, 25, 26, 27, 28, 29, 30, 31, 32, 33, 34, 35, 36, 37, 38, 39, 40, 41, 42, 43, 44, 45, 46, 47, 48, 49, 50, 51, 52, 53, 54, 55, 56, 57, 58, 59, 60, 61, 62, 63, 64, 65, 66, 67, 68, 69, 70, 71, 72, 73, 74, 75, 76, 77, 78, 79, 80, 81, 82, 83, 84, 85, 86, 87, 88, 89, 90, 91, 92, 93, 94, 95, 96, 97, 98, 99, 100, 101, 102, 103, 104, 105, 106, 107, 108, 109, 110, 111] (by decide +kernel) (by decide +kernel)) (goodIn_sub (fun _ h => List.mem_cons_of_mem _ (List.mem_append_left _ (List.mem_append_left _ (List.mem_append_right _ h)))) (by decide +kernel))) (goodIn_sub (fun _ h => List.mem_cons_of_mem _ (List.mem_append_left _ (List.mem_append_right _ h))) (by decide +kernel))) (goodIn_sub (fun _ h => List.mem_cons_of_mem _ (List.mem_append_right _ h)) (by decide +kernel))
set_option maxRecDepth 20000 in
theorem gL_forecast_X7_forecast : GoodIn wsL_forecast (wsV RL 97 RX7 yX7_forecast wsX7_forecast) := goodIn_app (goodIn_of _ (by decide +kernel)) ggL_forecast_X7_forecast
theorem dL_forecast_0 : decode cL_forecast 0 = .ok (.aload_n 0, 1) := by decide +kernel
theorem dL_forecast_1 : decode cL_forecast 1 = .ok (.iload_n 1, 1) := by decide +kernel
theorem dL_forecast_2 : decode cL_forecast 2 = .ok (.iload_n 2, 1) := by decide +kernel
theorem dL_forecast_3 : decode cL_forecast 3 = .ok (.invokevirtual 97, 3) := by decide +kernel
theorem dL_forecast_6 : decode cL_forecast 6 = .ok (.ireturn, 1) := by decide +kernel
theorem dL_forecast_7 : decode cL_forecast 7 = .ok (.astore_n 3, 1) := by decide +kernel
theorem dL_forecast_8 : decode cL_forecast 8 = .ok (.sipush (-1001), 3) := by decide +kernel
theorem dL_forecast_11 : decode cL_forecast 11 = .ok (.ireturn, 1) := by decide +kernel
theorem dL_forecast_12 : decode cL_forecast 12 = .ok (.astore_n 3, 1) := by decide +kernel
theorem dL_forecast_13 : decode cL_forecast 13 = .ok (.sipush (-1002), 3) := by decide +kernel
theorem dL_forecast_16 : decode cL_forecast 16 = .ok (.ireturn, 1) := by decide +kernel
theorem dL_forecast_17 : decode cL_forecast 17 = .ok (.astore_n 3, 1) := by decide +kernel
theorem dL_forecast_18 : decode cL_forecast 18 = .ok (.sipush (-1003), 3) := by decide +kernel
theorem dL_forecast_21 : decode cL_forecast 21 = .ok (.ireturn, 1) := by decide +kernel
set_option maxRecDepth 20000 in
theorem ggL_soonest_X7_soonest : GoodIn wsL_soonest wsX7_soonest := goodIn_ca (goodIn_r _ [6, 7, 8, 9, 10, 11, 12, 13, 14, 15, 16, 17, 18, 19, 20, 21, 22, 23, 24, 25, 26, 27, 28, 29, 30, 31, 32, 33, 34, 35, 36, 37, 38, 39, 40, 41, 42, 43, 44, 45, 46, 47, 48, 49, 50, 51, 52, 53, 54, 55, 56, 57, 58, 59, 60, 61, 62, 63] (by decide +kernel) (by decide +kernel)) (goodIn_sub (fun _ h => List.mem_cons_of_mem _ (List.mem_append_right _ h)) (by decide +kernel))
set_option maxRecDepth 20000 in
theorem gL_soonest_X7_soonest : GoodIn wsL_soonest (wsV RL 100 RX7 yX7_soonest wsX7_soonest) := goodIn_app (goodIn_of _ (by decide +kernel)) ggL_soonest_X7_soonest
theorem dL_soonest_0 : decode cL_soonest 0 = .ok (.aload_n 0, 1) := by decide +kernel
theorem dL_soonest_1 : decode cL_soonest 1 = .ok (.invokevirtual 100, 3) := by decide +kernel
theorem dL_soonest_4 : decode cL_soonest 4 = .ok (.ireturn, 1) := by decide +kernel
theorem dL_soonest_5 : decode cL_soonest 5 = .ok (.astore_n 1, 1) := by decide +kernel
theorem dL_soonest_6 : decode cL_soonest 6 = .ok (.sipush (-1001), 3) := by decide +kernel
theorem dL_soonest_9 : decode cL_soonest 9 = .ok (.ireturn, 1) := by decide +kernel
set_option maxRecDepth 20000 in
theorem ggL_lost_X7_lostShare : GoodIn wsL_lost wsX7_lostShare := goodIn_ca (goodIn_r _ [7, 8, 9, 10, 11, 12, 13, 14, 15, 16, 17, 18, 19, 20, 21, 22, 23, 24, 25, 26, 27, 28, 29, 30, 31, 32, 33, 34, 35, 36, 37, 38, 39, 40, 41, 42, 43, 44, 45, 46, 47, 48, 49, 50, 51, 52, 53, 54, 55, 56, 57] (by decide +kernel) (by decide +kernel)) (goodIn_sub (fun _ h => List.mem_cons_of_mem _ (List.mem_append_right _ h)) (by decide +kernel))
set_option maxRecDepth 20000 in
theorem gL_lost_X7_lostShare : GoodIn wsL_lost (wsV RL 104 RX7 yX7_lostShare wsX7_lostShare) := goodIn_app (goodIn_of _ (by decide +kernel)) ggL_lost_X7_lostShare
theorem dL_lost_0 : decode cL_lost 0 = .ok (.aload_n 0, 1) := by decide +kernel
theorem dL_lost_1 : decode cL_lost 1 = .ok (.invokevirtual 104, 3) := by decide +kernel
theorem dL_lost_4 : decode cL_lost 4 = .ok (.freturn, 1) := by decide +kernel
theorem dL_lost_5 : decode cL_lost 5 = .ok (.astore_n 1, 1) := by decide +kernel
theorem dL_lost_6 : decode cL_lost 6 = .ok (.ldc 108, 2) := by decide +kernel
theorem dL_lost_8 : decode cL_lost 8 = .ok (.freturn, 1) := by decide +kernel
set_option maxRecDepth 20000 in
theorem ggL_order_X7_order : GoodIn wsL_order wsX7_order := goodIn_ca (goodIn_ca (goodIn_ca (goodIn_r _ [8, 9, 10, 11, 12, 13, 14, 15, 16, 17, 18, 7, 19, 20, 21, 22, 23, 24, 25, 26, 27, 28, 29, 30, 31, 32, 33, 34, 35, 36, 37, 38, 39, 40, 41, 42, 43, 44, 45, 46, 47, 48, 49, 50, 51, 52, 53, 54, 55, 56, 57, 58, 59, 60, 61, 62, 63, 64, 65, 66, 67, 68, 69, 70, 71, 72, 73, 74, 75, 76, 77, 78, 79, 80, 81, 82, 83, 84, 85, 86, 87, 88, 89, 90, 91, 92, 93, 94, 95, 96, 97, 98, 99, 100, 101, 102, 103, 104, 105, 106, 107, 108, 109, 110, 111, 112, 113, 114, 115, 116, 117, 118, 119, 120, 121, 122, 123, 124, 125, 126, 127, 128, 129, 130, 131, 132, 133] (by decide +kernel) (by decide +kernel)) (goodIn_sub (fun _ h => List.mem_cons_of_mem _ (List.mem_append_left _ (List.mem_append_left _ (List.mem_append_right _ h)))) (by decide +kernel))) (goodIn_sub (fun _ h => List.mem_cons_of_mem _ (List.mem_append_left _ (List.mem_append_right _ h))) (by decide +kernel))) (goodIn_sub (fun _ h => List.mem_cons_of_mem _ (List.mem_append_right _ h)) (by decide +kernel))
set_option maxRecDepth 20000 in
theorem gL_order_X7_order : GoodIn wsL_order (wsV RL 109 RX7 yX7_order wsX7_order) := goodIn_app (goodIn_of _ (by decide +kernel)) ggL_order_X7_order
theorem dL_order_0 : decode cL_order 0 = .ok (.aload_n 0, 1) := by decide +kernel
theorem dL_order_1 : decode cL_order 1 = .ok (.iload_n 1, 1) := by decide +kernel
theorem dL_order_2 : decode cL_order 2 = .ok (.iload_n 2, 1) := by decide +kernel
theorem dL_order_3 : decode cL_order 3 = .ok (.iload_n 3, 1) := by decide +kernel
theorem dL_order_4 : decode cL_order 4 = .ok (.iload 4, 2) := by decide +kernel
theorem dL_order_6 : decode cL_order 6 = .ok (.invokevirtual 109, 3) := by decide +kernel
theorem dL_order_9 : decode cL_order 9 = .ok (.ireturn, 1) := by decide +kernel
theorem dL_order_10 : decode cL_order 10 = .ok (.astore 5, 2) := by decide +kernel
theorem dL_order_12 : decode cL_order 12 = .ok (.sipush (-1001), 3) := by decide +kernel
theorem dL_order_15 : decode cL_order 15 = .ok (.ireturn, 1) := by decide +kernel
theorem dL_order_16 : decode cL_order 16 = .ok (.astore 5, 2) := by decide +kernel
theorem dL_order_18 : decode cL_order 18 = .ok (.sipush (-1002), 3) := by decide +kernel
theorem dL_order_21 : decode cL_order 21 = .ok (.ireturn, 1) := by decide +kernel
theorem dL_order_22 : decode cL_order 22 = .ok (.astore 5, 2) := by decide +kernel
theorem dL_order_24 : decode cL_order 24 = .ok (.sipush (-1003), 3) := by decide +kernel
theorem dL_order_27 : decode cL_order 27 = .ok (.ireturn, 1) := by decide +kernel
set_option maxRecDepth 20000 in
theorem ggL_orders_X7_cancel : GoodIn wsL_orders wsX7_cancel := goodIn_ca (goodIn_ca (goodIn_r _ [9, 10, 11, 12, 13, 8, 14, 15, 16, 17, 18, 19, 20, 21, 22, 23, 24, 25, 26, 27, 28, 29, 30, 31, 32, 33, 34, 35, 36, 37, 38, 39, 40, 41, 42, 43, 44, 45, 46, 47, 48, 49, 50, 128, 129, 130, 131, 132, 133, 134, 135, 136, 137, 138, 139, 140, 141, 142, 143, 144] (by decide +kernel) (by decide +kernel)) (goodIn_sub (fun _ h => List.mem_cons_of_mem _ (List.mem_append_left _ (List.mem_append_left _ (List.mem_append_left _ (List.mem_append_right _ h))))) (by decide +kernel))) (goodIn_sub (fun _ h => List.mem_cons_of_mem _ (List.mem_append_left _ (List.mem_append_left _ (List.mem_append_right _ h)))) (by decide +kernel))
set_option maxRecDepth 20000 in
theorem gL_orders_X7_cancel : GoodIn wsL_orders (wsV RL 112 RX7 yX7_cancel wsX7_cancel) := goodIn_app (goodIn_of _ (by decide +kernel)) ggL_orders_X7_cancel
set_option maxRecDepth 20000 in
theorem ggL_orders_X7_ship : GoodIn wsL_orders wsX7_ship := goodIn_ca (goodIn_ca (goodIn_ca (goodIn_r _ [54, 55, 56, 11, 12, 13, 8, 14, 15, 16, 17, 18, 19, 20, 21, 22, 23, 24, 25, 26, 27, 28, 29, 30, 31, 32, 33, 34, 35, 36, 37, 38, 39, 40, 41, 42, 43, 44, 45, 46, 10, 57, 58, 59, 60, 61, 62, 63, 64, 65, 66, 67, 68, 69, 70, 71, 72, 73, 74, 75, 76, 77, 78, 79, 80, 81, 82, 83, 84, 85, 86, 87, 88, 89, 90, 91, 92, 93, 94, 95, 96, 97, 98, 99, 100, 101, 102, 103, 104, 134, 135, 136, 137, 138, 139, 140, 141, 142, 143, 144, 128, 129, 130, 131, 132, 133, 145, 146, 147, 148, 149, 150] (by decide +kernel) (by decide +kernel)) (goodIn_sub (fun _ h => List.mem_cons_of_mem _ (List.mem_append_left _ (List.mem_append_right _ h))) (by decide +kernel))) (goodIn_sub (fun _ h => List.mem_cons_of_mem _ (List.mem_append_left _ (List.mem_append_left _ (List.mem_append_left _ (List.mem_append_right _ h))))) (by decide +kernel))) (goodIn_sub (fun _ h => List.mem_cons_of_mem _ (List.mem_append_left _ (List.mem_append_left _ (List.mem_append_right _ h)))) (by decide +kernel))
set_option maxRecDepth 20000 in
theorem gL_orders_X7_ship : GoodIn wsL_orders (wsV RL 115 RX7 yX7_ship wsX7_ship) := goodIn_app (goodIn_of _ (by decide +kernel)) ggL_orders_X7_ship
set_option maxRecDepth 20000 in
theorem ggL_orders_X7_candidates : GoodIn wsL_orders wsX7_candidates := goodIn_ca (goodIn_r _ [108, 11, 12, 13, 8, 14, 15, 16, 17, 18, 19, 20, 21, 22, 23, 24, 25, 26, 27, 28, 29, 30, 31, 32, 33, 34, 35, 36, 37, 38, 39, 40, 41, 62, 63, 64, 65, 66, 67, 68, 69, 70, 71, 72, 73, 74, 75, 76, 77, 78, 79, 80, 81, 82, 134, 135, 136, 137, 138, 139, 140, 141, 142, 143, 144, 145, 146, 147, 148, 149, 150, 128, 129, 130, 131, 132, 133] (by decide +kernel) (by decide +kernel)) (goodIn_sub (fun _ h => List.mem_cons_of_mem _ (List.mem_append_left _ (List.mem_append_left _ (List.mem_append_left _ (List.mem_append_right _ h))))) (by decide +kernel))
set_option maxRecDepth 20000 in
theorem gL_orders_X7_candidates : GoodIn wsL_orders (wsV RL 118 RX7 yX7_candidates wsX7_candidates) := goodIn_app (goodIn_of _ (by decide +kernel)) ggL_orders_X7_candidates
set_option maxRecDepth 20000 in
theorem ggL_orders_X7_orderState : GoodIn wsL_orders wsX7_orderState := goodIn_ca (goodIn_r _ [112, 10, 11, 12, 13, 8, 14, 15, 16, 17, 18, 19, 20, 21, 22, 23, 24, 25, 26, 27, 28, 29, 30, 31, 32, 33, 34, 35, 36, 37, 38, 39, 40, 41, 128, 129, 130, 131, 132, 133, 134, 135, 136, 137, 138, 139, 140, 141, 142, 143, 144] (by decide +kernel) (by decide +kernel)) (goodIn_sub (fun _ h => List.mem_cons_of_mem _ (List.mem_append_left _ (List.mem_append_left _ (List.mem_append_left _ (List.mem_append_right _ h))))) (by decide +kernel))
set_option maxRecDepth 20000 in
theorem gL_orders_X7_orderState : GoodIn wsL_orders (wsV RL 121 RX7 yX7_orderState wsX7_orderState) := goodIn_app (goodIn_of _ (by decide +kernel)) ggL_orders_X7_orderState
set_option maxRecDepth 20000 in
theorem ggL_orders_X7_leastShipped : GoodIn wsL_orders wsX7_leastShipped := goodIn_ca (goodIn_ca (goodIn_r _ [116, 117, 118, 10, 88, 11, 12, 13, 8, 14, 15, 16, 17, 18, 19, 20, 21, 22, 23, 24, 25, 26, 27, 28, 29, 30, 31, 32, 33, 34, 35, 36, 37, 38, 39, 40, 41, 128, 129, 130, 131, 132, 133, 134, 135, 136, 137, 138, 139, 140, 141, 142, 143, 144] (by decide +kernel) (by decide +kernel)) (goodIn_sub (fun _ h => List.mem_cons_of_mem _ (List.mem_append_right _ h)) (by decide +kernel))) (goodIn_sub (fun _ h => List.mem_cons_of_mem _ (List.mem_append_left _ (List.mem_append_left _ (List.mem_append_left _ (List.mem_append_right _ h))))) (by decide +kernel))
set_option maxRecDepth 20000 in
theorem gL_orders_X7_leastShipped : GoodIn wsL_orders (wsV RL 124 RX7 yX7_leastShipped wsX7_leastShipped) := goodIn_app (goodIn_of _ (by decide +kernel)) ggL_orders_X7_leastShipped
set_option maxRecDepth 20000 in
theorem ggL_orders_X7_candidateAt : GoodIn wsL_orders wsX7_candidateAt := goodIn_ca (goodIn_ca (goodIn_r _ [122, 117, 118, 123, 11, 12, 13, 8, 14, 15, 16, 17, 18, 19, 20, 21, 22, 23, 24, 25, 26, 27, 28, 29, 30, 31, 32, 33, 34, 35, 36, 37, 38, 39, 40, 41, 62, 63, 64, 65, 66, 67, 68, 69, 70, 71, 72, 73, 74, 75, 76, 77, 78, 79, 80, 81, 82, 124, 125, 126, 127, 90, 91, 92, 93, 94, 95, 96, 97, 98, 99, 145, 146, 147, 148, 149, 150, 134, 135, 136, 137, 138, 139, 140, 141, 142, 143, 144, 128, 129, 130, 131, 132, 133] (by decide +kernel) (by decide +kernel)) (goodIn_sub (fun _ h => List.mem_cons_of_mem _ (List.mem_append_right _ h)) (by decide +kernel))) (goodIn_sub (fun _ h => List.mem_cons_of_mem _ (List.mem_append_left _ (List.mem_append_left _ (List.mem_append_left _ (List.mem_append_right _ h))))) (by decide +kernel))
set_option maxRecDepth 20000 in
theorem gL_orders_X7_candidateAt : GoodIn wsL_orders (wsV RL 127 RX7 yX7_candidateAt wsX7_candidateAt) := goodIn_app (goodIn_of _ (by decide +kernel)) ggL_orders_X7_candidateAt
theorem dL_orders_0 : decode cL_orders 0 = .ok (.iload_n 2, 1) := by decide +kernel
theorem dL_orders_1 : decode cL_orders 1 = .ok (.ifCond .ne 11, 3) := by decide +kernel
theorem dL_orders_4 : decode cL_orders 4 = .ok (.aload_n 0, 1) := by decide +kernel
theorem dL_orders_5 : decode cL_orders 5 = .ok (.iload_n 1, 1) := by decide +kernel
theorem dL_orders_6 : decode cL_orders 6 = .ok (.invokevirtual 112, 3) := by decide +kernel
theorem dL_orders_9 : decode cL_orders 9 = .ok (.goto 64, 3) := by decide +kernel
theorem dL_orders_12 : decode cL_orders 12 = .ok (.iload_n 2, 1) := by decide +kernel
theorem dL_orders_13 : decode cL_orders 13 = .ok (.iconst 1, 1) := by decide +kernel
theorem dL_orders_14 : decode cL_orders 14 = .ok (.if_icmp .ne 11, 3) := by decide +kernel
theorem dL_orders_17 : decode cL_orders 17 = .ok (.aload_n 0, 1) := by decide +kernel
theorem dL_orders_18 : decode cL_orders 18 = .ok (.iload_n 1, 1) := by decide +kernel
theorem dL_orders_19 : decode cL_orders 19 = .ok (.invokevirtual 115, 3) := by decide +kernel
theorem dL_orders_22 : decode cL_orders 22 = .ok (.goto 51, 3) := by decide +kernel
theorem dL_orders_25 : decode cL_orders 25 = .ok (.iload_n 2, 1) := by decide +kernel
theorem dL_orders_26 : decode cL_orders 26 = .ok (.iconst 2, 1) := by decide +kernel
theorem dL_orders_27 : decode cL_orders 27 = .ok (.if_icmp .ne 11, 3) := by decide +kernel
theorem dL_orders_30 : decode cL_orders 30 = .ok (.aload_n 0, 1) := by decide +kernel
theorem dL_orders_31 : decode cL_orders 31 = .ok (.iload_n 1, 1) := by decide +kernel
theorem dL_orders_32 : decode cL_orders 32 = .ok (.invokevirtual 118, 3) := by decide +kernel
theorem dL_orders_35 : decode cL_orders 35 = .ok (.goto 38, 3) := by decide +kernel
theorem dL_orders_38 : decode cL_orders 38 = .ok (.iload_n 2, 1) := by decide +kernel
theorem dL_orders_39 : decode cL_orders 39 = .ok (.iconst 3, 1) := by decide +kernel
theorem dL_orders_40 : decode cL_orders 40 = .ok (.if_icmp .ne 11, 3) := by decide +kernel
theorem dL_orders_43 : decode cL_orders 43 = .ok (.aload_n 0, 1) := by decide +kernel
theorem dL_orders_44 : decode cL_orders 44 = .ok (.iload_n 1, 1) := by decide +kernel
theorem dL_orders_45 : decode cL_orders 45 = .ok (.invokevirtual 121, 3) := by decide +kernel
theorem dL_orders_48 : decode cL_orders 48 = .ok (.goto 25, 3) := by decide +kernel
theorem dL_orders_51 : decode cL_orders 51 = .ok (.iload_n 2, 1) := by decide +kernel
theorem dL_orders_52 : decode cL_orders 52 = .ok (.iconst 4, 1) := by decide +kernel
theorem dL_orders_53 : decode cL_orders 53 = .ok (.if_icmp .ne 11, 3) := by decide +kernel
theorem dL_orders_56 : decode cL_orders 56 = .ok (.aload_n 0, 1) := by decide +kernel
theorem dL_orders_57 : decode cL_orders 57 = .ok (.iload_n 1, 1) := by decide +kernel
theorem dL_orders_58 : decode cL_orders 58 = .ok (.invokevirtual 124, 3) := by decide +kernel
theorem dL_orders_61 : decode cL_orders 61 = .ok (.goto 12, 3) := by decide +kernel
theorem dL_orders_64 : decode cL_orders 64 = .ok (.aload_n 0, 1) := by decide +kernel
theorem dL_orders_65 : decode cL_orders 65 = .ok (.iload_n 1, 1) := by decide +kernel
theorem dL_orders_66 : decode cL_orders 66 = .ok (.iload_n 2, 1) := by decide +kernel
theorem dL_orders_67 : decode cL_orders 67 = .ok (.bipush 10, 2) := by decide +kernel
theorem dL_orders_69 : decode cL_orders 69 = .ok (.isub, 1) := by decide +kernel
theorem dL_orders_70 : decode cL_orders 70 = .ok (.invokevirtual 127, 3) := by decide +kernel
theorem dL_orders_73 : decode cL_orders 73 = .ok (.ireturn, 1) := by decide +kernel
theorem dL_orders_74 : decode cL_orders 74 = .ok (.astore_n 3, 1) := by decide +kernel
theorem dL_orders_75 : decode cL_orders 75 = .ok (.sipush (-1001), 3) := by decide +kernel
theorem dL_orders_78 : decode cL_orders 78 = .ok (.ireturn, 1) := by decide +kernel
theorem dL_orders_79 : decode cL_orders 79 = .ok (.astore_n 3, 1) := by decide +kernel
theorem dL_orders_80 : decode cL_orders 80 = .ok (.sipush (-1002), 3) := by decide +kernel
theorem dL_orders_83 : decode cL_orders 83 = .ok (.ireturn, 1) := by decide +kernel
theorem dL_orders_84 : decode cL_orders 84 = .ok (.astore_n 3, 1) := by decide +kernel
theorem dL_orders_85 : decode cL_orders 85 = .ok (.sipush (-1002), 3) := by decide +kernel
theorem dL_orders_88 : decode cL_orders 88 = .ok (.ireturn, 1) := by decide +kernel
theorem dL_orders_89 : decode cL_orders 89 = .ok (.astore_n 3, 1) := by decide +kernel
theorem dL_orders_90 : decode cL_orders 90 = .ok (.sipush (-1003), 3) := by decide +kernel
theorem dL_orders_93 : decode cL_orders 93 = .ok (.ireturn, 1) := by decide +kernel
set_option maxRecDepth 20000 in
theorem ggL_sum_X7_now : GoodIn wsL_sum wsX7_now := goodIn_r _ [11, 12, 261, 262, 263, 264, 265, 266, 267, 268] (by decide +kernel) (by decide +kernel)
set_option maxRecDepth 20000 in
theorem gL_sum_X7_now : GoodIn wsL_sum (wsV RL 132 RX7 yX7_now wsX7_now) := goodIn_app (goodIn_of _ (by decide +kernel)) ggL_sum_X7_now
set_option maxRecDepth 20000 in
theorem ggL_sum_X7_bill : GoodIn wsL_sum wsX7_bill := goodIn_r _ [16, 17, 18, 19, 20, 21, 261, 262, 263, 264, 265, 266, 267, 268, 269, 270, 271, 272, 273, 274, 275, 276, 277, 278, 279] (by decide +kernel) (by decide +kernel)
set_option maxRecDepth 20000 in
theorem gL_sum_X7_bill : GoodIn wsL_sum (wsV RL 137 RX7 yX7_bill wsX7_bill) := goodIn_app (goodIn_of _ (by decide +kernel)) ggL_sum_X7_bill
set_option maxRecDepth 20000 in
theorem ggL_sum_X7_pallets : GoodIn wsL_sum wsX7_pallets := goodIn_r _ [25, 26, 27, 28, 29, 30, 31, 32, 261, 262, 263, 264, 265, 266, 267, 268, 280, 281, 282] (by decide +kernel) (by decide +kernel)
set_option maxRecDepth 20000 in
theorem gL_sum_X7_pallets : GoodIn wsL_sum (wsV RL 143 RX7 yX7_pallets wsX7_pallets) := goodIn_app (goodIn_of _ (by decide +kernel)) ggL_sum_X7_pallets
set_option maxRecDepth 20000 in
theorem ggL_sum_X7_power : GoodIn wsL_sum wsX7_power := goodIn_r _ [36, 17, 37, 261, 262, 263, 264, 265, 266, 267, 268, 269, 270, 271, 272, 273] (by decide +kernel) (by decide +kernel)
set_option maxRecDepth 20000 in
theorem gL_sum_X7_power : GoodIn wsL_sum (wsV RL 148 RX7 yX7_power wsX7_power) := goodIn_app (goodIn_of _ (by decide +kernel)) ggL_sum_X7_power
set_option maxRecDepth 20000 in
theorem ggL_sum_X7_greatestPower : GoodIn wsL_sum wsX7_greatestPower := goodIn_r _ [41, 17, 19, 261, 262, 263, 264, 265, 266, 267, 268, 269, 270, 271, 272, 273] (by decide +kernel) (by decide +kernel)
set_option maxRecDepth 20000 in
theorem gL_sum_X7_greatestPower : GoodIn wsL_sum (wsV RL 153 RX7 yX7_greatestPower wsX7_greatestPower) := goodIn_app (goodIn_of _ (by decide +kernel)) ggL_sum_X7_greatestPower
set_option maxRecDepth 20000 in
theorem ggL_sum_L_of : GoodIn wsL_sum wsL_of := goodIn_ca (goodIn_ca (goodIn_r _ [45, 46, 47, 48, 49, 50, 10, 51, 52, 53, 54, 55, 56, 57, 58, 59, 60, 27, 28, 29, 30, 31, 32, 61, 62, 63, 64, 65, 66, 67, 68, 69, 70, 71, 72, 73, 74, 75, 76, 77, 78, 79, 80, 81, 82, 83, 84, 85, 86, 87, 88, 89, 90, 91, 92, 93, 94, 95, 96, 97, 98, 26, 99, 100, 101, 102, 103, 104, 105, 106, 107, 283, 284, 285, 286, 287, 288, 289, 290, 291, 292, 293, 294, 295, 296, 297, 298, 299, 261, 262, 263, 264, 265, 266, 267, 268, 280, 281, 282, 300, 301, 302, 303, 304, 305, 306, 307, 308] (by decide +kernel) (by decide +kernel)) (goodIn_sub (fun _ h => List.mem_cons_of_mem _ (List.mem_append_left _ (List.mem_append_left _ (List.mem_append_left _ (List.mem_append_left _ (List.mem_append_right _ h)))))) (by decide +kernel))) (goodIn_sub (fun _ h => List.mem_cons_of_mem _ (List.mem_append_left _ (List.mem_append_left _ (List.mem_append_left _ (List.mem_append_right _ h))))) (by decide +kernel))
set_option maxRecDepth 20000 in
theorem gL_sum_L_of : GoodIn wsL_sum (va_wsS RL 156 yL_of wsL_of) := goodIn_app (goodIn_of _ (by decide +kernel)) ggL_sum_L_of
set_option maxRecDepth 20000 in
theorem ggL_sum_L_pallet : GoodIn wsL_sum wsL_pallet := goodIn_ca (goodIn_ca (goodIn_ca (goodIn_r _ [110, 46, 47, 111, 112, 113, 10, 114, 115, 116, 117, 118, 119, 57, 58, 26, 99, 27, 28, 29, 30, 31, 32, 61, 62, 63, 64, 65, 66, 67, 68, 69, 70, 71, 72, 73, 74, 75, 76, 77, 120, 121, 122, 123, 12, 124, 125, 126, 105, 127, 128, 129, 130, 131, 132, 133, 134, 135, 136, 137, 138, 139, 103, 104, 106, 107, 140, 141, 142, 143, 144, 145, 146, 147, 148, 149, 150, 151, 152, 153, 154, 155, 156, 157, 158, 159, 160, 161, 162, 100, 101, 163, 164, 165, 166, 87, 88, 102, 167, 168, 169, 170, 171, 172, 173, 174, 300, 301, 302, 303, 304, 305, 261, 262, 263, 264, 265, 266, 267, 268, 280, 281, 282, 306, 307, 308, 309, 310, 311, 283, 284, 285, 286, 287, 288, 289, 290, 291, 292, 293, 294, 295, 296, 297, 298, 299] (by decide +kernel) (by decide +kernel)) (goodIn_sub (fun _ h => List.mem_cons_of_mem _ (List.mem_append_left _ (List.mem_append_left _ (List.mem_append_left _ (List.mem_append_left _ (List.mem_append_right _ h)))))) (by decide +kernel))) (goodIn_sub (fun _ h => List.mem_cons_of_mem _ (List.mem_append_left _ (List.mem_append_left _ (List.mem_append_right _ h)))) (by decide +kernel))) (goodIn_sub (fun _ h => List.mem_cons_of_mem _ (List.mem_append_left _ (List.mem_append_left _ (List.mem_append_left _ (List.mem_append_right _ h))))) (by decide +kernel))
set_option maxRecDepth 20000 in
theorem gL_sum_L_pallet : GoodIn wsL_sum (va_wsS RL 166 yL_pallet wsL_pallet) := goodIn_app (goodIn_of _ (by decide +kernel)) ggL_sum_L_pallet
set_option maxRecDepth 20000 in
theorem ggL_sum_L_orders : GoodIn wsL_sum wsL_orders := goodIn_ca (goodIn_ca (goodIn_ca (goodIn_ca (goodIn_r _ [177, 46, 178, 47, 179, 180, 181, 182, 10, 183, 184, 185, 186, 187, 188, 57, 58, 189, 190, 27, 28, 29, 30, 31, 32, 61, 62, 63, 64, 65, 66, 67, 68, 69, 70, 71, 72, 73, 74, 75, 76, 77, 191, 192, 193, 194, 195, 196, 197, 198, 199, 200, 201, 202, 203, 204, 205, 206, 207, 208, 209, 210, 211, 212, 213, 214, 26, 99, 215, 216, 217, 218, 219, 220, 221, 222, 223, 224, 103, 104, 105, 106, 107, 225, 226, 227, 228, 115, 229, 12, 230, 231, 232, 233, 234, 235, 236, 237, 238, 239, 171, 172, 173, 174, 128, 240, 241, 242, 243, 244, 245, 246, 247, 248, 249, 250, 251, 87, 88, 252, 253, 254, 255, 256, 257, 258, 259, 260, 312, 313, 314, 315, 316, 317, 261, 262, 263, 264, 265, 266, 267, 268, 280, 281, 282, 300, 301, 302, 303, 304, 305] (by decide +kernel) (by decide +kernel)) (goodIn_sub (fun _ h => List.mem_cons_of_mem _ (List.mem_append_left _ (List.mem_append_left _ (List.mem_append_left _ (List.mem_append_left _ (List.mem_append_right _ h)))))) (by decide +kernel))) (goodIn_sub (fun _ h => List.mem_cons_of_mem _ (List.mem_append_left _ (List.mem_append_right _ h))) (by decide +kernel))) (goodIn_sub (fun _ h => List.mem_cons_of_mem _ (List.mem_append_right _ h)) (by decide +kernel))) (goodIn_sub (fun _ h => List.mem_cons_of_mem _ (List.mem_append_left _ (List.mem_append_left _ (List.mem_append_left _ (List.mem_append_right _ h))))) (by decide +kernel))
set_option maxRecDepth 20000 in
theorem gL_sum_L_orders : GoodIn wsL_sum (va_wsS RL 169 yL_orders wsL_orders) := goodIn_app (goodIn_of _ (by decide +kernel)) ggL_sum_L_orders
theorem dL_sum_0 : decode cL_sum 0 = .ok (.aload_n 0, 1) := by decide +kernel
theorem dL_sum_1 : decode cL_sum 1 = .ok (.invokevirtual 132, 3) := by decide +kernel
theorem dL_sum_4 : decode cL_sum 4 = .ok (.i2l, 1) := by decide +kernel
theorem dL_sum_5 : decode cL_sum 5 = .ok (.ldc2_w 135, 3) := by decide +kernel
theorem dL_sum_8 : decode cL_sum 8 = .ok (.aload_n 0, 1) := by decide +kernel
theorem dL_sum_9 : decode cL_sum 9 = .ok (.invokevirtual 137, 3) := by decide +kernel
theorem dL_sum_12 : decode cL_sum 12 = .ok (.lmul, 1) := by decide +kernel
theorem dL_sum_13 : decode cL_sum 13 = .ok (.ladd, 1) := by decide +kernel
theorem dL_sum_14 : decode cL_sum 14 = .ok (.ldc2_w 141, 3) := by decide +kernel
theorem dL_sum_17 : decode cL_sum 17 = .ok (.aload_n 0, 1) := by decide +kernel
theorem dL_sum_18 : decode cL_sum 18 = .ok (.invokevirtual 143, 3) := by decide +kernel
theorem dL_sum_21 : decode cL_sum 21 = .ok (.i2l, 1) := by decide +kernel
theorem dL_sum_22 : decode cL_sum 22 = .ok (.lmul, 1) := by decide +kernel
theorem dL_sum_23 : decode cL_sum 23 = .ok (.ladd, 1) := by decide +kernel
theorem dL_sum_24 : decode cL_sum 24 = .ok (.ldc2_w 146, 3) := by decide +kernel
theorem dL_sum_27 : decode cL_sum 27 = .ok (.aload_n 0, 1) := by decide +kernel
theorem dL_sum_28 : decode cL_sum 28 = .ok (.invokevirtual 148, 3) := by decide +kernel
theorem dL_sum_31 : decode cL_sum 31 = .ok (.i2l, 1) := by decide +kernel
theorem dL_sum_32 : decode cL_sum 32 = .ok (.lmul, 1) := by decide +kernel
theorem dL_sum_33 : decode cL_sum 33 = .ok (.ladd, 1) := by decide +kernel
theorem dL_sum_34 : decode cL_sum 34 = .ok (.ldc2_w 151, 3) := by decide +kernel
theorem dL_sum_37 : decode cL_sum 37 = .ok (.aload_n 0, 1) := by decide +kernel
theorem dL_sum_38 : decode cL_sum 38 = .ok (.invokevirtual 153, 3) := by decide +kernel
theorem dL_sum_41 : decode cL_sum 41 = .ok (.i2l, 1) := by decide +kernel
theorem dL_sum_42 : decode cL_sum 42 = .ok (.lmul, 1) := by decide +kernel
theorem dL_sum_43 : decode cL_sum 43 = .ok (.ladd, 1) := by decide +kernel
theorem dL_sum_44 : decode cL_sum 44 = .ok (.lstore 4, 2) := by decide +kernel
theorem dL_sum_46 : decode cL_sum 46 = .ok (.iconst 0, 1) := by decide +kernel
theorem dL_sum_47 : decode cL_sum 47 = .ok (.istore 6, 2) := by decide +kernel
theorem dL_sum_49 : decode cL_sum 49 = .ok (.iload 6, 2) := by decide +kernel
theorem dL_sum_51 : decode cL_sum 51 = .ok (.iload_n 1, 1) := by decide +kernel
theorem dL_sum_52 : decode cL_sum 52 = .ok (.if_icmp .ge 65, 3) := by decide +kernel
theorem dL_sum_55 : decode cL_sum 55 = .ok (.ldc2_w 135, 3) := by decide +kernel
theorem dL_sum_58 : decode cL_sum 58 = .ok (.lload 4, 2) := by decide +kernel
theorem dL_sum_60 : decode cL_sum 60 = .ok (.lmul, 1) := by decide +kernel
theorem dL_sum_61 : decode cL_sum 61 = .ok (.aload_n 0, 1) := by decide +kernel
theorem dL_sum_62 : decode cL_sum 62 = .ok (.iload 6, 2) := by decide +kernel
theorem dL_sum_64 : decode cL_sum 64 = .ok (.iconst 0, 1) := by decide +kernel
theorem dL_sum_65 : decode cL_sum 65 = .ok (.invokestatic 156, 3) := by decide +kernel
theorem dL_sum_68 : decode cL_sum 68 = .ok (.i2l, 1) := by decide +kernel
theorem dL_sum_69 : decode cL_sum 69 = .ok (.ladd, 1) := by decide +kernel
theorem dL_sum_70 : decode cL_sum 70 = .ok (.ldc2_w 162, 3) := by decide +kernel
theorem dL_sum_73 : decode cL_sum 73 = .ok (.aload_n 0, 1) := by decide +kernel
theorem dL_sum_74 : decode cL_sum 74 = .ok (.iload 6, 2) := by decide +kernel
theorem dL_sum_76 : decode cL_sum 76 = .ok (.iconst 1, 1) := by decide +kernel
theorem dL_sum_77 : decode cL_sum 77 = .ok (.invokestatic 156, 3) := by decide +kernel
theorem dL_sum_80 : decode cL_sum 80 = .ok (.i2l, 1) := by decide +kernel
theorem dL_sum_81 : decode cL_sum 81 = .ok (.lmul, 1) := by decide +kernel
theorem dL_sum_82 : decode cL_sum 82 = .ok (.ladd, 1) := by decide +kernel
theorem dL_sum_83 : decode cL_sum 83 = .ok (.ldc2_w 164, 3) := by decide +kernel
theorem dL_sum_86 : decode cL_sum 86 = .ok (.aload_n 0, 1) := by decide +kernel
theorem dL_sum_87 : decode cL_sum 87 = .ok (.iload 6, 2) := by decide +kernel
theorem dL_sum_89 : decode cL_sum 89 = .ok (.iconst 2, 1) := by decide +kernel
theorem dL_sum_90 : decode cL_sum 90 = .ok (.invokestatic 156, 3) := by decide +kernel
theorem dL_sum_93 : decode cL_sum 93 = .ok (.i2l, 1) := by decide +kernel
theorem dL_sum_94 : decode cL_sum 94 = .ok (.lmul, 1) := by decide +kernel
theorem dL_sum_95 : decode cL_sum 95 = .ok (.ladd, 1) := by decide +kernel
theorem dL_sum_96 : decode cL_sum 96 = .ok (.ldc2_w 146, 3) := by decide +kernel
theorem dL_sum_99 : decode cL_sum 99 = .ok (.aload_n 0, 1) := by decide +kernel
theorem dL_sum_100 : decode cL_sum 100 = .ok (.iload 6, 2) := by decide +kernel
theorem dL_sum_102 : decode cL_sum 102 = .ok (.iconst 3, 1) := by decide +kernel
theorem dL_sum_103 : decode cL_sum 103 = .ok (.invokestatic 156, 3) := by decide +kernel
theorem dL_sum_106 : decode cL_sum 106 = .ok (.i2l, 1) := by decide +kernel
theorem dL_sum_107 : decode cL_sum 107 = .ok (.lmul, 1) := by decide +kernel
theorem dL_sum_108 : decode cL_sum 108 = .ok (.ladd, 1) := by decide +kernel
theorem dL_sum_109 : decode cL_sum 109 = .ok (.lstore 4, 2) := by decide +kernel
theorem dL_sum_111 : decode cL_sum 111 = .ok (.iinc 6 1, 3) := by decide +kernel
theorem dL_sum_114 : decode cL_sum 114 = .ok (.goto (-65), 3) := by decide +kernel
theorem dL_sum_117 : decode cL_sum 117 = .ok (.iconst 0, 1) := by decide +kernel
theorem dL_sum_118 : decode cL_sum 118 = .ok (.istore 6, 2) := by decide +kernel
theorem dL_sum_120 : decode cL_sum 120 = .ok (.iload 6, 2) := by decide +kernel
theorem dL_sum_122 : decode cL_sum 122 = .ok (.aload_n 0, 1) := by decide +kernel
theorem dL_sum_123 : decode cL_sum 123 = .ok (.invokevirtual 143, 3) := by decide +kernel
theorem dL_sum_126 : decode cL_sum 126 = .ok (.if_icmp .ge 52, 3) := by decide +kernel
theorem dL_sum_129 : decode cL_sum 129 = .ok (.ldc2_w 135, 3) := by decide +kernel
theorem dL_sum_132 : decode cL_sum 132 = .ok (.lload 4, 2) := by decide +kernel
theorem dL_sum_134 : decode cL_sum 134 = .ok (.lmul, 1) := by decide +kernel
theorem dL_sum_135 : decode cL_sum 135 = .ok (.aload_n 0, 1) := by decide +kernel
theorem dL_sum_136 : decode cL_sum 136 = .ok (.iload 6, 2) := by decide +kernel
theorem dL_sum_138 : decode cL_sum 138 = .ok (.iconst 0, 1) := by decide +kernel
theorem dL_sum_139 : decode cL_sum 139 = .ok (.invokestatic 166, 3) := by decide +kernel
theorem dL_sum_142 : decode cL_sum 142 = .ok (.i2l, 1) := by decide +kernel
theorem dL_sum_143 : decode cL_sum 143 = .ok (.ladd, 1) := by decide +kernel
theorem dL_sum_144 : decode cL_sum 144 = .ok (.ldc2_w 162, 3) := by decide +kernel
theorem dL_sum_147 : decode cL_sum 147 = .ok (.aload_n 0, 1) := by decide +kernel
theorem dL_sum_148 : decode cL_sum 148 = .ok (.iload 6, 2) := by decide +kernel
theorem dL_sum_150 : decode cL_sum 150 = .ok (.iconst 2, 1) := by decide +kernel
theorem dL_sum_151 : decode cL_sum 151 = .ok (.invokestatic 166, 3) := by decide +kernel
theorem dL_sum_154 : decode cL_sum 154 = .ok (.i2l, 1) := by decide +kernel
theorem dL_sum_155 : decode cL_sum 155 = .ok (.lmul, 1) := by decide +kernel
theorem dL_sum_156 : decode cL_sum 156 = .ok (.ladd, 1) := by decide +kernel
theorem dL_sum_157 : decode cL_sum 157 = .ok (.ldc2_w 164, 3) := by decide +kernel
theorem dL_sum_160 : decode cL_sum 160 = .ok (.aload_n 0, 1) := by decide +kernel
theorem dL_sum_161 : decode cL_sum 161 = .ok (.iload 6, 2) := by decide +kernel
theorem dL_sum_163 : decode cL_sum 163 = .ok (.iconst 3, 1) := by decide +kernel
theorem dL_sum_164 : decode cL_sum 164 = .ok (.invokestatic 166, 3) := by decide +kernel
theorem dL_sum_167 : decode cL_sum 167 = .ok (.i2l, 1) := by decide +kernel
theorem dL_sum_168 : decode cL_sum 168 = .ok (.lmul, 1) := by decide +kernel
theorem dL_sum_169 : decode cL_sum 169 = .ok (.ladd, 1) := by decide +kernel
theorem dL_sum_170 : decode cL_sum 170 = .ok (.lstore 4, 2) := by decide +kernel
theorem dL_sum_172 : decode cL_sum 172 = .ok (.iinc 6 1, 3) := by decide +kernel
theorem dL_sum_175 : decode cL_sum 175 = .ok (.goto (-55), 3) := by decide +kernel
theorem dL_sum_178 : decode cL_sum 178 = .ok (.iconst 0, 1) := by decide +kernel
theorem dL_sum_179 : decode cL_sum 179 = .ok (.istore 6, 2) := by decide +kernel
theorem dL_sum_181 : decode cL_sum 181 = .ok (.iload 6, 2) := by decide +kernel
theorem dL_sum_183 : decode cL_sum 183 = .ok (.iload_n 3, 1) := by decide +kernel
theorem dL_sum_184 : decode cL_sum 184 = .ok (.if_icmp .ge 52, 3) := by decide +kernel
theorem dL_sum_187 : decode cL_sum 187 = .ok (.ldc2_w 135, 3) := by decide +kernel
theorem dL_sum_190 : decode cL_sum 190 = .ok (.lload 4, 2) := by decide +kernel
theorem dL_sum_192 : decode cL_sum 192 = .ok (.lmul, 1) := by decide +kernel
theorem dL_sum_193 : decode cL_sum 193 = .ok (.aload_n 0, 1) := by decide +kernel
theorem dL_sum_194 : decode cL_sum 194 = .ok (.iload 6, 2) := by decide +kernel
theorem dL_sum_196 : decode cL_sum 196 = .ok (.iconst 3, 1) := by decide +kernel
theorem dL_sum_197 : decode cL_sum 197 = .ok (.invokestatic 169, 3) := by decide +kernel
theorem dL_sum_200 : decode cL_sum 200 = .ok (.i2l, 1) := by decide +kernel
theorem dL_sum_201 : decode cL_sum 201 = .ok (.ladd, 1) := by decide +kernel
theorem dL_sum_202 : decode cL_sum 202 = .ok (.ldc2_w 162, 3) := by decide +kernel
theorem dL_sum_205 : decode cL_sum 205 = .ok (.aload_n 0, 1) := by decide +kernel
theorem dL_sum_206 : decode cL_sum 206 = .ok (.iload 6, 2) := by decide +kernel
theorem dL_sum_208 : decode cL_sum 208 = .ok (.iconst 2, 1) := by decide +kernel
theorem dL_sum_209 : decode cL_sum 209 = .ok (.invokestatic 169, 3) := by decide +kernel
theorem dL_sum_212 : decode cL_sum 212 = .ok (.i2l, 1) := by decide +kernel
theorem dL_sum_213 : decode cL_sum 213 = .ok (.lmul, 1) := by decide +kernel
theorem dL_sum_214 : decode cL_sum 214 = .ok (.ladd, 1) := by decide +kernel
theorem dL_sum_215 : decode cL_sum 215 = .ok (.ldc2_w 164, 3) := by decide +kernel
theorem dL_sum_218 : decode cL_sum 218 = .ok (.aload_n 0, 1) := by decide +kernel
theorem dL_sum_219 : decode cL_sum 219 = .ok (.iload 6, 2) := by decide +kernel
theorem dL_sum_221 : decode cL_sum 221 = .ok (.iconst 4, 1) := by decide +kernel
theorem dL_sum_222 : decode cL_sum 222 = .ok (.invokestatic 169, 3) := by decide +kernel
theorem dL_sum_225 : decode cL_sum 225 = .ok (.i2l, 1) := by decide +kernel
theorem dL_sum_226 : decode cL_sum 226 = .ok (.lmul, 1) := by decide +kernel
theorem dL_sum_227 : decode cL_sum 227 = .ok (.ladd, 1) := by decide +kernel
theorem dL_sum_228 : decode cL_sum 228 = .ok (.lstore 4, 2) := by decide +kernel
theorem dL_sum_230 : decode cL_sum 230 = .ok (.iinc 6 1, 3) := by decide +kernel
theorem dL_sum_233 : decode cL_sum 233 = .ok (.goto (-52), 3) := by decide +kernel
theorem dL_sum_236 : decode cL_sum 236 = .ok (.lload 4, 2) := by decide +kernel
theorem dL_sum_238 : decode cL_sum 238 = .ok (.iload_n 2, 1) := by decide +kernel
theorem dL_sum_239 : decode cL_sum 239 = .ok (.i2l, 1) := by decide +kernel
theorem dL_sum_240 : decode cL_sum 240 = .ok (.ladd, 1) := by decide +kernel
theorem dL_sum_241 : decode cL_sum 241 = .ok (.lreturn, 1) := by decide +kernel
set_option maxRecDepth 20000 in
theorem ggL_isSound_X7_bill : GoodIn wsL_isSound wsX7_bill := goodIn_r _ [5, 6, 7, 8, 9, 10, 330, 331, 332, 333, 334, 335, 336, 337, 338, 339, 340, 341, 342, 343, 344, 345, 346, 347, 348] (by decide +kernel) (by decide +kernel)
set_option maxRecDepth 20000 in
theorem gL_isSound_X7_bill : GoodIn wsL_isSound (wsV RL 137 RX7 yX7_bill wsX7_bill) := goodIn_app (goodIn_of _ (by decide +kernel)) ggL_isSound_X7_bill
set_option maxRecDepth 20000 in
theorem ggL_isSound_X7_billByRecords : GoodIn wsL_isSound wsX7_billByRecords := goodIn_ca (goodIn_r _ [14, 6, 15, 9, 10, 16, 17, 18, 19, 20, 21, 22, 23, 24, 25, 26, 27, 28, 29, 30, 330, 331, 332, 333, 334, 335, 336, 337, 343, 344, 345, 346, 347, 348, 338, 339, 340, 341, 342] (by decide +kernel) (by decide +kernel)) (goodIn_sub (fun _ h => List.mem_cons_of_mem _ (List.mem_append_left _ (List.mem_append_left _ (List.mem_append_left _ (List.mem_append_left _ (List.mem_append_left _ (List.mem_append_left _ (List.mem_append_right _ h)))))))) (by decide +kernel))
set_option maxRecDepth 20000 in
theorem gL_isSound_X7_billByRecords : GoodIn wsL_isSound (wsV RL 172 RX7 yX7_billByRecords wsX7_billByRecords) := goodIn_app (goodIn_of _ (by decide +kernel)) ggL_isSound_X7_billByRecords
set_option maxRecDepth 20000 in
theorem ggL_isSound_X7_power : GoodIn wsL_isSound wsX7_power := goodIn_r _ [34, 6, 35, 330, 331, 332, 333, 334, 335, 336, 337, 338, 339, 340, 341, 342] (by decide +kernel) (by decide +kernel)
set_option maxRecDepth 20000 in
theorem gL_isSound_X7_power : GoodIn wsL_isSound (wsV RL 148 RX7 yX7_power wsX7_power) := goodIn_app (goodIn_of _ (by decide +kernel)) ggL_isSound_X7_power
set_option maxRecDepth 20000 in
theorem ggL_isSound_X7_greatestPower : GoodIn wsL_isSound wsX7_greatestPower := goodIn_r _ [39, 6, 8, 330, 331, 332, 333, 334, 335, 336, 337, 338, 339, 340, 341, 342] (by decide +kernel) (by decide +kernel)
set_option maxRecDepth 20000 in
theorem gL_isSound_X7_greatestPower : GoodIn wsL_isSound (wsV RL 153 RX7 yX7_greatestPower wsX7_greatestPower) := goodIn_app (goodIn_of _ (by decide +kernel)) ggL_isSound_X7_greatestPower
set_option maxRecDepth 20000 in
theorem ggL_isSound_L_soonest : GoodIn wsL_isSound wsL_soonest := goodIn_ca (goodIn_r _ [43, 44, 45, 46, 47, 4, 48, 49, 50, 51, 52, 53, 54, 55, 56, 57, 58, 59, 60, 61, 62, 63, 64, 65, 66, 67, 68, 69, 70, 71, 72, 73, 74, 75, 76, 77, 78, 79, 80, 81, 82, 83, 84, 85, 86, 87, 88, 330, 331, 332, 333, 334, 335, 336, 337, 349, 350, 351, 352, 353, 354, 355, 356, 357] (by decide +kernel) (by decide +kernel)) (goodIn_sub (fun _ h => List.mem_cons_of_mem _ (List.mem_append_left _ (List.mem_append_left _ (List.mem_append_left _ (List.mem_append_left _ (List.mem_append_left _ (List.mem_append_right _ h))))))) (by decide +kernel))
set_option maxRecDepth 20000 in
theorem gL_isSound_L_soonest : GoodIn wsL_isSound (va_wsS RL 175 yL_soonest wsL_soonest) := goodIn_app (goodIn_of _ (by decide +kernel)) ggL_isSound_L_soonest
set_option maxRecDepth 20000 in
theorem ggL_isSound_X7_pallets : GoodIn wsL_isSound wsX7_pallets := goodIn_r _ [92, 51, 54, 55, 56, 57, 58, 59, 330, 331, 332, 333, 334, 335, 336, 337, 355, 356, 357] (by decide +kernel) (by decide +kernel)
set_option maxRecDepth 20000 in
theorem gL_isSound_X7_pallets : GoodIn wsL_isSound (wsV RL 143 RX7 yX7_pallets wsX7_pallets) := goodIn_app (goodIn_of _ (by decide +kernel)) ggL_isSound_X7_pallets
set_option maxRecDepth 20000 in
theorem ggL_isSound_L_pallet : GoodIn wsL_isSound wsL_pallet := goodIn_ca (goodIn_ca (goodIn_ca (goodIn_r _ [95, 96, 44, 97, 98, 99, 4, 100, 101, 102, 103, 104, 105, 106, 107, 51, 52, 54, 55, 56, 57, 58, 59, 60, 61, 62, 63, 64, 65, 66, 67, 68, 69, 70, 71, 72, 73, 74, 75, 76, 108, 109, 110, 111, 15, 112, 113, 114, 80, 115, 116, 117, 118, 119, 120, 121, 122, 123, 28, 29, 30, 124, 78, 79, 81, 82, 125, 126, 127, 128, 129, 130, 131, 132, 133, 134, 135, 136, 137, 138, 139, 140, 141, 142, 143, 144, 145, 146, 147, 148, 149, 150, 151, 152, 153, 49, 50, 77, 154, 155, 156, 157, 158, 159, 160, 161, 349, 350, 351, 352, 353, 354, 330, 331, 332, 333, 334, 335, 336, 337, 355, 356, 357, 358, 359, 360, 361, 362, 363, 364, 365, 366, 367, 368, 369, 370, 371, 372, 373, 374, 375, 376, 377, 378, 379, 380] (by decide +kernel) (by decide +kernel)) (goodIn_sub (fun _ h => List.mem_cons_of_mem _ (List.mem_append_left _ (List.mem_append_left _ (List.mem_append_left _ (List.mem_append_left _ (List.mem_append_right _ h)))))) (by decide +kernel))) (goodIn_sub (fun _ h => List.mem_cons_of_mem _ (List.mem_append_left _ (List.mem_append_left _ (List.mem_append_left _ (List.mem_append_left _ (List.mem_append_left _ (List.mem_append_left _ (List.mem_append_right _ h)))))))) (by decide +kernel))) (goodIn_sub (fun _ h => List.mem_cons_of_mem _ (List.mem_append_left _ (List.mem_append_left _ (List.mem_append_left _ (List.mem_append_left _ (List.mem_append_left _ (List.mem_append_right _ h))))))) (by decide +kernel))
set_option maxRecDepth 20000 in
theorem gL_isSound_L_pallet : GoodIn wsL_isSound (va_wsS RL 166 yL_pallet wsL_pallet) := goodIn_app (goodIn_of _ (by decide +kernel)) ggL_isSound_L_pallet
set_option maxRecDepth 20000 in
theorem ggL_isSound_L_forecast : GoodIn wsL_isSound wsL_forecast := goodIn_ca (goodIn_ca (goodIn_ca (goodIn_r _ [164, 96, 44, 165, 166, 167, 168, 4, 169, 170, 148, 149, 171, 101, 172, 28, 29, 30, 102, 103, 104, 105, 106, 107, 51, 52, 54, 55, 56, 57, 58, 59, 60, 61, 62, 63, 64, 65, 66, 67, 68, 69, 70, 71, 72, 73, 74, 75, 76, 151, 152, 153, 49, 50, 77, 78, 79, 80, 81, 82, 173, 174, 175, 176, 177, 178, 133, 134, 135, 136, 137, 138, 349, 350, 351, 352, 353, 354, 358, 359, 360, 364, 365, 366, 367, 368, 369, 370, 371, 372, 373, 374, 375, 376, 377, 378, 379, 380, 330, 331, 332, 333, 334, 335, 336, 337, 355, 356, 357, 361, 362, 363] (by decide +kernel) (by decide +kernel)) (goodIn_sub (fun _ h => List.mem_cons_of_mem _ (List.mem_append_left _ (List.mem_append_left _ (List.mem_append_left _ (List.mem_append_left _ (List.mem_append_right _ h)))))) (by decide +kernel))) (goodIn_sub (fun _ h => List.mem_cons_of_mem _ (List.mem_append_left _ (List.mem_append_left _ (List.mem_append_left _ (List.mem_append_left _ (List.mem_append_left _ (List.mem_append_right _ h))))))) (by decide +kernel))) (goodIn_sub (fun _ h => List.mem_cons_of_mem _ (List.mem_append_left _ (List.mem_append_left _ (List.mem_append_left _ (List.mem_append_right _ h))))) (by decide +kernel))
set_option maxRecDepth 20000 in
theorem gL_isSound_L_forecast : GoodIn wsL_isSound (va_wsS RL 178 yL_forecast wsL_forecast) := goodIn_app (goodIn_of _ (by decide +kernel)) ggL_isSound_L_forecast
set_option maxRecDepth 20000 in
theorem ggL_isSound_L_of : GoodIn wsL_isSound wsL_of := goodIn_ca (goodIn_ca (goodIn_r _ [181, 96, 44, 182, 183, 184, 4, 185, 171, 186, 187, 188, 189, 106, 107, 190, 191, 54, 55, 56, 57, 58, 59, 60, 61, 62, 63, 64, 65, 66, 67, 68, 69, 70, 71, 72, 73, 74, 75, 76, 192, 193, 194, 195, 196, 197, 198, 199, 200, 49, 50, 201, 202, 203, 204, 205, 206, 207, 208, 209, 210, 51, 52, 148, 149, 77, 78, 79, 80, 81, 82, 364, 365, 366, 367, 368, 369, 370, 371, 372, 373, 374, 375, 376, 377, 378, 379, 380, 330, 331, 332, 333, 334, 335, 336, 337, 355, 356, 357, 349, 350, 351, 352, 353, 354, 358, 359, 360] (by decide +kernel) (by decide +kernel)) (goodIn_sub (fun _ h => List.mem_cons_of_mem _ (List.mem_append_left _ (List.mem_append_left _ (List.mem_append_left _ (List.mem_append_left _ (List.mem_append_right _ h)))))) (by decide +kernel))) (goodIn_sub (fun _ h => List.mem_cons_of_mem _ (List.mem_append_left _ (List.mem_append_left _ (List.mem_append_left _ (List.mem_append_left _ (List.mem_append_left _ (List.mem_append_right _ h))))))) (by decide +kernel))
set_option maxRecDepth 20000 in
theorem gL_isSound_L_of : GoodIn wsL_isSound (va_wsS RL 156 yL_of wsL_of) := goodIn_app (goodIn_of _ (by decide +kernel)) ggL_isSound_L_of
set_option maxRecDepth 20000 in
theorem ggL_isSound_L_mean : GoodIn wsL_isSound wsL_mean := goodIn_ca (goodIn_ca (goodIn_r _ [213, 96, 214, 215, 216, 217, 218, 219, 4, 220, 221, 222, 201, 223, 186, 187, 188, 189, 106, 107, 190, 191, 54, 55, 56, 57, 58, 59, 60, 61, 62, 63, 64, 65, 66, 67, 68, 69, 70, 71, 72, 73, 74, 75, 76, 364, 365, 366, 367, 368, 369, 370, 371, 372, 373, 374, 375, 376, 377, 378, 379, 380, 330, 331, 332, 333, 334, 335, 336, 337, 355, 356, 357] (by decide +kernel) (by decide +kernel)) (goodIn_sub (fun _ h => List.mem_cons_of_mem _ (List.mem_append_left _ (List.mem_append_left _ (List.mem_append_right _ h)))) (by decide +kernel))) (goodIn_sub (fun _ h => List.mem_cons_of_mem _ (List.mem_append_left _ (List.mem_append_left _ (List.mem_append_left _ (List.mem_append_left _ (List.mem_append_right _ h)))))) (by decide +kernel))
set_option maxRecDepth 20000 in
theorem gL_isSound_L_mean : GoodIn wsL_isSound (va_wsS RL 180 yL_mean wsL_mean) := goodIn_app (goodIn_of _ (by decide +kernel)) ggL_isSound_L_mean
set_option maxRecDepth 20000 in
theorem ggL_isSound_L_orders : GoodIn wsL_isSound wsL_orders := goodIn_ca (goodIn_ca (goodIn_ca (goodIn_ca (goodIn_r _ [226, 96, 227, 44, 228, 229, 230, 231, 4, 232, 233, 234, 235, 236, 237, 106, 107, 238, 239, 54, 55, 56, 57, 58, 59, 60, 61, 62, 63, 64, 65, 66, 67, 68, 69, 70, 71, 72, 73, 74, 75, 76, 240, 241, 242, 243, 244, 245, 246, 247, 248, 249, 250, 251, 252, 253, 254, 255, 256, 257, 258, 259, 260, 261, 262, 263, 51, 52, 264, 265, 266, 267, 268, 269, 270, 271, 272, 273, 78, 79, 80, 81, 82, 274, 275, 276, 277, 101, 278, 15, 279, 280, 281, 282, 83, 84, 85, 86, 87, 88, 158, 159, 160, 161, 116, 283, 284, 285, 286, 287, 288, 289, 290, 291, 292, 293, 294, 49, 50, 295, 296, 297, 298, 53, 299, 300, 301, 302, 381, 382, 383, 384, 385, 386, 330, 331, 332, 333, 334, 335, 336, 337, 355, 356, 357, 349, 350, 351, 352, 353, 354] (by decide +kernel) (by decide +kernel)) (goodIn_sub (fun _ h => List.mem_cons_of_mem _ (List.mem_append_left _ (List.mem_append_left _ (List.mem_append_left _ (List.mem_append_left _ (List.mem_append_right _ h)))))) (by decide +kernel))) (goodIn_sub (fun _ h => List.mem_cons_of_mem _ (List.mem_append_left _ (List.mem_append_right _ h))) (by decide +kernel))) (goodIn_sub (fun _ h => List.mem_cons_of_mem _ (List.mem_append_right _ h)) (by decide +kernel))) (goodIn_sub (fun _ h => List.mem_cons_of_mem _ (List.mem_append_left _ (List.mem_append_left _ (List.mem_append_left _ (List.mem_append_left _ (List.mem_append_left _ (List.mem_append_right _ h))))))) (by decide +kernel))
set_option maxRecDepth 20000 in
theorem gL_isSound_L_orders : GoodIn wsL_isSound (va_wsS RL 169 yL_orders wsL_orders) := goodIn_app (goodIn_of _ (by decide +kernel)) ggL_isSound_L_orders
set_option maxRecDepth 20000 in
theorem ggL_isSound_X7_isConsistent : GoodIn wsL_isSound wsX7_isConsistent := goodIn_ca (goodIn_r _ [306, 307, 308, 309, 4, 310, 15, 6, 8, 35, 311, 2, 3, 5, 7, 9, 10, 312, 12, 13, 14, 16, 17, 18, 19, 20, 21, 22, 23, 24, 25, 26, 27, 28, 29, 30, 313, 314, 315, 316, 190, 191, 150, 317, 318, 171, 201, 54, 55, 56, 57, 58, 59, 60, 61, 62, 63, 64, 65, 66, 67, 68, 69, 70, 71, 72, 73, 74, 75, 76, 207, 208, 209, 210, 51, 52, 148, 149, 77, 78, 79, 80, 81, 82, 319, 320, 321, 322, 53, 101, 170, 323, 324, 112, 113, 114, 115, 116, 117, 118, 119, 120, 121, 122, 123, 124, 125, 126, 127, 128, 129, 130, 131, 132, 133, 134, 135, 136, 137, 138, 325, 326, 327, 328, 238, 239, 233, 329, 330, 331, 332, 333, 334, 335, 336, 337, 338, 339, 340, 341, 342, 343, 344, 345, 346, 347, 348, 364, 365, 366, 367, 368, 369, 370, 371, 372, 373, 374, 375, 376, 377, 378, 379, 380, 355, 356, 357, 349, 350, 351, 352, 353, 354, 358, 359, 360, 361, 362, 363, 381, 382, 383, 384, 385, 386] (by decide +kernel) (by decide +kernel)) (goodIn_sub (fun _ h => List.mem_cons_of_mem _ (List.mem_append_left _ (List.mem_append_left _ (List.mem_append_left _ (List.mem_append_left _ (List.mem_append_left _ (List.mem_append_left _ (List.mem_append_right _ h)))))))) (by decide +kernel))
set_option maxRecDepth 20000 in
theorem gL_isSound_X7_isConsistent : GoodIn wsL_isSound (wsV RL 184 RX7 yX7_isConsistent wsX7_isConsistent) := goodIn_app (goodIn_of _ (by decide +kernel)) ggL_isSound_X7_isConsistent
theorem dL_isSound_0 : decode cL_isSound 0 = .ok (.aload_n 0, 1) := by decide +kernel
theorem dL_isSound_1 : decode cL_isSound 1 = .ok (.invokevirtual 137, 3) := by decide +kernel
theorem dL_isSound_4 : decode cL_isSound 4 = .ok (.aload_n 0, 1) := by decide +kernel
theorem dL_isSound_5 : decode cL_isSound 5 = .ok (.invokevirtual 172, 3) := by decide +kernel
theorem dL_isSound_8 : decode cL_isSound 8 = .ok (.lcmp, 1) := by decide +kernel
theorem dL_isSound_9 : decode cL_isSound 9 = .ok (.ifCond .ne 21, 3) := by decide +kernel
theorem dL_isSound_12 : decode cL_isSound 12 = .ok (.aload_n 0, 1) := by decide +kernel
theorem dL_isSound_13 : decode cL_isSound 13 = .ok (.invokevirtual 148, 3) := by decide +kernel
theorem dL_isSound_16 : decode cL_isSound 16 = .ok (.aload_n 0, 1) := by decide +kernel
theorem dL_isSound_17 : decode cL_isSound 17 = .ok (.invokevirtual 153, 3) := by decide +kernel
theorem dL_isSound_20 : decode cL_isSound 20 = .ok (.if_icmp .gt 10, 3) := by decide +kernel
theorem dL_isSound_23 : decode cL_isSound 23 = .ok (.aload_n 0, 1) := by decide +kernel
theorem dL_isSound_24 : decode cL_isSound 24 = .ok (.invokevirtual 148, 3) := by decide +kernel
theorem dL_isSound_27 : decode cL_isSound 27 = .ok (.ifCond .ge 5, 3) := by decide +kernel
theorem dL_isSound_30 : decode cL_isSound 30 = .ok (.iconst 0, 1) := by decide +kernel
theorem dL_isSound_31 : decode cL_isSound 31 = .ok (.ireturn, 1) := by decide +kernel
theorem dL_isSound_32 : decode cL_isSound 32 = .ok (.iconst 0, 1) := by decide +kernel
theorem dL_isSound_33 : decode cL_isSound 33 = .ok (.istore 4, 2) := by decide +kernel
theorem dL_isSound_35 : decode cL_isSound 35 = .ok (.aload_n 0, 1) := by decide +kernel
theorem dL_isSound_36 : decode cL_isSound 36 = .ok (.invokestatic 175, 3) := by decide +kernel
theorem dL_isSound_39 : decode cL_isSound 39 = .ok (.istore 5, 2) := by decide +kernel
theorem dL_isSound_41 : decode cL_isSound 41 = .ok (.iconst 0, 1) := by decide +kernel
theorem dL_isSound_42 : decode cL_isSound 42 = .ok (.istore 6, 2) := by decide +kernel
theorem dL_isSound_44 : decode cL_isSound 44 = .ok (.iload 6, 2) := by decide +kernel
theorem dL_isSound_46 : decode cL_isSound 46 = .ok (.aload_n 0, 1) := by decide +kernel
theorem dL_isSound_47 : decode cL_isSound 47 = .ok (.invokevirtual 143, 3) := by decide +kernel
theorem dL_isSound_50 : decode cL_isSound 50 = .ok (.if_icmp .ge 137, 3) := by decide +kernel
theorem dL_isSound_53 : decode cL_isSound 53 = .ok (.aload_n 0, 1) := by decide +kernel
theorem dL_isSound_54 : decode cL_isSound 54 = .ok (.iload 6, 2) := by decide +kernel
theorem dL_isSound_56 : decode cL_isSound 56 = .ok (.iconst 0, 1) := by decide +kernel
theorem dL_isSound_57 : decode cL_isSound 57 = .ok (.invokestatic 166, 3) := by decide +kernel
theorem dL_isSound_60 : decode cL_isSound 60 = .ok (.istore 7, 2) := by decide +kernel
theorem dL_isSound_62 : decode cL_isSound 62 = .ok (.aload_n 0, 1) := by decide +kernel
theorem dL_isSound_63 : decode cL_isSound 63 = .ok (.iload 6, 2) := by decide +kernel
theorem dL_isSound_65 : decode cL_isSound 65 = .ok (.iconst 2, 1) := by decide +kernel
theorem dL_isSound_66 : decode cL_isSound 66 = .ok (.invokestatic 166, 3) := by decide +kernel
theorem dL_isSound_69 : decode cL_isSound 69 = .ok (.bipush 114, 2) := by decide +kernel
theorem dL_isSound_71 : decode cL_isSound 71 = .ok (.if_icmp .ne 7, 3) := by decide +kernel
theorem dL_isSound_74 : decode cL_isSound 74 = .ok (.iconst 1, 1) := by decide +kernel
theorem dL_isSound_75 : decode cL_isSound 75 = .ok (.goto 4, 3) := by decide +kernel
theorem dL_isSound_78 : decode cL_isSound 78 = .ok (.iconst 0, 1) := by decide +kernel
theorem dL_isSound_79 : decode cL_isSound 79 = .ok (.istore 8, 2) := by decide +kernel
theorem dL_isSound_81 : decode cL_isSound 81 = .ok (.iload 4, 2) := by decide +kernel
theorem dL_isSound_83 : decode cL_isSound 83 = .ok (.iload 8, 2) := by decide +kernel
theorem dL_isSound_85 : decode cL_isSound 85 = .ok (.ifCond .eq 7, 3) := by decide +kernel
theorem dL_isSound_88 : decode cL_isSound 88 = .ok (.iconst 1, 1) := by decide +kernel
theorem dL_isSound_89 : decode cL_isSound 89 = .ok (.goto 4, 3) := by decide +kernel
theorem dL_isSound_92 : decode cL_isSound 92 = .ok (.iconst 0, 1) := by decide +kernel
theorem dL_isSound_93 : decode cL_isSound 93 = .ok (.iadd, 1) := by decide +kernel
theorem dL_isSound_94 : decode cL_isSound 94 = .ok (.istore 4, 2) := by decide +kernel
theorem dL_isSound_96 : decode cL_isSound 96 = .ok (.iload 7, 2) := by decide +kernel
theorem dL_isSound_98 : decode cL_isSound 98 = .ok (.aload_n 0, 1) := by decide +kernel
theorem dL_isSound_99 : decode cL_isSound 99 = .ok (.iload 6, 2) := by decide +kernel
theorem dL_isSound_101 : decode cL_isSound 101 = .ok (.iconst 1, 1) := by decide +kernel
theorem dL_isSound_102 : decode cL_isSound 102 = .ok (.invokestatic 166, 3) := by decide +kernel
theorem dL_isSound_105 : decode cL_isSound 105 = .ok (.if_icmp .ne 74, 3) := by decide +kernel
theorem dL_isSound_108 : decode cL_isSound 108 = .ok (.iload 7, 2) := by decide +kernel
theorem dL_isSound_110 : decode cL_isSound 110 = .ok (.ifCond .lt 69, 3) := by decide +kernel
theorem dL_isSound_113 : decode cL_isSound 113 = .ok (.iload 8, 2) := by decide +kernel
theorem dL_isSound_115 : decode cL_isSound 115 = .ok (.aload_n 0, 1) := by decide +kernel
theorem dL_isSound_116 : decode cL_isSound 116 = .ok (.iload 6, 2) := by decide +kernel
theorem dL_isSound_118 : decode cL_isSound 118 = .ok (.iconst 3, 1) := by decide +kernel
theorem dL_isSound_119 : decode cL_isSound 119 = .ok (.invokestatic 166, 3) := by decide +kernel
theorem dL_isSound_122 : decode cL_isSound 122 = .ok (.ifCond .lt 7, 3) := by decide +kernel
theorem dL_isSound_125 : decode cL_isSound 125 = .ok (.iconst 1, 1) := by decide +kernel
theorem dL_isSound_126 : decode cL_isSound 126 = .ok (.goto 4, 3) := by decide +kernel
theorem dL_isSound_129 : decode cL_isSound 129 = .ok (.iconst 0, 1) := by decide +kernel
theorem dL_isSound_130 : decode cL_isSound 130 = .ok (.if_icmp .ne 49, 3) := by decide +kernel
theorem dL_isSound_133 : decode cL_isSound 133 = .ok (.iload 8, 2) := by decide +kernel
theorem dL_isSound_135 : decode cL_isSound 135 = .ok (.ifCond .eq 46, 3) := by decide +kernel
theorem dL_isSound_138 : decode cL_isSound 138 = .ok (.aload_n 0, 1) := by decide +kernel
theorem dL_isSound_139 : decode cL_isSound 139 = .ok (.iload 6, 2) := by decide +kernel
theorem dL_isSound_141 : decode cL_isSound 141 = .ok (.iconst 0, 1) := by decide +kernel
theorem dL_isSound_142 : decode cL_isSound 142 = .ok (.invokestatic 178, 3) := by decide +kernel
theorem dL_isSound_145 : decode cL_isSound 145 = .ok (.iload 7, 2) := by decide +kernel
theorem dL_isSound_147 : decode cL_isSound 147 = .ok (.if_icmp .ne 32, 3) := by decide +kernel
theorem dL_isSound_150 : decode cL_isSound 150 = .ok (.aload_n 0, 1) := by decide +kernel
theorem dL_isSound_151 : decode cL_isSound 151 = .ok (.iload 6, 2) := by decide +kernel
theorem dL_isSound_153 : decode cL_isSound 153 = .ok (.iconst 5, 1) := by decide +kernel
theorem dL_isSound_154 : decode cL_isSound 154 = .ok (.invokestatic 178, 3) := by decide +kernel
theorem dL_isSound_157 : decode cL_isSound 157 = .ok (.iload 7, 2) := by decide +kernel
theorem dL_isSound_159 : decode cL_isSound 159 = .ok (.if_icmp .gt 20, 3) := by decide +kernel
theorem dL_isSound_162 : decode cL_isSound 162 = .ok (.iload 5, 2) := by decide +kernel
theorem dL_isSound_164 : decode cL_isSound 164 = .ok (.ifCond .lt 15, 3) := by decide +kernel
theorem dL_isSound_167 : decode cL_isSound 167 = .ok (.aload_n 0, 1) := by decide +kernel
theorem dL_isSound_168 : decode cL_isSound 168 = .ok (.iload 5, 2) := by decide +kernel
theorem dL_isSound_170 : decode cL_isSound 170 = .ok (.iconst 0, 1) := by decide +kernel
theorem dL_isSound_171 : decode cL_isSound 171 = .ok (.invokestatic 166, 3) := by decide +kernel
theorem dL_isSound_174 : decode cL_isSound 174 = .ok (.iload 7, 2) := by decide +kernel
theorem dL_isSound_176 : decode cL_isSound 176 = .ok (.if_icmp .le 5, 3) := by decide +kernel
theorem dL_isSound_179 : decode cL_isSound 179 = .ok (.iconst 0, 1) := by decide +kernel
theorem dL_isSound_180 : decode cL_isSound 180 = .ok (.ireturn, 1) := by decide +kernel
theorem dL_isSound_181 : decode cL_isSound 181 = .ok (.iinc 6 1, 3) := by decide +kernel
theorem dL_isSound_184 : decode cL_isSound 184 = .ok (.goto (-140), 3) := by decide +kernel
theorem dL_isSound_187 : decode cL_isSound 187 = .ok (.iconst 0, 1) := by decide +kernel
theorem dL_isSound_188 : decode cL_isSound 188 = .ok (.istore 6, 2) := by decide +kernel
theorem dL_isSound_190 : decode cL_isSound 190 = .ok (.iconst 0, 1) := by decide +kernel
theorem dL_isSound_191 : decode cL_isSound 191 = .ok (.istore 7, 2) := by decide +kernel
theorem dL_isSound_193 : decode cL_isSound 193 = .ok (.iload 7, 2) := by decide +kernel
theorem dL_isSound_195 : decode cL_isSound 195 = .ok (.iload_n 1, 1) := by decide +kernel
theorem dL_isSound_196 : decode cL_isSound 196 = .ok (.if_icmp .ge 107, 3) := by decide +kernel
theorem dL_isSound_199 : decode cL_isSound 199 = .ok (.iload 6, 2) := by decide +kernel
theorem dL_isSound_201 : decode cL_isSound 201 = .ok (.aload_n 0, 1) := by decide +kernel
theorem dL_isSound_202 : decode cL_isSound 202 = .ok (.iload 7, 2) := by decide +kernel
theorem dL_isSound_204 : decode cL_isSound 204 = .ok (.iconst 3, 1) := by decide +kernel
theorem dL_isSound_205 : decode cL_isSound 205 = .ok (.invokestatic 156, 3) := by decide +kernel
theorem dL_isSound_208 : decode cL_isSound 208 = .ok (.iadd, 1) := by decide +kernel
theorem dL_isSound_209 : decode cL_isSound 209 = .ok (.istore 6, 2) := by decide +kernel
theorem dL_isSound_211 : decode cL_isSound 211 = .ok (.aload_n 0, 1) := by decide +kernel
theorem dL_isSound_212 : decode cL_isSound 212 = .ok (.iload 7, 2) := by decide +kernel
theorem dL_isSound_214 : decode cL_isSound 214 = .ok (.iconst 0, 1) := by decide +kernel
theorem dL_isSound_215 : decode cL_isSound 215 = .ok (.invokestatic 156, 3) := by decide +kernel
theorem dL_isSound_218 : decode cL_isSound 218 = .ok (.sipush (-400), 3) := by decide +kernel
theorem dL_isSound_221 : decode cL_isSound 221 = .ok (.if_icmp .lt 74, 3) := by decide +kernel
theorem dL_isSound_224 : decode cL_isSound 224 = .ok (.aload_n 0, 1) := by decide +kernel
theorem dL_isSound_225 : decode cL_isSound 225 = .ok (.iload 7, 2) := by decide +kernel
theorem dL_isSound_227 : decode cL_isSound 227 = .ok (.iconst 3, 1) := by decide +kernel
theorem dL_isSound_228 : decode cL_isSound 228 = .ok (.invokestatic 156, 3) := by decide +kernel
theorem dL_isSound_231 : decode cL_isSound 231 = .ok (.ifCond .lt 64, 3) := by decide +kernel
theorem dL_isSound_234 : decode cL_isSound 234 = .ok (.aload_n 0, 1) := by decide +kernel
theorem dL_isSound_235 : decode cL_isSound 235 = .ok (.iload 7, 2) := by decide +kernel
theorem dL_isSound_237 : decode cL_isSound 237 = .ok (.iconst 2, 1) := by decide +kernel
theorem dL_isSound_238 : decode cL_isSound 238 = .ok (.invokestatic 156, 3) := by decide +kernel
theorem dL_isSound_241 : decode cL_isSound 241 = .ok (.sipush (-1002), 3) := by decide +kernel
theorem dL_isSound_244 : decode cL_isSound 244 = .ok (.if_icmp .eq 20, 3) := by decide +kernel
theorem dL_isSound_247 : decode cL_isSound 247 = .ok (.aload_n 0, 1) := by decide +kernel
theorem dL_isSound_248 : decode cL_isSound 248 = .ok (.iload 7, 2) := by decide +kernel
theorem dL_isSound_250 : decode cL_isSound 250 = .ok (.iconst 2, 1) := by decide +kernel
theorem dL_isSound_251 : decode cL_isSound 251 = .ok (.invokestatic 156, 3) := by decide +kernel
theorem dL_isSound_254 : decode cL_isSound 254 = .ok (.aload_n 0, 1) := by decide +kernel
theorem dL_isSound_255 : decode cL_isSound 255 = .ok (.iload 7, 2) := by decide +kernel
theorem dL_isSound_257 : decode cL_isSound 257 = .ok (.iconst 0, 1) := by decide +kernel
theorem dL_isSound_258 : decode cL_isSound 258 = .ok (.invokestatic 156, 3) := by decide +kernel
theorem dL_isSound_261 : decode cL_isSound 261 = .ok (.if_icmp .lt 34, 3) := by decide +kernel
theorem dL_isSound_264 : decode cL_isSound 264 = .ok (.aload_n 0, 1) := by decide +kernel
theorem dL_isSound_265 : decode cL_isSound 265 = .ok (.iload 7, 2) := by decide +kernel
theorem dL_isSound_267 : decode cL_isSound 267 = .ok (.iconst 2, 1) := by decide +kernel
theorem dL_isSound_268 : decode cL_isSound 268 = .ok (.invokestatic 156, 3) := by decide +kernel
theorem dL_isSound_271 : decode cL_isSound 271 = .ok (.sipush (-1002), 3) := by decide +kernel
theorem dL_isSound_274 : decode cL_isSound 274 = .ok (.if_icmp .eq 23, 3) := by decide +kernel
theorem dL_isSound_277 : decode cL_isSound 277 = .ok (.aload_n 0, 1) := by decide +kernel
theorem dL_isSound_278 : decode cL_isSound 278 = .ok (.iload 7, 2) := by decide +kernel
theorem dL_isSound_280 : decode cL_isSound 280 = .ok (.invokestatic 180, 3) := by decide +kernel
theorem dL_isSound_283 : decode cL_isSound 283 = .ok (.aload_n 0, 1) := by decide +kernel
theorem dL_isSound_284 : decode cL_isSound 284 = .ok (.iload 7, 2) := by decide +kernel
theorem dL_isSound_286 : decode cL_isSound 286 = .ok (.iconst 2, 1) := by decide +kernel
theorem dL_isSound_287 : decode cL_isSound 287 = .ok (.invokestatic 156, 3) := by decide +kernel
theorem dL_isSound_290 : decode cL_isSound 290 = .ok (.i2d, 1) := by decide +kernel
theorem dL_isSound_291 : decode cL_isSound 291 = .ok (.dcmp .l, 1) := by decide +kernel
theorem dL_isSound_292 : decode cL_isSound 292 = .ok (.ifCond .le 5, 3) := by decide +kernel
theorem dL_isSound_295 : decode cL_isSound 295 = .ok (.iconst 0, 1) := by decide +kernel
theorem dL_isSound_296 : decode cL_isSound 296 = .ok (.ireturn, 1) := by decide +kernel
theorem dL_isSound_297 : decode cL_isSound 297 = .ok (.iinc 7 1, 3) := by decide +kernel
theorem dL_isSound_300 : decode cL_isSound 300 = .ok (.goto (-107), 3) := by decide +kernel
theorem dL_isSound_303 : decode cL_isSound 303 = .ok (.iconst 0, 1) := by decide +kernel
theorem dL_isSound_304 : decode cL_isSound 304 = .ok (.istore 7, 2) := by decide +kernel
theorem dL_isSound_306 : decode cL_isSound 306 = .ok (.iload 7, 2) := by decide +kernel
theorem dL_isSound_308 : decode cL_isSound 308 = .ok (.iload_n 3, 1) := by decide +kernel
theorem dL_isSound_309 : decode cL_isSound 309 = .ok (.if_icmp .ge 127, 3) := by decide +kernel
theorem dL_isSound_312 : decode cL_isSound 312 = .ok (.aload_n 0, 1) := by decide +kernel
theorem dL_isSound_313 : decode cL_isSound 313 = .ok (.iload 7, 2) := by decide +kernel
theorem dL_isSound_315 : decode cL_isSound 315 = .ok (.iconst 2, 1) := by decide +kernel
theorem dL_isSound_316 : decode cL_isSound 316 = .ok (.invokestatic 169, 3) := by decide +kernel
theorem dL_isSound_319 : decode cL_isSound 319 = .ok (.istore 8, 2) := by decide +kernel
theorem dL_isSound_321 : decode cL_isSound 321 = .ok (.iconst (-1), 1) := by decide +kernel
theorem dL_isSound_322 : decode cL_isSound 322 = .ok (.istore 9, 2) := by decide +kernel
theorem dL_isSound_324 : decode cL_isSound 324 = .ok (.iconst 0, 1) := by decide +kernel
theorem dL_isSound_325 : decode cL_isSound 325 = .ok (.istore 10, 2) := by decide +kernel
theorem dL_isSound_327 : decode cL_isSound 327 = .ok (.iload 10, 2) := by decide +kernel
theorem dL_isSound_329 : decode cL_isSound 329 = .ok (.iload 8, 2) := by decide +kernel
theorem dL_isSound_331 : decode cL_isSound 331 = .ok (.if_icmp .ge 71, 3) := by decide +kernel
theorem dL_isSound_334 : decode cL_isSound 334 = .ok (.aload_n 0, 1) := by decide +kernel
theorem dL_isSound_335 : decode cL_isSound 335 = .ok (.iload 7, 2) := by decide +kernel
theorem dL_isSound_337 : decode cL_isSound 337 = .ok (.bipush 10, 2) := by decide +kernel
theorem dL_isSound_339 : decode cL_isSound 339 = .ok (.iload 10, 2) := by decide +kernel
theorem dL_isSound_341 : decode cL_isSound 341 = .ok (.iadd, 1) := by decide +kernel
theorem dL_isSound_342 : decode cL_isSound 342 = .ok (.invokestatic 169, 3) := by decide +kernel
theorem dL_isSound_345 : decode cL_isSound 345 = .ok (.istore 11, 2) := by decide +kernel
theorem dL_isSound_347 : decode cL_isSound 347 = .ok (.aload_n 0, 1) := by decide +kernel
theorem dL_isSound_348 : decode cL_isSound 348 = .ok (.iload 11, 2) := by decide +kernel
theorem dL_isSound_350 : decode cL_isSound 350 = .ok (.iconst 0, 1) := by decide +kernel
theorem dL_isSound_351 : decode cL_isSound 351 = .ok (.invokestatic 166, 3) := by decide +kernel
theorem dL_isSound_354 : decode cL_isSound 354 = .ok (.iload 9, 2) := by decide +kernel
theorem dL_isSound_356 : decode cL_isSound 356 = .ok (.if_icmp .lt 29, 3) := by decide +kernel
theorem dL_isSound_359 : decode cL_isSound 359 = .ok (.aload_n 0, 1) := by decide +kernel
theorem dL_isSound_360 : decode cL_isSound 360 = .ok (.iload 11, 2) := by decide +kernel
theorem dL_isSound_362 : decode cL_isSound 362 = .ok (.iconst 0, 1) := by decide +kernel
theorem dL_isSound_363 : decode cL_isSound 363 = .ok (.invokestatic 166, 3) := by decide +kernel
theorem dL_isSound_366 : decode cL_isSound 366 = .ok (.aload_n 2, 1) := by decide +kernel
theorem dL_isSound_367 : decode cL_isSound 367 = .ok (.iload 7, 2) := by decide +kernel
theorem dL_isSound_369 : decode cL_isSound 369 = .ok (.iaload, 1) := by decide +kernel
theorem dL_isSound_370 : decode cL_isSound 370 = .ok (.if_icmp .lt 15, 3) := by decide +kernel
theorem dL_isSound_373 : decode cL_isSound 373 = .ok (.aload_n 0, 1) := by decide +kernel
theorem dL_isSound_374 : decode cL_isSound 374 = .ok (.iload 11, 2) := by decide +kernel
theorem dL_isSound_376 : decode cL_isSound 376 = .ok (.iconst 2, 1) := by decide +kernel
theorem dL_isSound_377 : decode cL_isSound 377 = .ok (.invokestatic 166, 3) := by decide +kernel
theorem dL_isSound_380 : decode cL_isSound 380 = .ok (.bipush 114, 2) := by decide +kernel
theorem dL_isSound_382 : decode cL_isSound 382 = .ok (.if_icmp .eq 5, 3) := by decide +kernel
theorem dL_isSound_385 : decode cL_isSound 385 = .ok (.iconst 0, 1) := by decide +kernel
theorem dL_isSound_386 : decode cL_isSound 386 = .ok (.ireturn, 1) := by decide +kernel
theorem dL_isSound_387 : decode cL_isSound 387 = .ok (.aload_n 0, 1) := by decide +kernel
theorem dL_isSound_388 : decode cL_isSound 388 = .ok (.iload 11, 2) := by decide +kernel
theorem dL_isSound_390 : decode cL_isSound 390 = .ok (.iconst 0, 1) := by decide +kernel
theorem dL_isSound_391 : decode cL_isSound 391 = .ok (.invokestatic 166, 3) := by decide +kernel
theorem dL_isSound_394 : decode cL_isSound 394 = .ok (.istore 9, 2) := by decide +kernel
theorem dL_isSound_396 : decode cL_isSound 396 = .ok (.iinc 10 1, 3) := by decide +kernel
theorem dL_isSound_399 : decode cL_isSound 399 = .ok (.goto (-72), 3) := by decide +kernel
theorem dL_isSound_402 : decode cL_isSound 402 = .ok (.aload_n 0, 1) := by decide +kernel
theorem dL_isSound_403 : decode cL_isSound 403 = .ok (.iload 7, 2) := by decide +kernel
theorem dL_isSound_405 : decode cL_isSound 405 = .ok (.iconst 3, 1) := by decide +kernel
theorem dL_isSound_406 : decode cL_isSound 406 = .ok (.invokestatic 169, 3) := by decide +kernel
theorem dL_isSound_409 : decode cL_isSound 409 = .ok (.bipush 115, 2) := by decide +kernel
theorem dL_isSound_411 : decode cL_isSound 411 = .ok (.if_icmp .ne 19, 3) := by decide +kernel
theorem dL_isSound_414 : decode cL_isSound 414 = .ok (.aload_n 0, 1) := by decide +kernel
theorem dL_isSound_415 : decode cL_isSound 415 = .ok (.iload 7, 2) := by decide +kernel
theorem dL_isSound_417 : decode cL_isSound 417 = .ok (.iconst 4, 1) := by decide +kernel
theorem dL_isSound_418 : decode cL_isSound 418 = .ok (.invokestatic 169, 3) := by decide +kernel
theorem dL_isSound_421 : decode cL_isSound 421 = .ok (.aload_n 2, 1) := by decide +kernel
theorem dL_isSound_422 : decode cL_isSound 422 = .ok (.iload 7, 2) := by decide +kernel
theorem dL_isSound_424 : decode cL_isSound 424 = .ok (.iaload, 1) := by decide +kernel
theorem dL_isSound_425 : decode cL_isSound 425 = .ok (.if_icmp .ge 5, 3) := by decide +kernel
theorem dL_isSound_428 : decode cL_isSound 428 = .ok (.iconst 0, 1) := by decide +kernel
theorem dL_isSound_429 : decode cL_isSound 429 = .ok (.ireturn, 1) := by decide +kernel
theorem dL_isSound_430 : decode cL_isSound 430 = .ok (.iinc 7 1, 3) := by decide +kernel
theorem dL_isSound_433 : decode cL_isSound 433 = .ok (.goto (-127), 3) := by decide +kernel
theorem dL_isSound_436 : decode cL_isSound 436 = .ok (.iload 4, 2) := by decide +kernel
theorem dL_isSound_438 : decode cL_isSound 438 = .ok (.iload 6, 2) := by decide +kernel
theorem dL_isSound_440 : decode cL_isSound 440 = .ok (.iadd, 1) := by decide +kernel
theorem dL_isSound_441 : decode cL_isSound 441 = .ok (.bipush 8, 2) := by decide +kernel
theorem dL_isSound_443 : decode cL_isSound 443 = .ok (.iload_n 1, 1) := by decide +kernel
theorem dL_isSound_444 : decode cL_isSound 444 = .ok (.imul, 1) := by decide +kernel
theorem dL_isSound_445 : decode cL_isSound 445 = .ok (.if_icmp .ne 40, 3) := by decide +kernel
theorem dL_isSound_448 : decode cL_isSound 448 = .ok (.iload 5, 2) := by decide +kernel
theorem dL_isSound_450 : decode cL_isSound 450 = .ok (.sipush (-1001), 3) := by decide +kernel
theorem dL_isSound_453 : decode cL_isSound 453 = .ok (.if_icmp .ne 7, 3) := by decide +kernel
theorem dL_isSound_456 : decode cL_isSound 456 = .ok (.iconst 1, 1) := by decide +kernel
theorem dL_isSound_457 : decode cL_isSound 457 = .ok (.goto 4, 3) := by decide +kernel
theorem dL_isSound_460 : decode cL_isSound 460 = .ok (.iconst 0, 1) := by decide +kernel
theorem dL_isSound_461 : decode cL_isSound 461 = .ok (.iload 4, 2) := by decide +kernel
theorem dL_isSound_463 : decode cL_isSound 463 = .ok (.ifCond .ne 7, 3) := by decide +kernel
theorem dL_isSound_466 : decode cL_isSound 466 = .ok (.iconst 1, 1) := by decide +kernel
theorem dL_isSound_467 : decode cL_isSound 467 = .ok (.goto 4, 3) := by decide +kernel
theorem dL_isSound_470 : decode cL_isSound 470 = .ok (.iconst 0, 1) := by decide +kernel
theorem dL_isSound_471 : decode cL_isSound 471 = .ok (.if_icmp .ne 14, 3) := by decide +kernel
theorem dL_isSound_474 : decode cL_isSound 474 = .ok (.aload_n 0, 1) := by decide +kernel
theorem dL_isSound_475 : decode cL_isSound 475 = .ok (.invokevirtual 184, 3) := by decide +kernel
theorem dL_isSound_478 : decode cL_isSound 478 = .ok (.ifCond .eq 7, 3) := by decide +kernel
theorem dL_isSound_481 : decode cL_isSound 481 = .ok (.iconst 1, 1) := by decide +kernel
theorem dL_isSound_482 : decode cL_isSound 482 = .ok (.goto 4, 3) := by decide +kernel
theorem dL_isSound_485 : decode cL_isSound 485 = .ok (.iconst 0, 1) := by decide +kernel
theorem dL_isSound_486 : decode cL_isSound 486 = .ok (.ireturn, 1) := by decide +kernel
