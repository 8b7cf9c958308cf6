set_option maxRecDepth 20000 in
theorem ggL_pass_X7_pass : GoodIn wsL_pass wsX7_pass := goodIn_ca (goodIn_ca (goodIn_ca (goodIn_r _ [7, 8, 9, 10, 11, 12, 6, 13, 14, 15, 16, 17, 18, 19, 20, 21, 22, 23, 24, 25, 26, 27, 28, 29, 30, 31, 32, 33, 34, 35, 36, 37, 38, 39, 40, 41, 42, 43, 44, 45, 46, 47, 48, 49, 50, 51, 52, 53, 54, 55, 56, 57, 58, 59, 60, 61, 62, 63, 64, 65, 66, 67, 68, 69, 70, 71, 72, 73, 74, 75, 76, 77, 78, 79, 80, 81, 82, 83, 84, 85, 86, 87, 88, 89, 90, 91, 92, 93, 94, 95, 96, 97, 98, 99, 100, 101, 102, 103, 104, 105, 106, 107, 108, 109, 110, 111, 112, 113, 114, 115, 116, 117, 118, 119, 120, 121, 122, 123, 124, 125, 126, 127, 128, 129, 130, 131, 132, 133, 134, 135, 136, 137, 138, 139, 140, 141, 142, 143, 144, 145, 146, 147, 148, 149, 150, 151, 152, 153, 154, 155, 156, 157, 158, 159, 160, 161, 162, 163, 164, 165, 166, 167, 168, 169, 170, 171, 172, 173, 174, 175, 176, 177, 178, 179, 180, 181, 182, 183, 184, 185, 186, 187, 188, 189, 190, 191, 192, 193, 194, 195, 196, 197, 198, 199, 200, 201, 202, 203, 204, 205, 206, 207, 208, 209, 210, 211, 212, 213, 214, 215, 216, 217, 218, 219, 220, 221, 222, 223, 224, 225, 226, 227, 228, 229, 230, 231, 232, 233, 234, 235, 236, 237, 238, 239, 240, 241, 242, 243, 244, 245, 246, 247, 248, 249, 250, 251, 252, 253] (by decide +kernel) (by decide +kernel)) (goodIn_sub (fun _ h => List.mem_cons_of_mem _ (List.mem_append_left _ (List.mem_append_right _ h))) (by decide +kernel))) (goodIn_sub (fun _ h => List.mem_cons_of_mem _ (List.mem_append_right _ h)) (by decide +kernel))) (goodIn_sub (fun _ h => List.mem_cons_of_mem _ (List.mem_append_left _ (List.mem_append_left _ (List.mem_append_right _ h)))) (by decide +kernel))
set_option maxRecDepth 20000 in
theorem gL_pass_X7_pass : GoodIn wsL_pass (wsV RL 7 RX7 yX7_pass wsX7_pass) := goodIn_app (goodIn_of _ (by decide +kernel)) ggL_pass_X7_pass
theorem dL_pass_0 : decode cL_pass 0 = .ok (.aload_n 2, 1) := by decide +kernel
theorem dL_pass_1 : decode cL_pass 1 = .ok (.iconst 0, 1) := by decide +kernel
theorem dL_pass_2 : decode cL_pass 2 = .ok (.aload_n 0, 1) := by decide +kernel
theorem dL_pass_3 : decode cL_pass 3 = .ok (.iload_n 1, 1) := by decide +kernel
theorem dL_pass_4 : decode cL_pass 4 = .ok (.invokevirtual 7, 3) := by decide +kernel
theorem dL_pass_7 : decode cL_pass 7 = .ok (.i2l, 1) := by decide +kernel
theorem dL_pass_8 : decode cL_pass 8 = .ok (.lastore, 1) := by decide +kernel
theorem dL_pass_9 : decode cL_pass 9 = .ok (.goto 9, 3) := by decide +kernel
theorem dL_pass_12 : decode cL_pass 12 = .ok (.astore_n 3, 1) := by decide +kernel
theorem dL_pass_13 : decode cL_pass 13 = .ok (.iconst 1, 1) := by decide +kernel
theorem dL_pass_14 : decode cL_pass 14 = .ok (.ireturn, 1) := by decide +kernel
theorem dL_pass_15 : decode cL_pass 15 = .ok (.astore_n 3, 1) := by decide +kernel
theorem dL_pass_16 : decode cL_pass 16 = .ok (.iconst 2, 1) := by decide +kernel
theorem dL_pass_17 : decode cL_pass 17 = .ok (.ireturn, 1) := by decide +kernel
theorem dL_pass_18 : decode cL_pass 18 = .ok (.iconst 0, 1) := by decide +kernel
theorem dL_pass_19 : decode cL_pass 19 = .ok (.ireturn, 1) := by decide +kernel
set_option maxRecDepth 20000 in
theorem ggL_setOutside_X7_setOutside : GoodIn wsL_setOutside wsX7_setOutside := goodIn_ca (goodIn_r _ [6, 7, 8, 9, 5, 10, 11, 12, 13, 14, 15, 16, 17, 18, 19, 20] (by decide +kernel) (by decide +kernel)) (goodIn_sub (fun _ h => List.mem_cons_of_mem _ (List.mem_append_right _ h)) (by decide +kernel))
set_option maxRecDepth 20000 in
theorem gL_setOutside_X7_setOutside : GoodIn wsL_setOutside (wsV RL 17 RX7 yX7_setOutside wsX7_setOutside) := goodIn_app (goodIn_of _ (by decide +kernel)) ggL_setOutside_X7_setOutside
theorem dL_setOutside_0 : decode cL_setOutside 0 = .ok (.aload_n 2, 1) := by decide +kernel
theorem dL_setOutside_1 : decode cL_setOutside 1 = .ok (.iconst 0, 1) := by decide +kernel
theorem dL_setOutside_2 : decode cL_setOutside 2 = .ok (.aload_n 0, 1) := by decide +kernel
theorem dL_setOutside_3 : decode cL_setOutside 3 = .ok (.iload_n 1, 1) := by decide +kernel
theorem dL_setOutside_4 : decode cL_setOutside 4 = .ok (.invokevirtual 17, 3) := by decide +kernel
theorem dL_setOutside_7 : decode cL_setOutside 7 = .ok (.i2l, 1) := by decide +kernel
theorem dL_setOutside_8 : decode cL_setOutside 8 = .ok (.lastore, 1) := by decide +kernel
theorem dL_setOutside_9 : decode cL_setOutside 9 = .ok (.goto 6, 3) := by decide +kernel
theorem dL_setOutside_12 : decode cL_setOutside 12 = .ok (.astore_n 3, 1) := by decide +kernel
theorem dL_setOutside_13 : decode cL_setOutside 13 = .ok (.iconst 1, 1) := by decide +kernel
theorem dL_setOutside_14 : decode cL_setOutside 14 = .ok (.ireturn, 1) := by decide +kernel
theorem dL_setOutside_15 : decode cL_setOutside 15 = .ok (.iconst 0, 1) := by decide +kernel
theorem dL_setOutside_16 : decode cL_setOutside 16 = .ok (.ireturn, 1) := by decide +kernel
set_option maxRecDepth 20000 in
theorem ggL_addRoom_X7_addRoom : GoodIn wsL_addRoom wsX7_addRoom := goodIn_ca (goodIn_ca (goodIn_r _ [7, 8, 9, 10, 11, 12, 13, 14, 15, 16, 6, 17, 18, 19, 20, 21, 22, 23, 24, 25, 26, 27, 28, 29, 30, 31, 32, 33, 34, 35, 36, 37, 38, 39, 40, 41, 42, 43, 44, 45, 46, 47, 48, 49, 50, 51, 52, 53, 54, 55, 56, 57, 58, 59, 60, 61, 62, 63, 64, 65, 66, 67, 68, 69, 70, 71, 72, 73, 74, 75, 76, 77, 78, 79, 80, 81, 82, 83, 84, 85, 86, 87, 88, 89, 90, 91, 92, 93, 94, 95, 96, 97, 98, 99, 100, 101, 102, 103, 104, 105, 106, 107, 108, 109, 110, 111, 112, 113, 114, 115, 116, 117, 118, 119, 120, 121, 122, 123, 124, 125, 126, 127, 128, 129, 130, 131] (by decide +kernel) (by decide +kernel)) (goodIn_sub (fun _ h => List.mem_cons_of_mem _ (List.mem_append_left _ (List.mem_append_right _ h))) (by decide +kernel))) (goodIn_sub (fun _ h => List.mem_cons_of_mem _ (List.mem_append_right _ h)) (by decide +kernel))
set_option maxRecDepth 20000 in
theorem gL_addRoom_X7_addRoom : GoodIn wsL_addRoom (wsV RL 20 RX7 yX7_addRoom wsX7_addRoom) := goodIn_app (goodIn_of _ (by decide +kernel)) ggL_addRoom_X7_addRoom
theorem dL_addRoom_0 : decode cL_addRoom 0 = .ok (.aload 4, 2) := by decide +kernel
theorem dL_addRoom_2 : decode cL_addRoom 2 = .ok (.iconst 0, 1) := by decide +kernel
theorem dL_addRoom_3 : decode cL_addRoom 3 = .ok (.aload_n 0, 1) := by decide +kernel
theorem dL_addRoom_4 : decode cL_addRoom 4 = .ok (.iload_n 1, 1) := by decide +kernel
theorem dL_addRoom_5 : decode cL_addRoom 5 = .ok (.iload_n 2, 1) := by decide +kernel
theorem dL_addRoom_6 : decode cL_addRoom 6 = .ok (.iload_n 3, 1) := by decide +kernel
theorem dL_addRoom_7 : decode cL_addRoom 7 = .ok (.invokevirtual 20, 3) := by decide +kernel
theorem dL_addRoom_10 : decode cL_addRoom 10 = .ok (.i2l, 1) := by decide +kernel
theorem dL_addRoom_11 : decode cL_addRoom 11 = .ok (.lastore, 1) := by decide +kernel
theorem dL_addRoom_12 : decode cL_addRoom 12 = .ok (.goto 11, 3) := by decide +kernel
theorem dL_addRoom_15 : decode cL_addRoom 15 = .ok (.astore 5, 2) := by decide +kernel
theorem dL_addRoom_17 : decode cL_addRoom 17 = .ok (.iconst 1, 1) := by decide +kernel
theorem dL_addRoom_18 : decode cL_addRoom 18 = .ok (.ireturn, 1) := by decide +kernel
theorem dL_addRoom_19 : decode cL_addRoom 19 = .ok (.astore 5, 2) := by decide +kernel
theorem dL_addRoom_21 : decode cL_addRoom 21 = .ok (.iconst 2, 1) := by decide +kernel
theorem dL_addRoom_22 : decode cL_addRoom 22 = .ok (.ireturn, 1) := by decide +kernel
theorem dL_addRoom_23 : decode cL_addRoom 23 = .ok (.iconst 0, 1) := by decide +kernel
theorem dL_addRoom_24 : decode cL_addRoom 24 = .ok (.ireturn, 1) := by decide +kernel
set_option maxRecDepth 20000 in
theorem ggL_setLimits_X7_setLimits : GoodIn wsL_setLimits wsX7_setLimits := goodIn_ca (goodIn_ca (goodIn_r _ [7, 8, 9, 10, 11, 12, 6, 13, 14, 15, 16, 17, 18, 19, 20, 21, 22, 23, 24, 25, 26, 27, 28, 29, 30, 31, 32, 33, 34, 35, 36, 37, 38, 39, 40, 41, 42, 43, 44, 45, 46, 47, 48, 49, 50, 51, 52, 53, 54, 55, 56, 57, 58, 59, 60, 61, 62, 63, 64, 65, 66, 67, 68, 69, 70, 71, 72, 73] (by decide +kernel) (by decide +kernel)) (goodIn_sub (fun _ h => List.mem_cons_of_mem _ (List.mem_append_left _ (List.mem_append_right _ h))) (by decide +kernel))) (goodIn_sub (fun _ h => List.mem_cons_of_mem _ (List.mem_append_right _ h)) (by decide +kernel))
set_option maxRecDepth 20000 in
theorem gL_setLimits_X7_setLimits : GoodIn wsL_setLimits (wsV RL 24 RX7 yX7_setLimits wsX7_setLimits) := goodIn_app (goodIn_of _ (by decide +kernel)) ggL_setLimits_X7_setLimits
theorem dL_setLimits_0 : decode cL_setLimits 0 = .ok (.aload 4, 2) := by decide +kernel
theorem dL_setLimits_2 : decode cL_setLimits 2 = .ok (.iconst 0, 1) := by decide +kernel
theorem dL_setLimits_3 : decode cL_setLimits 3 = .ok (.aload_n 0, 1) := by decide +kernel
theorem dL_setLimits_4 : decode cL_setLimits 4 = .ok (.iload_n 1, 1) := by decide +kernel
theorem dL_setLimits_5 : decode cL_setLimits 5 = .ok (.iload_n 2, 1) := by decide +kernel
theorem dL_setLimits_6 : decode cL_setLimits 6 = .ok (.iload_n 3, 1) := by decide +kernel
theorem dL_setLimits_7 : decode cL_setLimits 7 = .ok (.invokevirtual 24, 3) := by decide +kernel
theorem dL_setLimits_10 : decode cL_setLimits 10 = .ok (.i2l, 1) := by decide +kernel
theorem dL_setLimits_11 : decode cL_setLimits 11 = .ok (.lastore, 1) := by decide +kernel
theorem dL_setLimits_12 : decode cL_setLimits 12 = .ok (.goto 11, 3) := by decide +kernel
theorem dL_setLimits_15 : decode cL_setLimits 15 = .ok (.astore 5, 2) := by decide +kernel
theorem dL_setLimits_17 : decode cL_setLimits 17 = .ok (.iconst 1, 1) := by decide +kernel
theorem dL_setLimits_18 : decode cL_setLimits 18 = .ok (.ireturn, 1) := by decide +kernel
theorem dL_setLimits_19 : decode cL_setLimits 19 = .ok (.astore 5, 2) := by decide +kernel
theorem dL_setLimits_21 : decode cL_setLimits 21 = .ok (.iconst 2, 1) := by decide +kernel
theorem dL_setLimits_22 : decode cL_setLimits 22 = .ok (.ireturn, 1) := by decide +kernel
theorem dL_setLimits_23 : decode cL_setLimits 23 = .ok (.iconst 0, 1) := by decide +kernel
theorem dL_setLimits_24 : decode cL_setLimits 24 = .ok (.ireturn, 1) := by decide +kernel
set_option maxRecDepth 20000 in
theorem ggL_setMode_X7_setMode : GoodIn wsL_setMode wsX7_setMode := goodIn_ca (goodIn_ca (goodIn_r _ [7, 8, 9, 10, 11, 12, 13, 6, 14, 15, 16, 17, 18, 19, 20, 21, 22, 23, 24, 25, 26, 27, 28, 29, 30, 31, 32, 33, 34, 35, 36, 37, 38, 39, 40, 41, 42, 43, 44, 45, 46, 47, 48, 49, 50, 51, 52, 53, 54, 55, 56, 57, 58, 59, 60, 61, 62, 63, 64, 65, 66, 67, 68, 69] (by decide +kernel) (by decide +kernel)) (goodIn_sub (fun _ h => List.mem_cons_of_mem _ (List.mem_append_left _ (List.mem_append_right _ h))) (by decide +kernel))) (goodIn_sub (fun _ h => List.mem_cons_of_mem _ (List.mem_append_right _ h)) (by decide +kernel))
set_option maxRecDepth 20000 in
theorem gL_setMode_X7_setMode : GoodIn wsL_setMode (wsV RL 29 RX7 yX7_setMode wsX7_setMode) := goodIn_app (goodIn_of _ (by decide +kernel)) ggL_setMode_X7_setMode
theorem dL_setMode_0 : decode cL_setMode 0 = .ok (.aload_n 3, 1) := by decide +kernel
theorem dL_setMode_1 : decode cL_setMode 1 = .ok (.iconst 0, 1) := by decide +kernel
theorem dL_setMode_2 : decode cL_setMode 2 = .ok (.aload_n 0, 1) := by decide +kernel
theorem dL_setMode_3 : decode cL_setMode 3 = .ok (.iload_n 1, 1) := by decide +kernel
theorem dL_setMode_4 : decode cL_setMode 4 = .ok (.iload_n 2, 1) := by decide +kernel
theorem dL_setMode_5 : decode cL_setMode 5 = .ok (.invokevirtual 29, 3) := by decide +kernel
theorem dL_setMode_8 : decode cL_setMode 8 = .ok (.i2l, 1) := by decide +kernel
theorem dL_setMode_9 : decode cL_setMode 9 = .ok (.lastore, 1) := by decide +kernel
theorem dL_setMode_10 : decode cL_setMode 10 = .ok (.goto 11, 3) := by decide +kernel
theorem dL_setMode_13 : decode cL_setMode 13 = .ok (.astore 4, 2) := by decide +kernel
theorem dL_setMode_15 : decode cL_setMode 15 = .ok (.iconst 1, 1) := by decide +kernel
theorem dL_setMode_16 : decode cL_setMode 16 = .ok (.ireturn, 1) := by decide +kernel
theorem dL_setMode_17 : decode cL_setMode 17 = .ok (.astore 4, 2) := by decide +kernel
theorem dL_setMode_19 : decode cL_setMode 19 = .ok (.iconst 2, 1) := by decide +kernel
theorem dL_setMode_20 : decode cL_setMode 20 = .ok (.ireturn, 1) := by decide +kernel
theorem dL_setMode_21 : decode cL_setMode 21 = .ok (.iconst 0, 1) := by decide +kernel
theorem dL_setMode_22 : decode cL_setMode 22 = .ok (.ireturn, 1) := by decide +kernel
set_option maxRecDepth 20000 in
theorem ggL_setLead_X7_setLead : GoodIn wsL_setLead wsX7_setLead := goodIn_ca (goodIn_ca (goodIn_r _ [7, 8, 9, 10, 11, 12, 6, 13, 14, 15, 16, 17, 18, 19, 20, 21, 22, 23, 24, 25, 26, 27, 28, 29, 30, 31, 32, 33, 34, 35, 36, 37, 38, 39, 40, 41, 42, 43, 44, 45, 46, 47, 48, 49, 50, 51, 52, 53, 54, 55, 56, 57, 58, 59, 60, 61, 62, 63, 64, 65, 66, 67, 68, 69, 70, 71, 72, 73] (by decide +kernel) (by decide +kernel)) (goodIn_sub (fun _ h => List.mem_cons_of_mem _ (List.mem_append_left _ (List.mem_append_right _ h))) (by decide +kernel))) (goodIn_sub (fun _ h => List.mem_cons_of_mem _ (List.mem_append_right _ h)) (by decide +kernel))
set_option maxRecDepth 20000 in
theorem gL_setLead_X7_setLead : GoodIn wsL_setLead (wsV RL 33 RX7 yX7_setLead wsX7_setLead) := goodIn_app (goodIn_of _ (by decide +kernel)) ggL_setLead_X7_setLead
theorem dL_setLead_0 : decode cL_setLead 0 = .ok (.aload 4, 2) := by decide +kernel
theorem dL_setLead_2 : decode cL_setLead 2 = .ok (.iconst 0, 1) := by decide +kernel
theorem dL_setLead_3 : decode cL_setLead 3 = .ok (.aload_n 0, 1) := by decide +kernel
theorem dL_setLead_4 : decode cL_setLead 4 = .ok (.iload_n 1, 1) := by decide +kernel
theorem dL_setLead_5 : decode cL_setLead 5 = .ok (.iload_n 2, 1) := by decide +kernel
theorem dL_setLead_6 : decode cL_setLead 6 = .ok (.iload_n 3, 1) := by decide +kernel
theorem dL_setLead_7 : decode cL_setLead 7 = .ok (.invokevirtual 33, 3) := by decide +kernel
theorem dL_setLead_10 : decode cL_setLead 10 = .ok (.i2l, 1) := by decide +kernel
theorem dL_setLead_11 : decode cL_setLead 11 = .ok (.lastore, 1) := by decide +kernel
theorem dL_setLead_12 : decode cL_setLead 12 = .ok (.goto 11, 3) := by decide +kernel
theorem dL_setLead_15 : decode cL_setLead 15 = .ok (.astore 5, 2) := by decide +kernel
theorem dL_setLead_17 : decode cL_setLead 17 = .ok (.iconst 1, 1) := by decide +kernel
theorem dL_setLead_18 : decode cL_setLead 18 = .ok (.ireturn, 1) := by decide +kernel
theorem dL_setLead_19 : decode cL_setLead 19 = .ok (.astore 5, 2) := by decide +kernel
theorem dL_setLead_21 : decode cL_setLead 21 = .ok (.iconst 2, 1) := by decide +kernel
theorem dL_setLead_22 : decode cL_setLead 22 = .ok (.ireturn, 1) := by decide +kernel
theorem dL_setLead_23 : decode cL_setLead 23 = .ok (.iconst 0, 1) := by decide +kernel
theorem dL_setLead_24 : decode cL_setLead 24 = .ok (.ireturn, 1) := by decide +kernel
set_option maxRecDepth 20000 in
theorem ggL_temperature_X7_temperature : GoodIn wsL_temperature wsX7_temperature := goodIn_ca (goodIn_r _ [6, 7, 8, 9, 10, 5, 11, 12, 13, 14, 15, 16, 17, 18, 19, 20, 21, 22, 23, 24, 25, 26, 27, 28, 29, 30, 31, 32, 33, 34, 35, 36, 37, 38, 39, 40, 41, 42, 43, 44, 45, 46, 47, 48, 49, 50, 51, 52, 53, 54, 55, 56, 57, 58, 59, 60, 61, 62, 63, 64, 65, 66] (by decide +kernel) (by decide +kernel)) (goodIn_sub (fun _ h => List.mem_cons_of_mem _ (List.mem_append_right _ h)) (by decide +kernel))
set_option maxRecDepth 20000 in
theorem gL_temperature_X7_temperature : GoodIn wsL_temperature (wsV RL 36 RX7 yX7_temperature wsX7_temperature) := goodIn_app (goodIn_of _ (by decide +kernel)) ggL_temperature_X7_temperature
theorem dL_temperature_0 : decode cL_temperature 0 = .ok (.aload_n 2, 1) := by decide +kernel
theorem dL_temperature_1 : decode cL_temperature 1 = .ok (.iconst 0, 1) := by decide +kernel
theorem dL_temperature_2 : decode cL_temperature 2 = .ok (.aload_n 0, 1) := by decide +kernel
theorem dL_temperature_3 : decode cL_temperature 3 = .ok (.iload_n 1, 1) := by decide +kernel
theorem dL_temperature_4 : decode cL_temperature 4 = .ok (.invokevirtual 36, 3) := by decide +kernel
theorem dL_temperature_7 : decode cL_temperature 7 = .ok (.i2l, 1) := by decide +kernel
theorem dL_temperature_8 : decode cL_temperature 8 = .ok (.lastore, 1) := by decide +kernel
theorem dL_temperature_9 : decode cL_temperature 9 = .ok (.goto 6, 3) := by decide +kernel
theorem dL_temperature_12 : decode cL_temperature 12 = .ok (.astore_n 3, 1) := by decide +kernel
theorem dL_temperature_13 : decode cL_temperature 13 = .ok (.iconst 1, 1) := by decide +kernel
theorem dL_temperature_14 : decode cL_temperature 14 = .ok (.ireturn, 1) := by decide +kernel
theorem dL_temperature_15 : decode cL_temperature 15 = .ok (.iconst 0, 1) := by decide +kernel
theorem dL_temperature_16 : decode cL_temperature 16 = .ok (.ireturn, 1) := by decide +kernel
set_option maxRecDepth 20000 in
theorem ggL_isCooled_X7_isCooled : GoodIn wsL_isCooled wsX7_isCooled := goodIn_ca (goodIn_r _ [6, 7, 8, 9, 10, 5, 11, 12, 13, 14, 15, 16, 17, 18, 19, 20, 21, 22, 23, 24, 25, 26, 27, 28, 29, 30, 31, 32, 33, 34, 35, 36, 37, 38, 39, 40, 41, 42, 43, 44, 45, 46, 47, 48, 49, 50, 51, 52, 53, 54, 55, 56, 57, 58, 59, 60, 61, 62, 63, 64, 65, 66] (by decide +kernel) (by decide +kernel)) (goodIn_sub (fun _ h => List.mem_cons_of_mem _ (List.mem_append_right _ h)) (by decide +kernel))
set_option maxRecDepth 20000 in
theorem gL_isCooled_X7_isCooled : GoodIn wsL_isCooled (wsV RL 39 RX7 yX7_isCooled wsX7_isCooled) := goodIn_app (goodIn_of _ (by decide +kernel)) ggL_isCooled_X7_isCooled
theorem dL_isCooled_0 : decode cL_isCooled 0 = .ok (.aload_n 2, 1) := by decide +kernel
theorem dL_isCooled_1 : decode cL_isCooled 1 = .ok (.iconst 0, 1) := by decide +kernel
theorem dL_isCooled_2 : decode cL_isCooled 2 = .ok (.aload_n 0, 1) := by decide +kernel
theorem dL_isCooled_3 : decode cL_isCooled 3 = .ok (.iload_n 1, 1) := by decide +kernel
theorem dL_isCooled_4 : decode cL_isCooled 4 = .ok (.invokevirtual 39, 3) := by decide +kernel
theorem dL_isCooled_7 : decode cL_isCooled 7 = .ok (.ifCond .eq 7, 3) := by decide +kernel
theorem dL_isCooled_10 : decode cL_isCooled 10 = .ok (.lconst 1, 1) := by decide +kernel
theorem dL_isCooled_11 : decode cL_isCooled 11 = .ok (.goto 4, 3) := by decide +kernel
theorem dL_isCooled_14 : decode cL_isCooled 14 = .ok (.lconst 0, 1) := by decide +kernel
theorem dL_isCooled_15 : decode cL_isCooled 15 = .ok (.lastore, 1) := by decide +kernel
theorem dL_isCooled_16 : decode cL_isCooled 16 = .ok (.goto 6, 3) := by decide +kernel
theorem dL_isCooled_19 : decode cL_isCooled 19 = .ok (.astore_n 3, 1) := by decide +kernel
theorem dL_isCooled_20 : decode cL_isCooled 20 = .ok (.iconst 1, 1) := by decide +kernel
theorem dL_isCooled_21 : decode cL_isCooled 21 = .ok (.ireturn, 1) := by decide +kernel
theorem dL_isCooled_22 : decode cL_isCooled 22 = .ok (.iconst 0, 1) := by decide +kernel
theorem dL_isCooled_23 : decode cL_isCooled 23 = .ok (.ireturn, 1) := by decide +kernel
set_option maxRecDepth 20000 in
theorem ggL_warmest_X7_warmest : GoodIn wsL_warmest wsX7_warmest := goodIn_ca (goodIn_ca (goodIn_r _ [7, 8, 9, 10, 11, 12, 13, 14, 6, 15, 16, 17, 18, 19, 20, 21, 22, 23, 24, 25, 26, 27, 28, 29, 30, 31, 32, 33, 34, 35, 36, 37, 38, 39, 40, 41, 42, 43, 44, 45, 46, 47, 48, 49, 50, 51, 52, 53, 54, 55, 56, 57, 58, 59, 60, 61, 62, 63, 64, 65, 66, 67, 68, 69, 70] (by decide +kernel) (by decide +kernel)) (goodIn_sub (fun _ h => List.mem_cons_of_mem _ (List.mem_append_left _ (List.mem_append_right _ h))) (by decide +kernel))) (goodIn_sub (fun _ h => List.mem_cons_of_mem _ (List.mem_append_right _ h)) (by decide +kernel))
set_option maxRecDepth 20000 in
theorem gL_warmest_X7_warmest : GoodIn wsL_warmest (wsV RL 43 RX7 yX7_warmest wsX7_warmest) := goodIn_app (goodIn_of _ (by decide +kernel)) ggL_warmest_X7_warmest
theorem dL_warmest_0 : decode cL_warmest 0 = .ok (.aload_n 2, 1) := by decide +kernel
theorem dL_warmest_1 : decode cL_warmest 1 = .ok (.iconst 0, 1) := by decide +kernel
theorem dL_warmest_2 : decode cL_warmest 2 = .ok (.aload_n 0, 1) := by decide +kernel
theorem dL_warmest_3 : decode cL_warmest 3 = .ok (.iload_n 1, 1) := by decide +kernel
theorem dL_warmest_4 : decode cL_warmest 4 = .ok (.invokevirtual 43, 3) := by decide +kernel
theorem dL_warmest_7 : decode cL_warmest 7 = .ok (.i2l, 1) := by decide +kernel
theorem dL_warmest_8 : decode cL_warmest 8 = .ok (.lastore, 1) := by decide +kernel
theorem dL_warmest_9 : decode cL_warmest 9 = .ok (.goto 9, 3) := by decide +kernel
theorem dL_warmest_12 : decode cL_warmest 12 = .ok (.astore_n 3, 1) := by decide +kernel
theorem dL_warmest_13 : decode cL_warmest 13 = .ok (.iconst 1, 1) := by decide +kernel
theorem dL_warmest_14 : decode cL_warmest 14 = .ok (.ireturn, 1) := by decide +kernel
theorem dL_warmest_15 : decode cL_warmest 15 = .ok (.astore_n 3, 1) := by decide +kernel
theorem dL_warmest_16 : decode cL_warmest 16 = .ok (.iconst 2, 1) := by decide +kernel
theorem dL_warmest_17 : decode cL_warmest 17 = .ok (.ireturn, 1) := by decide +kernel
theorem dL_warmest_18 : decode cL_warmest 18 = .ok (.iconst 0, 1) := by decide +kernel
theorem dL_warmest_19 : decode cL_warmest 19 = .ok (.ireturn, 1) := by decide +kernel
set_option maxRecDepth 20000 in
theorem ggL_meanTemperature_X7_meanTemperature : GoodIn wsL_meanTemperature wsX7_meanTemperature := goodIn_ca (goodIn_ca (goodIn_r _ [7, 8, 9, 10, 11, 12, 13, 14, 6, 15, 16, 17, 18, 19, 20, 21, 22, 23, 24, 25, 26, 27, 28, 29, 30, 31, 32, 33, 34, 35, 36, 37, 38, 39, 40, 41, 42, 43, 44, 45, 46, 47, 48, 49, 50, 51, 52, 53, 54, 55, 56, 57, 58, 59, 60, 61, 62, 63, 64, 65, 66, 67, 68, 69, 70] (by decide +kernel) (by decide +kernel)) (goodIn_sub (fun _ h => List.mem_cons_of_mem _ (List.mem_append_left _ (List.mem_append_right _ h))) (by decide +kernel))) (goodIn_sub (fun _ h => List.mem_cons_of_mem _ (List.mem_append_right _ h)) (by decide +kernel))
set_option maxRecDepth 20000 in
theorem gL_meanTemperature_X7_meanTemperature : GoodIn wsL_meanTemperature (wsV RL 48 RX7 yX7_meanTemperature wsX7_meanTemperature) := goodIn_app (goodIn_of _ (by decide +kernel)) ggL_meanTemperature_X7_meanTemperature
theorem dL_meanTemperature_0 : decode cL_meanTemperature 0 = .ok (.aload_n 2, 1) := by decide +kernel
theorem dL_meanTemperature_1 : decode cL_meanTemperature 1 = .ok (.iconst 0, 1) := by decide +kernel
theorem dL_meanTemperature_2 : decode cL_meanTemperature 2 = .ok (.aload_n 0, 1) := by decide +kernel
theorem dL_meanTemperature_3 : decode cL_meanTemperature 3 = .ok (.iload_n 1, 1) := by decide +kernel
theorem dL_meanTemperature_4 : decode cL_meanTemperature 4 = .ok (.invokevirtual 48, 3) := by decide +kernel
theorem dL_meanTemperature_7 : decode cL_meanTemperature 7 = .ok (.dastore, 1) := by decide +kernel
theorem dL_meanTemperature_8 : decode cL_meanTemperature 8 = .ok (.goto 9, 3) := by decide +kernel
theorem dL_meanTemperature_11 : decode cL_meanTemperature 11 = .ok (.astore_n 3, 1) := by decide +kernel
theorem dL_meanTemperature_12 : decode cL_meanTemperature 12 = .ok (.iconst 1, 1) := by decide +kernel
theorem dL_meanTemperature_13 : decode cL_meanTemperature 13 = .ok (.ireturn, 1) := by decide +kernel
theorem dL_meanTemperature_14 : decode cL_meanTemperature 14 = .ok (.astore_n 3, 1) := by decide +kernel
theorem dL_meanTemperature_15 : decode cL_meanTemperature 15 = .ok (.iconst 2, 1) := by decide +kernel
theorem dL_meanTemperature_16 : decode cL_meanTemperature 16 = .ok (.ireturn, 1) := by decide +kernel
theorem dL_meanTemperature_17 : decode cL_meanTemperature 17 = .ok (.iconst 0, 1) := by decide +kernel
theorem dL_meanTemperature_18 : decode cL_meanTemperature 18 = .ok (.ireturn, 1) := by decide +kernel
set_option maxRecDepth 20000 in
theorem ggL_freeSpace_X7_freeSpace : GoodIn wsL_freeSpace wsX7_freeSpace := goodIn_ca (goodIn_r _ [6, 7, 8, 9, 5, 10, 11, 12, 13, 14, 15, 16, 17, 18, 19, 20, 21, 22, 23, 24, 25, 26, 27, 28, 29, 30, 31, 32, 33, 34, 35, 36, 37, 38, 39, 40, 41, 42, 43, 44, 45, 46, 47, 48, 49, 50, 51, 52, 53, 54, 55, 56, 57, 58, 59, 60, 61, 62, 63, 64, 65, 66, 67, 68, 69, 70, 71] (by decide +kernel) (by decide +kernel)) (goodIn_sub (fun _ h => List.mem_cons_of_mem _ (List.mem_append_right _ h)) (by decide +kernel))
set_option maxRecDepth 20000 in
theorem gL_freeSpace_X7_freeSpace : GoodIn wsL_freeSpace (wsV RL 54 RX7 yX7_freeSpace wsX7_freeSpace) := goodIn_app (goodIn_of _ (by decide +kernel)) ggL_freeSpace_X7_freeSpace
theorem dL_freeSpace_0 : decode cL_freeSpace 0 = .ok (.aload_n 2, 1) := by decide +kernel
theorem dL_freeSpace_1 : decode cL_freeSpace 1 = .ok (.iconst 0, 1) := by decide +kernel
theorem dL_freeSpace_2 : decode cL_freeSpace 2 = .ok (.aload_n 0, 1) := by decide +kernel
theorem dL_freeSpace_3 : decode cL_freeSpace 3 = .ok (.iload_n 1, 1) := by decide +kernel
theorem dL_freeSpace_4 : decode cL_freeSpace 4 = .ok (.invokevirtual 54, 3) := by decide +kernel
theorem dL_freeSpace_7 : decode cL_freeSpace 7 = .ok (.i2l, 1) := by decide +kernel
theorem dL_freeSpace_8 : decode cL_freeSpace 8 = .ok (.lastore, 1) := by decide +kernel
theorem dL_freeSpace_9 : decode cL_freeSpace 9 = .ok (.goto 6, 3) := by decide +kernel
theorem dL_freeSpace_12 : decode cL_freeSpace 12 = .ok (.astore_n 3, 1) := by decide +kernel
theorem dL_freeSpace_13 : decode cL_freeSpace 13 = .ok (.iconst 1, 1) := by decide +kernel
theorem dL_freeSpace_14 : decode cL_freeSpace 14 = .ok (.ireturn, 1) := by decide +kernel
theorem dL_freeSpace_15 : decode cL_freeSpace 15 = .ok (.iconst 0, 1) := by decide +kernel
theorem dL_freeSpace_16 : decode cL_freeSpace 16 = .ok (.ireturn, 1) := by decide +kernel
set_option maxRecDepth 20000 in
theorem ggL_setPrices_X7_setPrices : GoodIn wsL_setPrices wsX7_setPrices := goodIn_ca (goodIn_r _ [6, 7, 8, 9, 10, 11, 12, 13, 5, 14, 15, 16, 17, 18, 19, 20, 21, 22, 23, 24, 25, 26, 27, 28, 29, 30] (by decide +kernel) (by decide +kernel)) (goodIn_sub (fun _ h => List.mem_cons_of_mem _ (List.mem_append_right _ h)) (by decide +kernel))
set_option maxRecDepth 20000 in
theorem gL_setPrices_X7_setPrices : GoodIn wsL_setPrices (wsV RL 57 RX7 yX7_setPrices wsX7_setPrices) := goodIn_app (goodIn_of _ (by decide +kernel)) ggL_setPrices_X7_setPrices
theorem dL_setPrices_0 : decode cL_setPrices 0 = .ok (.aload 5, 2) := by decide +kernel
theorem dL_setPrices_2 : decode cL_setPrices 2 = .ok (.iconst 0, 1) := by decide +kernel
theorem dL_setPrices_3 : decode cL_setPrices 3 = .ok (.aload_n 0, 1) := by decide +kernel
theorem dL_setPrices_4 : decode cL_setPrices 4 = .ok (.iload_n 1, 1) := by decide +kernel
theorem dL_setPrices_5 : decode cL_setPrices 5 = .ok (.iload_n 2, 1) := by decide +kernel
theorem dL_setPrices_6 : decode cL_setPrices 6 = .ok (.iload_n 3, 1) := by decide +kernel
theorem dL_setPrices_7 : decode cL_setPrices 7 = .ok (.iload 4, 2) := by decide +kernel
theorem dL_setPrices_9 : decode cL_setPrices 9 = .ok (.invokevirtual 57, 3) := by decide +kernel
theorem dL_setPrices_12 : decode cL_setPrices 12 = .ok (.i2l, 1) := by decide +kernel
theorem dL_setPrices_13 : decode cL_setPrices 13 = .ok (.lastore, 1) := by decide +kernel
theorem dL_setPrices_14 : decode cL_setPrices 14 = .ok (.goto 7, 3) := by decide +kernel
theorem dL_setPrices_17 : decode cL_setPrices 17 = .ok (.astore 6, 2) := by decide +kernel
theorem dL_setPrices_19 : decode cL_setPrices 19 = .ok (.iconst 1, 1) := by decide +kernel
theorem dL_setPrices_20 : decode cL_setPrices 20 = .ok (.ireturn, 1) := by decide +kernel
theorem dL_setPrices_21 : decode cL_setPrices 21 = .ok (.iconst 0, 1) := by decide +kernel
theorem dL_setPrices_22 : decode cL_setPrices 22 = .ok (.ireturn, 1) := by decide +kernel
set_option maxRecDepth 20000 in
theorem ggL_setCharge_X7_setCharge : GoodIn wsL_setCharge wsX7_setCharge := goodIn_ca (goodIn_r _ [6, 7, 8, 9, 10, 5, 11, 12, 13, 14, 15, 16, 17, 18, 19, 20, 21, 22, 23, 24, 25, 26, 27] (by decide +kernel) (by decide +kernel)) (goodIn_sub (fun _ h => List.mem_cons_of_mem _ (List.mem_append_right _ h)) (by decide +kernel))
set_option maxRecDepth 20000 in
theorem gL_setCharge_X7_setCharge : GoodIn wsL_setCharge (wsV RL 61 RX7 yX7_setCharge wsX7_setCharge) := goodIn_app (goodIn_of _ (by decide +kernel)) ggL_setCharge_X7_setCharge
theorem dL_setCharge_0 : decode cL_setCharge 0 = .ok (.aload_n 2, 1) := by decide +kernel
theorem dL_setCharge_1 : decode cL_setCharge 1 = .ok (.iconst 0, 1) := by decide +kernel
theorem dL_setCharge_2 : decode cL_setCharge 2 = .ok (.aload_n 0, 1) := by decide +kernel
theorem dL_setCharge_3 : decode cL_setCharge 3 = .ok (.iload_n 1, 1) := by decide +kernel
theorem dL_setCharge_4 : decode cL_setCharge 4 = .ok (.invokevirtual 61, 3) := by decide +kernel
theorem dL_setCharge_7 : decode cL_setCharge 7 = .ok (.i2l, 1) := by decide +kernel
theorem dL_setCharge_8 : decode cL_setCharge 8 = .ok (.lastore, 1) := by decide +kernel
theorem dL_setCharge_9 : decode cL_setCharge 9 = .ok (.goto 6, 3) := by decide +kernel
theorem dL_setCharge_12 : decode cL_setCharge 12 = .ok (.astore_n 3, 1) := by decide +kernel
theorem dL_setCharge_13 : decode cL_setCharge 13 = .ok (.iconst 1, 1) := by decide +kernel
theorem dL_setCharge_14 : decode cL_setCharge 14 = .ok (.ireturn, 1) := by decide +kernel
theorem dL_setCharge_15 : decode cL_setCharge 15 = .ok (.iconst 0, 1) := by decide +kernel
theorem dL_setCharge_16 : decode cL_setCharge 16 = .ok (.ireturn, 1) := by decide +kernel
set_option maxRecDepth 20000 in
theorem ggL_setPowerLimit_X7_setPowerLimit : GoodIn wsL_setPowerLimit wsX7_setPowerLimit := goodIn_ca (goodIn_r _ [6, 7, 8, 9, 10, 5, 11, 12, 13, 14, 15, 16, 17, 18, 19, 20, 21, 22, 23, 24, 25, 26, 27] (by decide +kernel) (by decide +kernel)) (goodIn_sub (fun _ h => List.mem_cons_of_mem _ (List.mem_append_right _ h)) (by decide +kernel))
set_option maxRecDepth 20000 in
theorem gL_setPowerLimit_X7_setPowerLimit : GoodIn wsL_setPowerLimit (wsV RL 64 RX7 yX7_setPowerLimit wsX7_setPowerLimit) := goodIn_app (goodIn_of _ (by decide +kernel)) ggL_setPowerLimit_X7_setPowerLimit
theorem dL_setPowerLimit_0 : decode cL_setPowerLimit 0 = .ok (.aload_n 2, 1) := by decide +kernel
theorem dL_setPowerLimit_1 : decode cL_setPowerLimit 1 = .ok (.iconst 0, 1) := by decide +kernel
theorem dL_setPowerLimit_2 : decode cL_setPowerLimit 2 = .ok (.aload_n 0, 1) := by decide +kernel
theorem dL_setPowerLimit_3 : decode cL_setPowerLimit 3 = .ok (.iload_n 1, 1) := by decide +kernel
theorem dL_setPowerLimit_4 : decode cL_setPowerLimit 4 = .ok (.invokevirtual 64, 3) := by decide +kernel
theorem dL_setPowerLimit_7 : decode cL_setPowerLimit 7 = .ok (.i2l, 1) := by decide +kernel
theorem dL_setPowerLimit_8 : decode cL_setPowerLimit 8 = .ok (.lastore, 1) := by decide +kernel
theorem dL_setPowerLimit_9 : decode cL_setPowerLimit 9 = .ok (.goto 6, 3) := by decide +kernel
theorem dL_setPowerLimit_12 : decode cL_setPowerLimit 12 = .ok (.astore_n 3, 1) := by decide +kernel
theorem dL_setPowerLimit_13 : decode cL_setPowerLimit 13 = .ok (.iconst 1, 1) := by decide +kernel
theorem dL_setPowerLimit_14 : decode cL_setPowerLimit 14 = .ok (.ireturn, 1) := by decide +kernel
theorem dL_setPowerLimit_15 : decode cL_setPowerLimit 15 = .ok (.iconst 0, 1) := by decide +kernel
theorem dL_setPowerLimit_16 : decode cL_setPowerLimit 16 = .ok (.ireturn, 1) := by decide +kernel
set_option maxRecDepth 20000 in
theorem ggL_addKind_X7_addKind : GoodIn wsL_addKind wsX7_addKind := goodIn_ca (goodIn_ca (goodIn_r _ [7, 8, 9, 10, 11, 12, 13, 14, 15, 6, 16, 17, 18, 19, 20, 21, 22, 23, 24, 25, 26, 27, 28, 29, 30, 31, 32, 33, 34, 35, 36, 37, 38, 39, 40, 41, 42, 43, 44, 45, 46, 47, 48, 49, 50, 51, 52, 53, 54, 55, 56, 57, 58, 59, 60, 61, 62, 63, 64, 65, 66, 67, 68, 69, 70, 71, 72, 73, 74, 75, 76, 77, 78, 79, 80, 81, 82, 83, 84, 85, 86, 87, 88, 89, 90, 91, 92, 93, 94, 95, 96, 97, 98, 99, 100, 101] (by decide +kernel) (by decide +kernel)) (goodIn_sub (fun _ h => List.mem_cons_of_mem _ (List.mem_append_left _ (List.mem_append_right _ h))) (by decide +kernel))) (goodIn_sub (fun _ h => List.mem_cons_of_mem _ (List.mem_append_right _ h)) (by decide +kernel))
set_option maxRecDepth 20000 in
theorem gL_addKind_X7_addKind : GoodIn wsL_addKind (wsV RL 67 RX7 yX7_addKind wsX7_addKind) := goodIn_app (goodIn_of _ (by decide +kernel)) ggL_addKind_X7_addKind
theorem dL_addKind_0 : decode cL_addKind 0 = .ok (.aload 4, 2) := by decide +kernel
theorem dL_addKind_2 : decode cL_addKind 2 = .ok (.iconst 0, 1) := by decide +kernel
theorem dL_addKind_3 : decode cL_addKind 3 = .ok (.aload_n 0, 1) := by decide +kernel
theorem dL_addKind_4 : decode cL_addKind 4 = .ok (.iload_n 1, 1) := by decide +kernel
theorem dL_addKind_5 : decode cL_addKind 5 = .ok (.iload_n 2, 1) := by decide +kernel
theorem dL_addKind_6 : decode cL_addKind 6 = .ok (.iload_n 3, 1) := by decide +kernel
theorem dL_addKind_7 : decode cL_addKind 7 = .ok (.invokevirtual 67, 3) := by decide +kernel
theorem dL_addKind_10 : decode cL_addKind 10 = .ok (.i2l, 1) := by decide +kernel
theorem dL_addKind_11 : decode cL_addKind 11 = .ok (.lastore, 1) := by decide +kernel
theorem dL_addKind_12 : decode cL_addKind 12 = .ok (.goto 11, 3) := by decide +kernel
theorem dL_addKind_15 : decode cL_addKind 15 = .ok (.astore 5, 2) := by decide +kernel
theorem dL_addKind_17 : decode cL_addKind 17 = .ok (.iconst 1, 1) := by decide +kernel
theorem dL_addKind_18 : decode cL_addKind 18 = .ok (.ireturn, 1) := by decide +kernel
theorem dL_addKind_19 : decode cL_addKind 19 = .ok (.astore 5, 2) := by decide +kernel
theorem dL_addKind_21 : decode cL_addKind 21 = .ok (.iconst 2, 1) := by decide +kernel
theorem dL_addKind_22 : decode cL_addKind 22 = .ok (.ireturn, 1) := by decide +kernel
theorem dL_addKind_23 : decode cL_addKind 23 = .ok (.iconst 0, 1) := by decide +kernel
theorem dL_addKind_24 : decode cL_addKind 24 = .ok (.ireturn, 1) := by decide +kernel
set_option maxRecDepth 20000 in
theorem ggL_addPallet_X7_addPallet : GoodIn wsL_addPallet wsX7_addPallet := goodIn_ca (goodIn_ca (goodIn_r _ [7, 8, 9, 10, 11, 12, 13, 14, 15, 16, 17, 6, 18, 19, 20, 21, 22, 23, 24, 25, 26, 27, 28, 29, 30, 31, 32, 33, 34, 35, 36, 37, 38, 39, 40, 41, 42, 43, 44, 45, 46, 47, 48, 49, 50, 51, 52, 53, 54, 55, 56, 57, 58, 59, 60, 61, 62, 63, 64, 65, 66, 67, 68, 69, 70, 71, 72, 73, 74, 75, 76, 77, 78, 79, 80, 81, 82, 83, 84, 85, 86, 87, 88, 89, 90, 91, 92, 93, 94, 95, 96, 97, 98, 99, 100, 101, 102, 103, 104, 105, 106, 107, 108, 109, 110, 111, 112, 113, 114, 115, 116, 117, 118, 119, 120, 121, 122, 123, 124, 125, 126, 127, 128, 129, 130, 131, 132, 133, 134, 135, 136, 137, 138, 139, 140, 141, 142, 143, 144, 145, 146, 147, 148, 149, 150, 151, 152, 153, 154, 155, 156, 157, 158, 159, 160, 161, 162, 163, 164, 165] (by decide +kernel) (by decide +kernel)) (goodIn_sub (fun _ h => List.mem_cons_of_mem _ (List.mem_append_left _ (List.mem_append_right _ h))) (by decide +kernel))) (goodIn_sub (fun _ h => List.mem_cons_of_mem _ (List.mem_append_right _ h)) (by decide +kernel))
set_option maxRecDepth 20000 in
theorem gL_addPallet_X7_addPallet : GoodIn wsL_addPallet (wsV RL 70 RX7 yX7_addPallet wsX7_addPallet) := goodIn_app (goodIn_of _ (by decide +kernel)) ggL_addPallet_X7_addPallet
theorem dL_addPallet_0 : decode cL_addPallet 0 = .ok (.aload_n 3, 1) := by decide +kernel
theorem dL_addPallet_1 : decode cL_addPallet 1 = .ok (.iconst 0, 1) := by decide +kernel
theorem dL_addPallet_2 : decode cL_addPallet 2 = .ok (.aload_n 0, 1) := by decide +kernel
theorem dL_addPallet_3 : decode cL_addPallet 3 = .ok (.iload_n 1, 1) := by decide +kernel
theorem dL_addPallet_4 : decode cL_addPallet 4 = .ok (.iload_n 2, 1) := by decide +kernel
theorem dL_addPallet_5 : decode cL_addPallet 5 = .ok (.invokevirtual 70, 3) := by decide +kernel
theorem dL_addPallet_8 : decode cL_addPallet 8 = .ok (.i2l, 1) := by decide +kernel
theorem dL_addPallet_9 : decode cL_addPallet 9 = .ok (.lastore, 1) := by decide +kernel
theorem dL_addPallet_10 : decode cL_addPallet 10 = .ok (.goto 11, 3) := by decide +kernel
theorem dL_addPallet_13 : decode cL_addPallet 13 = .ok (.astore 4, 2) := by decide +kernel
theorem dL_addPallet_15 : decode cL_addPallet 15 = .ok (.iconst 1, 1) := by decide +kernel
theorem dL_addPallet_16 : decode cL_addPallet 16 = .ok (.ireturn, 1) := by decide +kernel
theorem dL_addPallet_17 : decode cL_addPallet 17 = .ok (.astore 4, 2) := by decide +kernel
theorem dL_addPallet_19 : decode cL_addPallet 19 = .ok (.iconst 2, 1) := by decide +kernel
theorem dL_addPallet_20 : decode cL_addPallet 20 = .ok (.ireturn, 1) := by decide +kernel
theorem dL_addPallet_21 : decode cL_addPallet 21 = .ok (.iconst 0, 1) := by decide +kernel
theorem dL_addPallet_22 : decode cL_addPallet 22 = .ok (.ireturn, 1) := by decide +kernel
set_option maxRecDepth 20000 in
theorem ggL_movePallet_X7_movePallet : GoodIn wsL_movePallet wsX7_movePallet := goodIn_ca (goodIn_ca (goodIn_ca (goodIn_r _ [8, 9, 10, 11, 12, 13, 14, 15, 7, 16, 17, 18, 19, 20, 21, 22, 23, 24, 25, 26, 27, 28, 29, 30, 31, 32, 33, 34, 35, 36, 37, 38, 39, 40, 41, 42, 43, 44, 45, 46, 47, 48, 49, 50, 51, 52, 53, 54, 55, 56, 57, 58, 59, 60, 61, 62, 63, 64, 65, 66, 67, 68, 69, 70, 71, 72, 73, 74, 75, 76, 77, 78, 79, 80, 81, 82, 83, 84, 85, 86, 87, 88, 89, 90, 91, 92, 93, 94, 95, 96, 97, 98, 99, 100, 101, 102, 103, 104, 105, 106, 107, 108, 109, 110, 111, 112, 113, 114, 115, 116, 117, 118, 119, 120, 121, 122, 123, 124, 125, 126] (by decide +kernel) (by decide +kernel)) (goodIn_sub (fun _ h => List.mem_cons_of_mem _ (List.mem_append_left _ (List.mem_append_left _ (List.mem_append_right _ h)))) (by decide +kernel))) (goodIn_sub (fun _ h => List.mem_cons_of_mem _ (List.mem_append_left _ (List.mem_append_right _ h))) (by decide +kernel))) (goodIn_sub (fun _ h => List.mem_cons_of_mem _ (List.mem_append_right _ h)) (by decide +kernel))
set_option maxRecDepth 20000 in
theorem gL_movePallet_X7_movePallet : GoodIn wsL_movePallet (wsV RL 74 RX7 yX7_movePallet wsX7_movePallet) := goodIn_app (goodIn_of _ (by decide +kernel)) ggL_movePallet_X7_movePallet
theorem dL_movePallet_0 : decode cL_movePallet 0 = .ok (.aload_n 3, 1) := by decide +kernel
theorem dL_movePallet_1 : decode cL_movePallet 1 = .ok (.iconst 0, 1) := by decide +kernel
theorem dL_movePallet_2 : decode cL_movePallet 2 = .ok (.aload_n 0, 1) := by decide +kernel
theorem dL_movePallet_3 : decode cL_movePallet 3 = .ok (.iload_n 1, 1) := by decide +kernel
theorem dL_movePallet_4 : decode cL_movePallet 4 = .ok (.iload_n 2, 1) := by decide +kernel
theorem dL_movePallet_5 : decode cL_movePallet 5 = .ok (.invokevirtual 74, 3) := by decide +kernel
theorem dL_movePallet_8 : decode cL_movePallet 8 = .ok (.i2l, 1) := by decide +kernel
theorem dL_movePallet_9 : decode cL_movePallet 9 = .ok (.lastore, 1) := by decide +kernel
theorem dL_movePallet_10 : decode cL_movePallet 10 = .ok (.goto 15, 3) := by decide +kernel
theorem dL_movePallet_13 : decode cL_movePallet 13 = .ok (.astore 4, 2) := by decide +kernel
theorem dL_movePallet_15 : decode cL_movePallet 15 = .ok (.iconst 1, 1) := by decide +kernel
theorem dL_movePallet_16 : decode cL_movePallet 16 = .ok (.ireturn, 1) := by decide +kernel
theorem dL_movePallet_17 : decode cL_movePallet 17 = .ok (.astore 4, 2) := by decide +kernel
theorem dL_movePallet_19 : decode cL_movePallet 19 = .ok (.iconst 2, 1) := by decide +kernel
theorem dL_movePallet_20 : decode cL_movePallet 20 = .ok (.ireturn, 1) := by decide +kernel
theorem dL_movePallet_21 : decode cL_movePallet 21 = .ok (.astore 4, 2) := by decide +kernel
theorem dL_movePallet_23 : decode cL_movePallet 23 = .ok (.iconst 3, 1) := by decide +kernel
theorem dL_movePallet_24 : decode cL_movePallet 24 = .ok (.ireturn, 1) := by decide +kernel
theorem dL_movePallet_25 : decode cL_movePallet 25 = .ok (.iconst 0, 1) := by decide +kernel
theorem dL_movePallet_26 : decode cL_movePallet 26 = .ok (.ireturn, 1) := by decide +kernel
set_option maxRecDepth 20000 in
theorem ggL_scrap_X7_scrap : GoodIn wsL_scrap wsX7_scrap := goodIn_ca (goodIn_ca (goodIn_r _ [7, 8, 9, 10, 11, 12, 6, 13, 14, 15, 16, 17, 18, 19, 20, 21, 22, 23, 24, 25, 26, 27, 28, 29, 30, 31, 32, 33, 34, 35, 36, 37, 38, 39, 40, 41, 42, 43, 44, 45, 46, 47, 48, 49, 50, 51, 52, 53, 54, 55, 56, 57, 58, 59, 60, 61, 62, 63, 64, 65, 66, 67, 68, 69, 70, 71, 72, 73] (by decide +kernel) (by decide +kernel)) (goodIn_sub (fun _ h => List.mem_cons_of_mem _ (List.mem_append_left _ (List.mem_append_right _ h))) (by decide +kernel))) (goodIn_sub (fun _ h => List.mem_cons_of_mem _ (List.mem_append_right _ h)) (by decide +kernel))
set_option maxRecDepth 20000 in
theorem gL_scrap_X7_scrap : GoodIn wsL_scrap (wsV RL 77 RX7 yX7_scrap wsX7_scrap) := goodIn_app (goodIn_of _ (by decide +kernel)) ggL_scrap_X7_scrap
theorem dL_scrap_0 : decode cL_scrap 0 = .ok (.aload_n 2, 1) := by decide +kernel
theorem dL_scrap_1 : decode cL_scrap 1 = .ok (.iconst 0, 1) := by decide +kernel
theorem dL_scrap_2 : decode cL_scrap 2 = .ok (.aload_n 0, 1) := by decide +kernel
theorem dL_scrap_3 : decode cL_scrap 3 = .ok (.iload_n 1, 1) := by decide +kernel
theorem dL_scrap_4 : decode cL_scrap 4 = .ok (.invokevirtual 77, 3) := by decide +kernel
theorem dL_scrap_7 : decode cL_scrap 7 = .ok (.i2l, 1) := by decide +kernel
theorem dL_scrap_8 : decode cL_scrap 8 = .ok (.lastore, 1) := by decide +kernel
theorem dL_scrap_9 : decode cL_scrap 9 = .ok (.goto 9, 3) := by decide +kernel
theorem dL_scrap_12 : decode cL_scrap 12 = .ok (.astore_n 3, 1) := by decide +kernel
theorem dL_scrap_13 : decode cL_scrap 13 = .ok (.iconst 1, 1) := by decide +kernel
theorem dL_scrap_14 : decode cL_scrap 14 = .ok (.ireturn, 1) := by decide +kernel
theorem dL_scrap_15 : decode cL_scrap 15 = .ok (.astore_n 3, 1) := by decide +kernel
theorem dL_scrap_16 : decode cL_scrap 16 = .ok (.iconst 2, 1) := by decide +kernel
theorem dL_scrap_17 : decode cL_scrap 17 = .ok (.ireturn, 1) := by decide +kernel
theorem dL_scrap_18 : decode cL_scrap 18 = .ok (.iconst 0, 1) := by decide +kernel
theorem dL_scrap_19 : decode cL_scrap 19 = .ok (.ireturn, 1) := by decide +kernel
set_option maxRecDepth 20000 in
theorem ggL_state_X7_state : GoodIn wsL_state wsX7_state := goodIn_ca (goodIn_r _ [6, 7, 8, 9, 10, 5, 11, 12, 13, 14, 15, 16, 17, 18, 19, 20, 21, 22, 23, 24, 25, 26, 27, 28, 29, 30, 31, 32, 33, 34, 35, 36, 37, 38, 39, 40, 41, 42, 43, 44, 45, 46, 47, 48, 49, 50, 51, 52, 53, 54, 55] (by decide +kernel) (by decide +kernel)) (goodIn_sub (fun _ h => List.mem_cons_of_mem _ (List.mem_append_right _ h)) (by decide +kernel))
set_option maxRecDepth 20000 in
theorem gL_state_X7_state : GoodIn wsL_state (wsV RL 80 RX7 yX7_state wsX7_state) := goodIn_app (goodIn_of _ (by decide +kernel)) ggL_state_X7_state
theorem dL_state_0 : decode cL_state 0 = .ok (.aload_n 2, 1) := by decide +kernel
theorem dL_state_1 : decode cL_state 1 = .ok (.iconst 0, 1) := by decide +kernel
theorem dL_state_2 : decode cL_state 2 = .ok (.aload_n 0, 1) := by decide +kernel
theorem dL_state_3 : decode cL_state 3 = .ok (.iload_n 1, 1) := by decide +kernel
theorem dL_state_4 : decode cL_state 4 = .ok (.invokevirtual 80, 3) := by decide +kernel
theorem dL_state_7 : decode cL_state 7 = .ok (.i2l, 1) := by decide +kernel
theorem dL_state_8 : decode cL_state 8 = .ok (.lastore, 1) := by decide +kernel
theorem dL_state_9 : decode cL_state 9 = .ok (.goto 6, 3) := by decide +kernel
theorem dL_state_12 : decode cL_state 12 = .ok (.astore_n 3, 1) := by decide +kernel
theorem dL_state_13 : decode cL_state 13 = .ok (.iconst 1, 1) := by decide +kernel
theorem dL_state_14 : decode cL_state 14 = .ok (.ireturn, 1) := by decide +kernel
theorem dL_state_15 : decode cL_state 15 = .ok (.iconst 0, 1) := by decide +kernel
theorem dL_state_16 : decode cL_state 16 = .ok (.ireturn, 1) := by decide +kernel
set_option maxRecDepth 20000 in
theorem ggL_roomOf_X7_roomOf : GoodIn wsL_roomOf wsX7_roomOf := goodIn_ca (goodIn_ca (goodIn_r _ [7, 8, 9, 10, 11, 12, 13, 6, 14, 15, 16, 17, 18, 19, 20, 21, 22, 23, 24, 25, 26, 27, 28, 29, 30, 31, 32, 33, 34, 35, 36, 37, 38, 39, 40, 41, 42, 43, 44, 45, 46, 47, 48, 49, 50, 51, 52, 53, 54, 55, 56, 57, 58, 59, 60, 61, 62, 63, 64, 65, 66, 67, 68, 69, 70, 71, 72, 73, 74, 75, 76, 77, 78, 79, 80, 81, 82, 83, 84, 85, 86, 87, 88, 89] (by decide +kernel) (by decide +kernel)) (goodIn_sub (fun _ h => List.mem_cons_of_mem _ (List.mem_append_left _ (List.mem_append_right _ h))) (by decide +kernel))) (goodIn_sub (fun _ h => List.mem_cons_of_mem _ (List.mem_append_right _ h)) (by decide +kernel))
set_option maxRecDepth 20000 in
theorem gL_roomOf_X7_roomOf : GoodIn wsL_roomOf (wsV RL 84 RX7 yX7_roomOf wsX7_roomOf) := goodIn_app (goodIn_of _ (by decide +kernel)) ggL_roomOf_X7_roomOf
theorem dL_roomOf_0 : decode cL_roomOf 0 = .ok (.aload_n 2, 1) := by decide +kernel
theorem dL_roomOf_1 : decode cL_roomOf 1 = .ok (.iconst 0, 1) := by decide +kernel
theorem dL_roomOf_2 : decode cL_roomOf 2 = .ok (.aload_n 0, 1) := by decide +kernel
theorem dL_roomOf_3 : decode cL_roomOf 3 = .ok (.iload_n 1, 1) := by decide +kernel
theorem dL_roomOf_4 : decode cL_roomOf 4 = .ok (.invokevirtual 84, 3) := by decide +kernel
theorem dL_roomOf_7 : decode cL_roomOf 7 = .ok (.i2l, 1) := by decide +kernel
theorem dL_roomOf_8 : decode cL_roomOf 8 = .ok (.lastore, 1) := by decide +kernel
theorem dL_roomOf_9 : decode cL_roomOf 9 = .ok (.goto 9, 3) := by decide +kernel
theorem dL_roomOf_12 : decode cL_roomOf 12 = .ok (.astore_n 3, 1) := by decide +kernel
theorem dL_roomOf_13 : decode cL_roomOf 13 = .ok (.iconst 1, 1) := by decide +kernel
theorem dL_roomOf_14 : decode cL_roomOf 14 = .ok (.ireturn, 1) := by decide +kernel
theorem dL_roomOf_15 : decode cL_roomOf 15 = .ok (.astore_n 3, 1) := by decide +kernel
theorem dL_roomOf_16 : decode cL_roomOf 16 = .ok (.iconst 2, 1) := by decide +kernel
theorem dL_roomOf_17 : decode cL_roomOf 17 = .ok (.ireturn, 1) := by decide +kernel
theorem dL_roomOf_18 : decode cL_roomOf 18 = .ok (.iconst 0, 1) := by decide +kernel
theorem dL_roomOf_19 : decode cL_roomOf 19 = .ok (.ireturn, 1) := by decide +kernel
set_option maxRecDepth 20000 in
theorem ggL_life_X7_life : GoodIn wsL_life wsX7_life := goodIn_ca (goodIn_r _ [6, 7, 8, 9, 10, 5, 11, 12, 13, 14, 15, 16, 17, 18, 19, 20, 21, 22, 23, 24, 25, 26, 27, 28, 29, 30, 31, 32, 33, 34, 35, 36, 37, 38, 39, 40, 41, 42, 43, 44, 45, 46, 47, 48, 49, 50, 51, 52, 53, 54, 55] (by decide +kernel) (by decide +kernel)) (goodIn_sub (fun _ h => List.mem_cons_of_mem _ (List.mem_append_right _ h)) (by decide +kernel))
set_option maxRecDepth 20000 in
theorem gL_life_X7_life : GoodIn wsL_life (wsV RL 87 RX7 yX7_life wsX7_life) := goodIn_app (goodIn_of _ (by decide +kernel)) ggL_life_X7_life
theorem dL_life_0 : decode cL_life 0 = .ok (.aload_n 2, 1) := by decide +kernel
theorem dL_life_1 : decode cL_life 1 = .ok (.iconst 0, 1) := by decide +kernel
theorem dL_life_2 : decode cL_life 2 = .ok (.aload_n 0, 1) := by decide +kernel
theorem dL_life_3 : decode cL_life 3 = .ok (.iload_n 1, 1) := by decide +kernel
theorem dL_life_4 : decode cL_life 4 = .ok (.invokevirtual 87, 3) := by decide +kernel
theorem dL_life_7 : decode cL_life 7 = .ok (.i2l, 1) := by decide +kernel
theorem dL_life_8 : decode cL_life 8 = .ok (.lastore, 1) := by decide +kernel
theorem dL_life_9 : decode cL_life 9 = .ok (.goto 6, 3) := by decide +kernel
theorem dL_life_12 : decode cL_life 12 = .ok (.astore_n 3, 1) := by decide +kernel
theorem dL_life_13 : decode cL_life 13 = .ok (.iconst 1, 1) := by decide +kernel
theorem dL_life_14 : decode cL_life 14 = .ok (.ireturn, 1) := by decide +kernel
theorem dL_life_15 : decode cL_life 15 = .ok (.iconst 0, 1) := by decide +kernel
theorem dL_life_16 : decode cL_life 16 = .ok (.ireturn, 1) := by decide +kernel
set_option maxRecDepth 20000 in
theorem ggL_lifeByRecords_X7_lifeByRecords : GoodIn wsL_lifeByRecords wsX7_lifeByRecords := goodIn_ca (goodIn_ca (goodIn_r _ [6, 7, 8, 9, 10, 5, 11, 12, 13, 14, 15, 16, 17, 18, 19, 20, 21, 22, 23, 24, 25, 26, 27, 28, 29, 30, 31, 32, 33, 34, 35, 36, 37, 38, 39, 40, 41, 42, 43, 44, 45, 46, 47, 48, 49, 50, 51, 52, 53, 54, 55, 56, 57, 58, 59, 60, 61, 62, 63, 64, 65, 66, 67, 68, 69, 70, 71, 72, 73, 74, 75, 76, 77, 78, 79, 80, 81, 82, 83, 84, 85, 86, 87, 88, 89, 90, 91, 92, 93, 94, 95, 96, 97, 98, 99, 100, 101, 102, 103, 104, 105, 106, 107, 108, 109, 110, 111, 112, 113] (by decide +kernel) (by decide +kernel)) (goodIn_sub (fun _ h => List.mem_cons_of_mem _ (List.mem_append_right _ h)) (by decide +kernel))) (goodIn_sub (fun _ h => List.mem_cons_of_mem _ (List.mem_append_left _ (List.mem_append_right _ h))) (by decide +kernel))
set_option maxRecDepth 20000 in
theorem gL_lifeByRecords_X7_lifeByRecords : GoodIn wsL_lifeByRecords (wsV RL 90 RX7 yX7_lifeByRecords wsX7_lifeByRecords) := goodIn_app (goodIn_of _ (by decide +kernel)) ggL_lifeByRecords_X7_lifeByRecords
theorem dL_lifeByRecords_0 : decode cL_lifeByRecords 0 = .ok (.aload_n 2, 1) := by decide +kernel
theorem dL_lifeByRecords_1 : decode cL_lifeByRecords 1 = .ok (.iconst 0, 1) := by decide +kernel
theorem dL_lifeByRecords_2 : decode cL_lifeByRecords 2 = .ok (.aload_n 0, 1) := by decide +kernel
theorem dL_lifeByRecords_3 : decode cL_lifeByRecords 3 = .ok (.iload_n 1, 1) := by decide +kernel
theorem dL_lifeByRecords_4 : decode cL_lifeByRecords 4 = .ok (.invokevirtual 90, 3) := by decide +kernel
theorem dL_lifeByRecords_7 : decode cL_lifeByRecords 7 = .ok (.i2l, 1) := by decide +kernel
theorem dL_lifeByRecords_8 : decode cL_lifeByRecords 8 = .ok (.lastore, 1) := by decide +kernel
theorem dL_lifeByRecords_9 : decode cL_lifeByRecords 9 = .ok (.goto 6, 3) := by decide +kernel
theorem dL_lifeByRecords_12 : decode cL_lifeByRecords 12 = .ok (.astore_n 3, 1) := by decide +kernel
theorem dL_lifeByRecords_13 : decode cL_lifeByRecords 13 = .ok (.iconst 1, 1) := by decide +kernel
theorem dL_lifeByRecords_14 : decode cL_lifeByRecords 14 = .ok (.ireturn, 1) := by decide +kernel
theorem dL_lifeByRecords_15 : decode cL_lifeByRecords 15 = .ok (.iconst 0, 1) := by decide +kernel
theorem dL_lifeByRecords_16 : decode cL_lifeByRecords 16 = .ok (.ireturn, 1) := by decide +kernel
set_option maxRecDepth 20000 in
theorem ggL_forecast_X7_forecast : GoodIn wsL_forecast wsX7_forecast := goodIn_ca (goodIn_ca (goodIn_ca (goodIn_r _ [8, 9, 10, 11, 12, 13, 14, 15, 16, 17, 18, 19, 20, 7, 21, 22, 23, 24, 25, 26, 27, 28, 29, 30, 31, 32, 33, 34, 35, 36, 37, 38, 39, 40, 41, 42, 43, 44, 45, 46, 47, 48, 49, 50, 51, 52, 53, 54, 55, 56, 57, 58, 59, 60, 61, 62, 63, 64, 65, 66, 67, 68, 69, 70, 71, 72, 73, 74, 75, 76, 77, 78, 79, 80, 81, 82, 83, 84, 85, 86, 87, 88, 89, 90, 91, 92, 93, 94, 95, 96, 97, 98, 99, 100, 101, 102, 103, 104, 105, 106, 107, 108, 109, 110, 111] (by decide +kernel) (by decide +kernel)) (goodIn_sub (fun _ h => List.mem_cons_of_mem _ (List.mem_append_left _ (List.mem_append_left _ (List.mem_append_right _ h)))) (by decide +kernel))) (goodIn_sub (fun _ h => List.mem_cons_of_mem _ (List.mem_append_left _ (List.mem_append_right _ h))) (by decide +kernel))) (goodIn_sub (fun _ h => List.mem_cons_of_mem _ (List.mem_append_right _ h)) (by decide +kernel))
set_option maxRecDepth 20000 in
theorem gL_forecast_X7_forecast : GoodIn wsL_forecast (wsV RL 93 RX7 yX7_forecast wsX7_forecast) := goodIn_app (goodIn_of _ (by decide +kernel)) ggL_forecast_X7_forecast
theorem dL_forecast_0 : decode cL_forecast 0 = .ok (.aload_n 3, 1) := by decide +kernel
theorem dL_forecast_1 : decode cL_forecast 1 = .ok (.iconst 0, 1) := by decide +kernel
theorem dL_forecast_2 : decode cL_forecast 2 = .ok (.aload_n 0, 1) := by decide +kernel
theorem dL_forecast_3 : decode cL_forecast 3 = .ok (.iload_n 1, 1) := by decide +kernel
theorem dL_forecast_4 : decode cL_forecast 4 = .ok (.iload_n 2, 1) := by decide +kernel
theorem dL_forecast_5 : decode cL_forecast 5 = .ok (.invokevirtual 93, 3) := by decide +kernel
theorem dL_forecast_8 : decode cL_forecast 8 = .ok (.i2l, 1) := by decide +kernel
theorem dL_forecast_9 : decode cL_forecast 9 = .ok (.lastore, 1) := by decide +kernel
theorem dL_forecast_10 : decode cL_forecast 10 = .ok (.goto 15, 3) := by decide +kernel
theorem dL_forecast_13 : decode cL_forecast 13 = .ok (.astore 4, 2) := by decide +kernel
theorem dL_forecast_15 : decode cL_forecast 15 = .ok (.iconst 1, 1) := by decide +kernel
theorem dL_forecast_16 : decode cL_forecast 16 = .ok (.ireturn, 1) := by decide +kernel
theorem dL_forecast_17 : decode cL_forecast 17 = .ok (.astore 4, 2) := by decide +kernel
theorem dL_forecast_19 : decode cL_forecast 19 = .ok (.iconst 2, 1) := by decide +kernel
theorem dL_forecast_20 : decode cL_forecast 20 = .ok (.ireturn, 1) := by decide +kernel
theorem dL_forecast_21 : decode cL_forecast 21 = .ok (.astore 4, 2) := by decide +kernel
theorem dL_forecast_23 : decode cL_forecast 23 = .ok (.iconst 3, 1) := by decide +kernel
theorem dL_forecast_24 : decode cL_forecast 24 = .ok (.ireturn, 1) := by decide +kernel
theorem dL_forecast_25 : decode cL_forecast 25 = .ok (.iconst 0, 1) := by decide +kernel
theorem dL_forecast_26 : decode cL_forecast 26 = .ok (.ireturn, 1) := by decide +kernel
set_option maxRecDepth 20000 in
theorem ggL_soonest_X7_soonest : GoodIn wsL_soonest wsX7_soonest := goodIn_ca (goodIn_r _ [6, 7, 8, 9, 10, 11, 12, 13, 14, 15, 16, 17, 18, 19, 20, 21, 22, 23, 24, 25, 26, 27, 28, 29, 30, 31, 32, 33, 34, 35, 36, 37, 38, 39, 40, 41, 42, 43, 44, 45, 46, 47, 48, 49, 50, 51, 52, 53, 54, 55, 56, 57, 58, 59, 60, 61, 62, 63] (by decide +kernel) (by decide +kernel)) (goodIn_sub (fun _ h => List.mem_cons_of_mem _ (List.mem_append_right _ h)) (by decide +kernel))
set_option maxRecDepth 20000 in
theorem gL_soonest_X7_soonest : GoodIn wsL_soonest (wsV RL 96 RX7 yX7_soonest wsX7_soonest) := goodIn_app (goodIn_of _ (by decide +kernel)) ggL_soonest_X7_soonest
theorem dL_soonest_0 : decode cL_soonest 0 = .ok (.aload_n 1, 1) := by decide +kernel
theorem dL_soonest_1 : decode cL_soonest 1 = .ok (.iconst 0, 1) := by decide +kernel
theorem dL_soonest_2 : decode cL_soonest 2 = .ok (.aload_n 0, 1) := by decide +kernel
theorem dL_soonest_3 : decode cL_soonest 3 = .ok (.invokevirtual 96, 3) := by decide +kernel
theorem dL_soonest_6 : decode cL_soonest 6 = .ok (.i2l, 1) := by decide +kernel
theorem dL_soonest_7 : decode cL_soonest 7 = .ok (.lastore, 1) := by decide +kernel
theorem dL_soonest_8 : decode cL_soonest 8 = .ok (.goto 6, 3) := by decide +kernel
theorem dL_soonest_11 : decode cL_soonest 11 = .ok (.astore_n 2, 1) := by decide +kernel
theorem dL_soonest_12 : decode cL_soonest 12 = .ok (.iconst 1, 1) := by decide +kernel
theorem dL_soonest_13 : decode cL_soonest 13 = .ok (.ireturn, 1) := by decide +kernel
theorem dL_soonest_14 : decode cL_soonest 14 = .ok (.iconst 0, 1) := by decide +kernel
theorem dL_soonest_15 : decode cL_soonest 15 = .ok (.ireturn, 1) := by decide +kernel
set_option maxRecDepth 20000 in
theorem ggL_lostShare_X7_lostShare : GoodIn wsL_lostShare wsX7_lostShare := goodIn_ca (goodIn_r _ [6, 7, 8, 9, 10, 11, 12, 13, 14, 15, 16, 17, 18, 19, 20, 21, 22, 23, 24, 25, 26, 27, 28, 29, 30, 31, 32, 33, 34, 35, 36, 37, 38, 39, 40, 41, 42, 43, 44, 45, 46, 47, 48, 49, 50, 51, 52, 53, 54, 55, 56] (by decide +kernel) (by decide +kernel)) (goodIn_sub (fun _ h => List.mem_cons_of_mem _ (List.mem_append_right _ h)) (by decide +kernel))
set_option maxRecDepth 20000 in
theorem gL_lostShare_X7_lostShare : GoodIn wsL_lostShare (wsV RL 100 RX7 yX7_lostShare wsX7_lostShare) := goodIn_app (goodIn_of _ (by decide +kernel)) ggL_lostShare_X7_lostShare
theorem dL_lostShare_0 : decode cL_lostShare 0 = .ok (.aload_n 1, 1) := by decide +kernel
theorem dL_lostShare_1 : decode cL_lostShare 1 = .ok (.iconst 0, 1) := by decide +kernel
theorem dL_lostShare_2 : decode cL_lostShare 2 = .ok (.aload_n 0, 1) := by decide +kernel
theorem dL_lostShare_3 : decode cL_lostShare 3 = .ok (.invokevirtual 100, 3) := by decide +kernel
theorem dL_lostShare_6 : decode cL_lostShare 6 = .ok (.f2d, 1) := by decide +kernel
theorem dL_lostShare_7 : decode cL_lostShare 7 = .ok (.dastore, 1) := by decide +kernel
theorem dL_lostShare_8 : decode cL_lostShare 8 = .ok (.goto 6, 3) := by decide +kernel
theorem dL_lostShare_11 : decode cL_lostShare 11 = .ok (.astore_n 2, 1) := by decide +kernel
theorem dL_lostShare_12 : decode cL_lostShare 12 = .ok (.iconst 1, 1) := by decide +kernel
theorem dL_lostShare_13 : decode cL_lostShare 13 = .ok (.ireturn, 1) := by decide +kernel
theorem dL_lostShare_14 : decode cL_lostShare 14 = .ok (.iconst 0, 1) := by decide +kernel
theorem dL_lostShare_15 : decode cL_lostShare 15 = .ok (.ireturn, 1) := by decide +kernel
set_option maxRecDepth 20000 in
theorem ggL_order_X7_order : GoodIn wsL_order wsX7_order := goodIn_ca (goodIn_ca (goodIn_ca (goodIn_r _ [8, 9, 10, 11, 12, 13, 14, 15, 16, 17, 18, 7, 19, 20, 21, 22, 23, 24, 25, 26, 27, 28, 29, 30, 31, 32, 33, 34, 35, 36, 37, 38, 39, 40, 41, 42, 43, 44, 45, 46, 47, 48, 49, 50, 51, 52, 53, 54, 55, 56, 57, 58, 59, 60, 61, 62, 63, 64, 65, 66, 67, 68, 69, 70, 71, 72, 73, 74, 75, 76, 77, 78, 79, 80, 81, 82, 83, 84, 85, 86, 87, 88, 89, 90, 91, 92, 93, 94, 95, 96, 97, 98, 99, 100, 101, 102, 103, 104, 105, 106, 107, 108, 109, 110, 111, 112, 113, 114, 115, 116, 117, 118, 119, 120, 121, 122, 123, 124, 125, 126, 127, 128, 129, 130, 131, 132, 133] (by decide +kernel) (by decide +kernel)) (goodIn_sub (fun _ h => List.mem_cons_of_mem _ (List.mem_append_left _ (List.mem_append_left _ (List.mem_append_right _ h)))) (by decide +kernel))) (goodIn_sub (fun _ h => List.mem_cons_of_mem _ (List.mem_append_left _ (List.mem_append_right _ h))) (by decide +kernel))) (goodIn_sub (fun _ h => List.mem_cons_of_mem _ (List.mem_append_right _ h)) (by decide +kernel))
set_option maxRecDepth 20000 in
theorem gL_order_X7_order : GoodIn wsL_order (wsV RL 104 RX7 yX7_order wsX7_order) := goodIn_app (goodIn_of _ (by decide +kernel)) ggL_order_X7_order
theorem dL_order_0 : decode cL_order 0 = .ok (.aload 5, 2) := by decide +kernel
theorem dL_order_2 : decode cL_order 2 = .ok (.iconst 0, 1) := by decide +kernel
theorem dL_order_3 : decode cL_order 3 = .ok (.aload_n 0, 1) := by decide +kernel
theorem dL_order_4 : decode cL_order 4 = .ok (.iload_n 1, 1) := by decide +kernel
theorem dL_order_5 : decode cL_order 5 = .ok (.iload_n 2, 1) := by decide +kernel
theorem dL_order_6 : decode cL_order 6 = .ok (.iload_n 3, 1) := by decide +kernel
theorem dL_order_7 : decode cL_order 7 = .ok (.iload 4, 2) := by decide +kernel
theorem dL_order_9 : decode cL_order 9 = .ok (.invokevirtual 104, 3) := by decide +kernel
theorem dL_order_12 : decode cL_order 12 = .ok (.i2l, 1) := by decide +kernel
theorem dL_order_13 : decode cL_order 13 = .ok (.lastore, 1) := by decide +kernel
theorem dL_order_14 : decode cL_order 14 = .ok (.goto 15, 3) := by decide +kernel
theorem dL_order_17 : decode cL_order 17 = .ok (.astore 6, 2) := by decide +kernel
theorem dL_order_19 : decode cL_order 19 = .ok (.iconst 1, 1) := by decide +kernel
theorem dL_order_20 : decode cL_order 20 = .ok (.ireturn, 1) := by decide +kernel
theorem dL_order_21 : decode cL_order 21 = .ok (.astore 6, 2) := by decide +kernel
theorem dL_order_23 : decode cL_order 23 = .ok (.iconst 2, 1) := by decide +kernel
theorem dL_order_24 : decode cL_order 24 = .ok (.ireturn, 1) := by decide +kernel
theorem dL_order_25 : decode cL_order 25 = .ok (.astore 6, 2) := by decide +kernel
theorem dL_order_27 : decode cL_order 27 = .ok (.iconst 3, 1) := by decide +kernel
theorem dL_order_28 : decode cL_order 28 = .ok (.ireturn, 1) := by decide +kernel
theorem dL_order_29 : decode cL_order 29 = .ok (.iconst 0, 1) := by decide +kernel
theorem dL_order_30 : decode cL_order 30 = .ok (.ireturn, 1) := by decide +kernel
set_option maxRecDepth 20000 in
theorem ggL_cancel_X7_cancel : GoodIn wsL_cancel wsX7_cancel := goodIn_ca (goodIn_ca (goodIn_r _ [7, 8, 9, 10, 11, 6, 12, 13, 14, 15, 16, 17, 18, 19, 20, 21, 22, 23, 24, 25, 26, 27, 28, 29, 30, 31, 32, 33, 34, 35, 36, 37, 38, 39, 40, 41, 42, 43, 44, 45, 46, 47, 48, 49, 50, 51, 52, 53, 54, 55, 56, 57, 58, 59, 60, 61, 62, 63, 64, 65] (by decide +kernel) (by decide +kernel)) (goodIn_sub (fun _ h => List.mem_cons_of_mem _ (List.mem_append_left _ (List.mem_append_right _ h))) (by decide +kernel))) (goodIn_sub (fun _ h => List.mem_cons_of_mem _ (List.mem_append_right _ h)) (by decide +kernel))
set_option maxRecDepth 20000 in
theorem gL_cancel_X7_cancel : GoodIn wsL_cancel (wsV RL 107 RX7 yX7_cancel wsX7_cancel) := goodIn_app (goodIn_of _ (by decide +kernel)) ggL_cancel_X7_cancel
theorem dL_cancel_0 : decode cL_cancel 0 = .ok (.aload_n 2, 1) := by decide +kernel
theorem dL_cancel_1 : decode cL_cancel 1 = .ok (.iconst 0, 1) := by decide +kernel
theorem dL_cancel_2 : decode cL_cancel 2 = .ok (.aload_n 0, 1) := by decide +kernel
theorem dL_cancel_3 : decode cL_cancel 3 = .ok (.iload_n 1, 1) := by decide +kernel
theorem dL_cancel_4 : decode cL_cancel 4 = .ok (.invokevirtual 107, 3) := by decide +kernel
theorem dL_cancel_7 : decode cL_cancel 7 = .ok (.i2l, 1) := by decide +kernel
theorem dL_cancel_8 : decode cL_cancel 8 = .ok (.lastore, 1) := by decide +kernel
theorem dL_cancel_9 : decode cL_cancel 9 = .ok (.goto 9, 3) := by decide +kernel
theorem dL_cancel_12 : decode cL_cancel 12 = .ok (.astore_n 3, 1) := by decide +kernel
theorem dL_cancel_13 : decode cL_cancel 13 = .ok (.iconst 1, 1) := by decide +kernel
theorem dL_cancel_14 : decode cL_cancel 14 = .ok (.ireturn, 1) := by decide +kernel
theorem dL_cancel_15 : decode cL_cancel 15 = .ok (.astore_n 3, 1) := by decide +kernel
theorem dL_cancel_16 : decode cL_cancel 16 = .ok (.iconst 2, 1) := by decide +kernel
theorem dL_cancel_17 : decode cL_cancel 17 = .ok (.ireturn, 1) := by decide +kernel
theorem dL_cancel_18 : decode cL_cancel 18 = .ok (.iconst 0, 1) := by decide +kernel
theorem dL_cancel_19 : decode cL_cancel 19 = .ok (.ireturn, 1) := by decide +kernel
set_option maxRecDepth 20000 in
theorem ggL_candidates_X7_candidates : GoodIn wsL_candidates wsX7_candidates := goodIn_ca (goodIn_r _ [6, 7, 8, 9, 5, 10, 11, 12, 13, 14, 15, 16, 17, 18, 19, 20, 21, 22, 23, 24, 25, 26, 27, 28, 29, 30, 31, 32, 33, 34, 35, 36, 37, 38, 39, 40, 41, 42, 43, 44, 45, 46, 47, 48, 49, 50, 51, 52, 53, 54, 55, 56, 57, 58, 59, 60, 61, 62, 63, 64, 65, 66, 67, 68, 69, 70, 71, 72, 73, 74, 75, 76, 77, 78, 79, 80, 81] (by decide +kernel) (by decide +kernel)) (goodIn_sub (fun _ h => List.mem_cons_of_mem _ (List.mem_append_right _ h)) (by decide +kernel))
set_option maxRecDepth 20000 in
theorem gL_candidates_X7_candidates : GoodIn wsL_candidates (wsV RL 110 RX7 yX7_candidates wsX7_candidates) := goodIn_app (goodIn_of _ (by decide +kernel)) ggL_candidates_X7_candidates
theorem dL_candidates_0 : decode cL_candidates 0 = .ok (.aload_n 2, 1) := by decide +kernel
theorem dL_candidates_1 : decode cL_candidates 1 = .ok (.iconst 0, 1) := by decide +kernel
theorem dL_candidates_2 : decode cL_candidates 2 = .ok (.aload_n 0, 1) := by decide +kernel
theorem dL_candidates_3 : decode cL_candidates 3 = .ok (.iload_n 1, 1) := by decide +kernel
theorem dL_candidates_4 : decode cL_candidates 4 = .ok (.invokevirtual 110, 3) := by decide +kernel
theorem dL_candidates_7 : decode cL_candidates 7 = .ok (.i2l, 1) := by decide +kernel
theorem dL_candidates_8 : decode cL_candidates 8 = .ok (.lastore, 1) := by decide +kernel
theorem dL_candidates_9 : decode cL_candidates 9 = .ok (.goto 6, 3) := by decide +kernel
theorem dL_candidates_12 : decode cL_candidates 12 = .ok (.astore_n 3, 1) := by decide +kernel
theorem dL_candidates_13 : decode cL_candidates 13 = .ok (.iconst 1, 1) := by decide +kernel
theorem dL_candidates_14 : decode cL_candidates 14 = .ok (.ireturn, 1) := by decide +kernel
theorem dL_candidates_15 : decode cL_candidates 15 = .ok (.iconst 0, 1) := by decide +kernel
theorem dL_candidates_16 : decode cL_candidates 16 = .ok (.ireturn, 1) := by decide +kernel
set_option maxRecDepth 20000 in
theorem ggL_candidateAt_X7_candidateAt : GoodIn wsL_candidateAt wsX7_candidateAt := goodIn_ca (goodIn_ca (goodIn_r _ [7, 8, 9, 10, 11, 12, 13, 6, 14, 15, 16, 17, 18, 19, 20, 21, 22, 23, 24, 25, 26, 27, 28, 29, 30, 31, 32, 33, 34, 35, 36, 37, 38, 39, 40, 41, 42, 43, 44, 45, 46, 47, 48, 49, 50, 51, 52, 53, 54, 55, 56, 57, 58, 59, 60, 61, 62, 63, 64, 65, 66, 67, 68, 69, 70, 71, 72, 73, 74, 75, 76, 77, 78, 79, 80, 81, 82, 83, 84, 85, 86, 87, 88, 89, 90, 91, 92, 93, 94, 95, 96, 97, 98, 99] (by decide +kernel) (by decide +kernel)) (goodIn_sub (fun _ h => List.mem_cons_of_mem _ (List.mem_append_left _ (List.mem_append_right _ h))) (by decide +kernel))) (goodIn_sub (fun _ h => List.mem_cons_of_mem _ (List.mem_append_right _ h)) (by decide +kernel))
set_option maxRecDepth 20000 in
theorem gL_candidateAt_X7_candidateAt : GoodIn wsL_candidateAt (wsV RL 113 RX7 yX7_candidateAt wsX7_candidateAt) := goodIn_app (goodIn_of _ (by decide +kernel)) ggL_candidateAt_X7_candidateAt
theorem dL_candidateAt_0 : decode cL_candidateAt 0 = .ok (.aload_n 3, 1) := by decide +kernel
theorem dL_candidateAt_1 : decode cL_candidateAt 1 = .ok (.iconst 0, 1) := by decide +kernel
theorem dL_candidateAt_2 : decode cL_candidateAt 2 = .ok (.aload_n 0, 1) := by decide +kernel
theorem dL_candidateAt_3 : decode cL_candidateAt 3 = .ok (.iload_n 1, 1) := by decide +kernel
theorem dL_candidateAt_4 : decode cL_candidateAt 4 = .ok (.iload_n 2, 1) := by decide +kernel
theorem dL_candidateAt_5 : decode cL_candidateAt 5 = .ok (.invokevirtual 113, 3) := by decide +kernel
theorem dL_candidateAt_8 : decode cL_candidateAt 8 = .ok (.i2l, 1) := by decide +kernel
theorem dL_candidateAt_9 : decode cL_candidateAt 9 = .ok (.lastore, 1) := by decide +kernel
theorem dL_candidateAt_10 : decode cL_candidateAt 10 = .ok (.goto 11, 3) := by decide +kernel
theorem dL_candidateAt_13 : decode cL_candidateAt 13 = .ok (.astore 4, 2) := by decide +kernel
theorem dL_candidateAt_15 : decode cL_candidateAt 15 = .ok (.iconst 1, 1) := by decide +kernel
theorem dL_candidateAt_16 : decode cL_candidateAt 16 = .ok (.ireturn, 1) := by decide +kernel
theorem dL_candidateAt_17 : decode cL_candidateAt 17 = .ok (.astore 4, 2) := by decide +kernel
theorem dL_candidateAt_19 : decode cL_candidateAt 19 = .ok (.iconst 2, 1) := by decide +kernel
theorem dL_candidateAt_20 : decode cL_candidateAt 20 = .ok (.ireturn, 1) := by decide +kernel
theorem dL_candidateAt_21 : decode cL_candidateAt 21 = .ok (.iconst 0, 1) := by decide +kernel
theorem dL_candidateAt_22 : decode cL_candidateAt 22 = .ok (.ireturn, 1) := by decide +kernel
set_option maxRecDepth 20000 in
theorem ggL_ship_X7_ship : GoodIn wsL_ship wsX7_ship := goodIn_ca (goodIn_ca (goodIn_ca (goodIn_r _ [8, 9, 10, 11, 12, 13, 7, 14, 15, 16, 17, 18, 19, 20, 21, 22, 23, 24, 25, 26, 27, 28, 29, 30, 31, 32, 33, 34, 35, 36, 37, 38, 39, 40, 41, 42, 43, 44, 45, 46, 47, 48, 49, 50, 51, 52, 53, 54, 55, 56, 57, 58, 59, 60, 61, 62, 63, 64, 65, 66, 67, 68, 69, 70, 71, 72, 73, 74, 75, 76, 77, 78, 79, 80, 81, 82, 83, 84, 85, 86, 87, 88, 89, 90, 91, 92, 93, 94, 95, 96, 97, 98, 99, 100, 101, 102, 103, 104, 105, 106, 107, 108, 109, 110, 111, 112, 113, 114, 115, 116, 117, 118] (by decide +kernel) (by decide +kernel)) (goodIn_sub (fun _ h => List.mem_cons_of_mem _ (List.mem_append_left _ (List.mem_append_left _ (List.mem_append_right _ h)))) (by decide +kernel))) (goodIn_sub (fun _ h => List.mem_cons_of_mem _ (List.mem_append_left _ (List.mem_append_right _ h))) (by decide +kernel))) (goodIn_sub (fun _ h => List.mem_cons_of_mem _ (List.mem_append_right _ h)) (by decide +kernel))
set_option maxRecDepth 20000 in
theorem gL_ship_X7_ship : GoodIn wsL_ship (wsV RL 116 RX7 yX7_ship wsX7_ship) := goodIn_app (goodIn_of _ (by decide +kernel)) ggL_ship_X7_ship
theorem dL_ship_0 : decode cL_ship 0 = .ok (.aload_n 2, 1) := by decide +kernel
theorem dL_ship_1 : decode cL_ship 1 = .ok (.iconst 0, 1) := by decide +kernel
theorem dL_ship_2 : decode cL_ship 2 = .ok (.aload_n 0, 1) := by decide +kernel
theorem dL_ship_3 : decode cL_ship 3 = .ok (.iload_n 1, 1) := by decide +kernel
theorem dL_ship_4 : decode cL_ship 4 = .ok (.invokevirtual 116, 3) := by decide +kernel
theorem dL_ship_7 : decode cL_ship 7 = .ok (.i2l, 1) := by decide +kernel
theorem dL_ship_8 : decode cL_ship 8 = .ok (.lastore, 1) := by decide +kernel
theorem dL_ship_9 : decode cL_ship 9 = .ok (.goto 12, 3) := by decide +kernel
theorem dL_ship_12 : decode cL_ship 12 = .ok (.astore_n 3, 1) := by decide +kernel
theorem dL_ship_13 : decode cL_ship 13 = .ok (.iconst 1, 1) := by decide +kernel
theorem dL_ship_14 : decode cL_ship 14 = .ok (.ireturn, 1) := by decide +kernel
theorem dL_ship_15 : decode cL_ship 15 = .ok (.astore_n 3, 1) := by decide +kernel
theorem dL_ship_16 : decode cL_ship 16 = .ok (.iconst 2, 1) := by decide +kernel
theorem dL_ship_17 : decode cL_ship 17 = .ok (.ireturn, 1) := by decide +kernel
theorem dL_ship_18 : decode cL_ship 18 = .ok (.astore_n 3, 1) := by decide +kernel
theorem dL_ship_19 : decode cL_ship 19 = .ok (.iconst 3, 1) := by decide +kernel
theorem dL_ship_20 : decode cL_ship 20 = .ok (.ireturn, 1) := by decide +kernel
theorem dL_ship_21 : decode cL_ship 21 = .ok (.iconst 0, 1) := by decide +kernel
theorem dL_ship_22 : decode cL_ship 22 = .ok (.ireturn, 1) := by decide +kernel
set_option maxRecDepth 20000 in
theorem ggL_orderState_X7_orderState : GoodIn wsL_orderState wsX7_orderState := goodIn_ca (goodIn_r _ [6, 7, 8, 9, 10, 5, 11, 12, 13, 14, 15, 16, 17, 18, 19, 20, 21, 22, 23, 24, 25, 26, 27, 28, 29, 30, 31, 32, 33, 34, 35, 36, 37, 38, 39, 40, 41, 42, 43, 44, 45, 46, 47, 48, 49, 50, 51, 52, 53, 54, 55] (by decide +kernel) (by decide +kernel)) (goodIn_sub (fun _ h => List.mem_cons_of_mem _ (List.mem_append_right _ h)) (by decide +kernel))
set_option maxRecDepth 20000 in
theorem gL_orderState_X7_orderState : GoodIn wsL_orderState (wsV RL 121 RX7 yX7_orderState wsX7_orderState) := goodIn_app (goodIn_of _ (by decide +kernel)) ggL_orderState_X7_orderState
theorem dL_orderState_0 : decode cL_orderState 0 = .ok (.aload_n 2, 1) := by decide +kernel
theorem dL_orderState_1 : decode cL_orderState 1 = .ok (.iconst 0, 1) := by decide +kernel
theorem dL_orderState_2 : decode cL_orderState 2 = .ok (.aload_n 0, 1) := by decide +kernel
theorem dL_orderState_3 : decode cL_orderState 3 = .ok (.iload_n 1, 1) := by decide +kernel
theorem dL_orderState_4 : decode cL_orderState 4 = .ok (.invokevirtual 121, 3) := by decide +kernel
theorem dL_orderState_7 : decode cL_orderState 7 = .ok (.i2l, 1) := by decide +kernel
theorem dL_orderState_8 : decode cL_orderState 8 = .ok (.lastore, 1) := by decide +kernel
theorem dL_orderState_9 : decode cL_orderState 9 = .ok (.goto 6, 3) := by decide +kernel
theorem dL_orderState_12 : decode cL_orderState 12 = .ok (.astore_n 3, 1) := by decide +kernel
theorem dL_orderState_13 : decode cL_orderState 13 = .ok (.iconst 1, 1) := by decide +kernel
theorem dL_orderState_14 : decode cL_orderState 14 = .ok (.ireturn, 1) := by decide +kernel
theorem dL_orderState_15 : decode cL_orderState 15 = .ok (.iconst 0, 1) := by decide +kernel
theorem dL_orderState_16 : decode cL_orderState 16 = .ok (.ireturn, 1) := by decide +kernel
set_option maxRecDepth 20000 in
theorem ggL_leastShipped_X7_leastShipped : GoodIn wsL_leastShipped wsX7_leastShipped := goodIn_ca (goodIn_ca (goodIn_r _ [7, 8, 9, 10, 11, 12, 13, 14, 6, 15, 16, 17, 18, 19, 20, 21, 22, 23, 24, 25, 26, 27, 28, 29, 30, 31, 32, 33, 34, 35, 36, 37, 38, 39, 40, 41, 42, 43, 44, 45, 46, 47, 48, 49, 50, 51, 52, 53, 54, 55, 56, 57, 58, 59] (by decide +kernel) (by decide +kernel)) (goodIn_sub (fun _ h => List.mem_cons_of_mem _ (List.mem_append_left _ (List.mem_append_right _ h))) (by decide +kernel))) (goodIn_sub (fun _ h => List.mem_cons_of_mem _ (List.mem_append_right _ h)) (by decide +kernel))
set_option maxRecDepth 20000 in
theorem gL_leastShipped_X7_leastShipped : GoodIn wsL_leastShipped (wsV RL 124 RX7 yX7_leastShipped wsX7_leastShipped) := goodIn_app (goodIn_of _ (by decide +kernel)) ggL_leastShipped_X7_leastShipped
theorem dL_leastShipped_0 : decode cL_leastShipped 0 = .ok (.aload_n 2, 1) := by decide +kernel
theorem dL_leastShipped_1 : decode cL_leastShipped 1 = .ok (.iconst 0, 1) := by decide +kernel
theorem dL_leastShipped_2 : decode cL_leastShipped 2 = .ok (.aload_n 0, 1) := by decide +kernel
theorem dL_leastShipped_3 : decode cL_leastShipped 3 = .ok (.iload_n 1, 1) := by decide +kernel
theorem dL_leastShipped_4 : decode cL_leastShipped 4 = .ok (.invokevirtual 124, 3) := by decide +kernel
theorem dL_leastShipped_7 : decode cL_leastShipped 7 = .ok (.i2l, 1) := by decide +kernel
theorem dL_leastShipped_8 : decode cL_leastShipped 8 = .ok (.lastore, 1) := by decide +kernel
theorem dL_leastShipped_9 : decode cL_leastShipped 9 = .ok (.goto 9, 3) := by decide +kernel
theorem dL_leastShipped_12 : decode cL_leastShipped 12 = .ok (.astore_n 3, 1) := by decide +kernel
theorem dL_leastShipped_13 : decode cL_leastShipped 13 = .ok (.iconst 1, 1) := by decide +kernel
theorem dL_leastShipped_14 : decode cL_leastShipped 14 = .ok (.ireturn, 1) := by decide +kernel
theorem dL_leastShipped_15 : decode cL_leastShipped 15 = .ok (.astore_n 3, 1) := by decide +kernel
theorem dL_leastShipped_16 : decode cL_leastShipped 16 = .ok (.iconst 2, 1) := by decide +kernel
theorem dL_leastShipped_17 : decode cL_leastShipped 17 = .ok (.ireturn, 1) := by decide +kernel
theorem dL_leastShipped_18 : decode cL_leastShipped 18 = .ok (.iconst 0, 1) := by decide +kernel
theorem dL_leastShipped_19 : decode cL_leastShipped 19 = .ok (.ireturn, 1) := by decide +kernel
