set_option maxRecDepth 20000 in
theorem ggL_setRoom_X5_setRoom : GoodIn wsL_setRoom wsX5_setRoom := goodIn_ca (goodIn_ca (goodIn_ca (goodIn_r _ [8, 9, 10, 11, 12, 13, 14, 15, 16, 17, 7, 18, 19, 20, 21, 22, 23, 24, 25, 26, 27, 28, 29, 30, 31, 32, 33, 34, 35, 36, 37, 38, 39, 40, 41, 42, 43, 44, 45, 46, 47, 48, 49, 50, 51, 52, 53, 54] (by decide +kernel) (by decide +kernel)) (goodIn_sub (fun _ h => List.mem_cons_of_mem _ (List.mem_append_left _ (List.mem_append_left _ (List.mem_append_right _ h)))) (by decide +kernel))) (goodIn_sub (fun _ h => List.mem_cons_of_mem _ (List.mem_append_left _ (List.mem_append_right _ h))) (by decide +kernel))) (goodIn_sub (fun _ h => List.mem_cons_of_mem _ (List.mem_append_right _ h)) (by decide +kernel))
set_option maxRecDepth 20000 in
theorem gL_setRoom_X5_setRoom : GoodIn wsL_setRoom (wsV RL 7 RX5 yX5_setRoom wsX5_setRoom) := goodIn_app (goodIn_of _ (by decide +kernel)) ggL_setRoom_X5_setRoom
theorem dL_setRoom_0 : decode cL_setRoom 0 = .ok (.aload 4, 2) := by decide +kernel
theorem dL_setRoom_2 : decode cL_setRoom 2 = .ok (.iconst 0, 1) := by decide +kernel
theorem dL_setRoom_3 : decode cL_setRoom 3 = .ok (.aload_n 0, 1) := by decide +kernel
theorem dL_setRoom_4 : decode cL_setRoom 4 = .ok (.iload_n 1, 1) := by decide +kernel
theorem dL_setRoom_5 : decode cL_setRoom 5 = .ok (.iload_n 2, 1) := by decide +kernel
theorem dL_setRoom_6 : decode cL_setRoom 6 = .ok (.iload_n 3, 1) := by decide +kernel
theorem dL_setRoom_7 : decode cL_setRoom 7 = .ok (.invokevirtual 7, 3) := by decide +kernel
theorem dL_setRoom_10 : decode cL_setRoom 10 = .ok (.ifCond .eq 7, 3) := by decide +kernel
theorem dL_setRoom_13 : decode cL_setRoom 13 = .ok (.lconst 1, 1) := by decide +kernel
theorem dL_setRoom_14 : decode cL_setRoom 14 = .ok (.goto 4, 3) := by decide +kernel
theorem dL_setRoom_17 : decode cL_setRoom 17 = .ok (.lconst 0, 1) := by decide +kernel
theorem dL_setRoom_18 : decode cL_setRoom 18 = .ok (.lastore, 1) := by decide +kernel
theorem dL_setRoom_19 : decode cL_setRoom 19 = .ok (.goto 15, 3) := by decide +kernel
theorem dL_setRoom_22 : decode cL_setRoom 22 = .ok (.astore 5, 2) := by decide +kernel
theorem dL_setRoom_24 : decode cL_setRoom 24 = .ok (.iconst 1, 1) := by decide +kernel
theorem dL_setRoom_25 : decode cL_setRoom 25 = .ok (.ireturn, 1) := by decide +kernel
theorem dL_setRoom_26 : decode cL_setRoom 26 = .ok (.astore 5, 2) := by decide +kernel
theorem dL_setRoom_28 : decode cL_setRoom 28 = .ok (.iconst 2, 1) := by decide +kernel
theorem dL_setRoom_29 : decode cL_setRoom 29 = .ok (.ireturn, 1) := by decide +kernel
theorem dL_setRoom_30 : decode cL_setRoom 30 = .ok (.astore 5, 2) := by decide +kernel
theorem dL_setRoom_32 : decode cL_setRoom 32 = .ok (.iconst 3, 1) := by decide +kernel
theorem dL_setRoom_33 : decode cL_setRoom 33 = .ok (.ireturn, 1) := by decide +kernel
theorem dL_setRoom_34 : decode cL_setRoom 34 = .ok (.iconst 0, 1) := by decide +kernel
theorem dL_setRoom_35 : decode cL_setRoom 35 = .ok (.ireturn, 1) := by decide +kernel
set_option maxRecDepth 20000 in
theorem ggL_read_X5_read : GoodIn wsL_read wsX5_read := goodIn_ca (goodIn_ca (goodIn_r _ [7, 8, 9, 10, 11, 12, 6, 13, 14, 15, 16, 17, 18, 19, 20, 21, 22, 23, 24, 25, 26, 27, 28, 29, 30, 31, 32, 33, 34, 35, 36, 37, 38, 39, 40, 41, 42, 43, 44, 45, 46, 47, 48, 49, 50, 51, 52, 53, 54, 55, 56, 57, 58, 59, 60, 61, 62, 63, 64, 65, 66, 67, 68, 69, 70, 71, 72, 73, 74, 75, 76, 77, 78, 79, 80, 81, 82, 83, 84, 85, 86, 87, 88, 89, 90, 91, 92, 93, 94, 95, 96, 97, 98, 99, 100, 101, 102, 103, 104, 105, 106, 107, 108, 109, 110, 111, 112, 113, 114, 115, 116, 117, 118, 119, 120, 121, 122, 123, 124, 125, 126, 127, 128, 129, 130, 131, 132, 133, 134, 135, 136, 137, 138, 139, 140, 141, 142, 143, 144, 145, 146, 147, 148, 149, 150, 151, 152, 153, 154, 155, 156, 157, 158, 159, 160, 161, 162, 163, 164, 165, 166, 167, 168, 169, 170, 171, 172, 173, 174, 175, 176, 177, 178, 179, 180, 181, 182, 183, 184, 185, 186, 187, 188, 189, 190, 191, 192, 193, 194, 195, 196, 197, 198, 199] (by decide +kernel) (by decide +kernel)) (goodIn_sub (fun _ h => List.mem_cons_of_mem _ (List.mem_append_left _ (List.mem_append_right _ h))) (by decide +kernel))) (goodIn_sub (fun _ h => List.mem_cons_of_mem _ (List.mem_append_right _ h)) (by decide +kernel))
set_option maxRecDepth 20000 in
theorem gL_read_X5_read : GoodIn wsL_read (wsV RL 19 RX5 yX5_read wsX5_read) := goodIn_app (goodIn_of _ (by decide +kernel)) ggL_read_X5_read
theorem dL_read_0 : decode cL_read 0 = .ok (.aload_n 3, 1) := by decide +kernel
theorem dL_read_1 : decode cL_read 1 = .ok (.iconst 0, 1) := by decide +kernel
theorem dL_read_2 : decode cL_read 2 = .ok (.aload_n 0, 1) := by decide +kernel
theorem dL_read_3 : decode cL_read 3 = .ok (.iload_n 1, 1) := by decide +kernel
theorem dL_read_4 : decode cL_read 4 = .ok (.iload_n 2, 1) := by decide +kernel
theorem dL_read_5 : decode cL_read 5 = .ok (.invokevirtual 19, 3) := by decide +kernel
theorem dL_read_8 : decode cL_read 8 = .ok (.i2l, 1) := by decide +kernel
theorem dL_read_9 : decode cL_read 9 = .ok (.lastore, 1) := by decide +kernel
theorem dL_read_10 : decode cL_read 10 = .ok (.goto 11, 3) := by decide +kernel
theorem dL_read_13 : decode cL_read 13 = .ok (.astore 4, 2) := by decide +kernel
theorem dL_read_15 : decode cL_read 15 = .ok (.iconst 1, 1) := by decide +kernel
theorem dL_read_16 : decode cL_read 16 = .ok (.ireturn, 1) := by decide +kernel
theorem dL_read_17 : decode cL_read 17 = .ok (.astore 4, 2) := by decide +kernel
theorem dL_read_19 : decode cL_read 19 = .ok (.iconst 2, 1) := by decide +kernel
theorem dL_read_20 : decode cL_read 20 = .ok (.ireturn, 1) := by decide +kernel
theorem dL_read_21 : decode cL_read 21 = .ok (.iconst 0, 1) := by decide +kernel
theorem dL_read_22 : decode cL_read 22 = .ok (.ireturn, 1) := by decide +kernel
set_option maxRecDepth 20000 in
theorem ggL_write_X5_write : GoodIn wsL_write wsX5_write := goodIn_ca (goodIn_ca (goodIn_ca (goodIn_r _ [8, 9, 10, 11, 12, 13, 14, 15, 7, 16, 17, 18, 19, 20, 21, 22, 23, 24, 25, 26, 27, 28, 29, 30, 31, 32, 33, 34, 35, 36, 37, 38, 39, 40, 41, 42, 43, 44, 45, 46, 47, 48, 49, 50, 51, 52, 53, 54, 55, 56, 57, 58, 59, 60, 61, 62, 63, 64, 65, 66, 67, 68, 69, 70, 71, 72, 73, 74, 75, 76, 77, 78, 79, 80, 81, 82, 83, 84, 85, 86, 87, 88, 89, 90, 91, 92, 93, 94, 95, 96, 97, 98, 99, 100, 101, 102, 103, 104, 105, 106, 107, 108, 109, 110, 111, 112, 113, 114, 115, 116, 117, 118, 119, 120, 121, 122, 123, 124, 125, 126, 127, 128, 129, 130, 131, 132, 133, 134, 135, 136, 137, 138, 139, 140, 141, 142, 143, 144, 145, 146, 147, 148, 149, 150, 151, 152, 153, 154, 155, 156, 157, 158, 159, 160, 161, 162, 163, 164, 165, 166, 167, 168, 169, 170, 171, 172, 173, 174, 175, 176, 177, 178, 179, 180, 181, 182, 183, 184, 185, 186, 187, 188, 189, 190, 191, 192, 193, 194, 195, 196, 197, 198, 199, 200, 201, 202, 203, 204, 205] (by decide +kernel) (by decide +kernel)) (goodIn_sub (fun _ h => List.mem_cons_of_mem _ (List.mem_append_left _ (List.mem_append_left _ (List.mem_append_right _ h)))) (by decide +kernel))) (goodIn_sub (fun _ h => List.mem_cons_of_mem _ (List.mem_append_left _ (List.mem_append_right _ h))) (by decide +kernel))) (goodIn_sub (fun _ h => List.mem_cons_of_mem _ (List.mem_append_right _ h)) (by decide +kernel))
set_option maxRecDepth 20000 in
theorem gL_write_X5_write : GoodIn wsL_write (wsV RL 23 RX5 yX5_write wsX5_write) := goodIn_app (goodIn_of _ (by decide +kernel)) ggL_write_X5_write
theorem dL_write_0 : decode cL_write 0 = .ok (.aload 4, 2) := by decide +kernel
theorem dL_write_2 : decode cL_write 2 = .ok (.iconst 0, 1) := by decide +kernel
theorem dL_write_3 : decode cL_write 3 = .ok (.aload_n 0, 1) := by decide +kernel
theorem dL_write_4 : decode cL_write 4 = .ok (.iload_n 1, 1) := by decide +kernel
theorem dL_write_5 : decode cL_write 5 = .ok (.iload_n 2, 1) := by decide +kernel
theorem dL_write_6 : decode cL_write 6 = .ok (.iload_n 3, 1) := by decide +kernel
theorem dL_write_7 : decode cL_write 7 = .ok (.invokevirtual 23, 3) := by decide +kernel
theorem dL_write_10 : decode cL_write 10 = .ok (.ifCond .eq 7, 3) := by decide +kernel
theorem dL_write_13 : decode cL_write 13 = .ok (.lconst 1, 1) := by decide +kernel
theorem dL_write_14 : decode cL_write 14 = .ok (.goto 4, 3) := by decide +kernel
theorem dL_write_17 : decode cL_write 17 = .ok (.lconst 0, 1) := by decide +kernel
theorem dL_write_18 : decode cL_write 18 = .ok (.lastore, 1) := by decide +kernel
theorem dL_write_19 : decode cL_write 19 = .ok (.goto 15, 3) := by decide +kernel
theorem dL_write_22 : decode cL_write 22 = .ok (.astore 5, 2) := by decide +kernel
theorem dL_write_24 : decode cL_write 24 = .ok (.iconst 1, 1) := by decide +kernel
theorem dL_write_25 : decode cL_write 25 = .ok (.ireturn, 1) := by decide +kernel
theorem dL_write_26 : decode cL_write 26 = .ok (.astore 5, 2) := by decide +kernel
theorem dL_write_28 : decode cL_write 28 = .ok (.iconst 2, 1) := by decide +kernel
theorem dL_write_29 : decode cL_write 29 = .ok (.ireturn, 1) := by decide +kernel
theorem dL_write_30 : decode cL_write 30 = .ok (.astore 5, 2) := by decide +kernel
theorem dL_write_32 : decode cL_write 32 = .ok (.iconst 3, 1) := by decide +kernel
theorem dL_write_33 : decode cL_write 33 = .ok (.ireturn, 1) := by decide +kernel
theorem dL_write_34 : decode cL_write 34 = .ok (.iconst 0, 1) := by decide +kernel
theorem dL_write_35 : decode cL_write 35 = .ok (.ireturn, 1) := by decide +kernel
set_option maxRecDepth 20000 in
theorem ggL_evict_X5_evict : GoodIn wsL_evict wsX5_evict := goodIn_ca (goodIn_ca (goodIn_ca (goodIn_r _ [8, 9, 10, 11, 12, 13, 14, 15, 16, 7, 17, 18, 19, 20, 21, 22, 23, 24, 25, 26, 27, 28, 29, 30, 31, 32, 33, 34, 35, 36, 37, 38, 39, 40, 41, 42, 43, 44, 45, 46, 47, 48, 49, 50, 51, 52, 53, 54, 55, 56, 57, 58, 59, 60, 61, 62, 63, 64, 65, 66, 67, 68, 69, 70, 71, 72, 73, 74, 75, 76, 77, 78, 79, 80, 81, 82, 83, 84, 85, 86, 87, 88, 89, 90, 91, 92, 93, 94, 95, 96, 97, 98, 99, 100, 101, 102, 103, 104, 105, 106, 107, 108, 109, 110, 111, 112, 113, 114, 115, 116, 117, 118, 119, 120, 121, 122, 123, 124, 125, 126, 127, 128, 129, 130, 131, 132, 133, 134, 135, 136, 137, 138, 139, 140, 141, 142, 143, 144, 145, 146, 147, 148, 149, 150, 151, 152, 153, 154, 155, 156, 157, 158, 159, 160, 161, 162, 163, 164, 165, 166, 167, 168, 169, 170, 171, 172] (by decide +kernel) (by decide +kernel)) (goodIn_sub (fun _ h => List.mem_cons_of_mem _ (List.mem_append_left _ (List.mem_append_left _ (List.mem_append_right _ h)))) (by decide +kernel))) (goodIn_sub (fun _ h => List.mem_cons_of_mem _ (List.mem_append_left _ (List.mem_append_right _ h))) (by decide +kernel))) (goodIn_sub (fun _ h => List.mem_cons_of_mem _ (List.mem_append_right _ h)) (by decide +kernel))
set_option maxRecDepth 20000 in
theorem gL_evict_X5_evict : GoodIn wsL_evict (wsV RL 26 RX5 yX5_evict wsX5_evict) := goodIn_app (goodIn_of _ (by decide +kernel)) ggL_evict_X5_evict
theorem dL_evict_0 : decode cL_evict 0 = .ok (.aload_n 3, 1) := by decide +kernel
theorem dL_evict_1 : decode cL_evict 1 = .ok (.iconst 0, 1) := by decide +kernel
theorem dL_evict_2 : decode cL_evict 2 = .ok (.aload_n 0, 1) := by decide +kernel
theorem dL_evict_3 : decode cL_evict 3 = .ok (.iload_n 1, 1) := by decide +kernel
theorem dL_evict_4 : decode cL_evict 4 = .ok (.iload_n 2, 1) := by decide +kernel
theorem dL_evict_5 : decode cL_evict 5 = .ok (.invokevirtual 26, 3) := by decide +kernel
theorem dL_evict_8 : decode cL_evict 8 = .ok (.i2l, 1) := by decide +kernel
theorem dL_evict_9 : decode cL_evict 9 = .ok (.lastore, 1) := by decide +kernel
theorem dL_evict_10 : decode cL_evict 10 = .ok (.goto 15, 3) := by decide +kernel
theorem dL_evict_13 : decode cL_evict 13 = .ok (.astore 4, 2) := by decide +kernel
theorem dL_evict_15 : decode cL_evict 15 = .ok (.iconst 1, 1) := by decide +kernel
theorem dL_evict_16 : decode cL_evict 16 = .ok (.ireturn, 1) := by decide +kernel
theorem dL_evict_17 : decode cL_evict 17 = .ok (.astore 4, 2) := by decide +kernel
theorem dL_evict_19 : decode cL_evict 19 = .ok (.iconst 2, 1) := by decide +kernel
theorem dL_evict_20 : decode cL_evict 20 = .ok (.ireturn, 1) := by decide +kernel
theorem dL_evict_21 : decode cL_evict 21 = .ok (.astore 4, 2) := by decide +kernel
theorem dL_evict_23 : decode cL_evict 23 = .ok (.iconst 3, 1) := by decide +kernel
theorem dL_evict_24 : decode cL_evict 24 = .ok (.ireturn, 1) := by decide +kernel
theorem dL_evict_25 : decode cL_evict 25 = .ok (.iconst 0, 1) := by decide +kernel
theorem dL_evict_26 : decode cL_evict 26 = .ok (.ireturn, 1) := by decide +kernel
set_option maxRecDepth 20000 in
theorem ggL_state_X5_state : GoodIn wsL_state wsX5_state := goodIn_ca (goodIn_r _ [6, 7, 8, 9, 10, 5, 11, 12, 13, 14, 15, 16, 17, 18, 19, 20, 21, 22, 23, 24, 25, 26, 27, 28, 29, 30, 31, 32, 33, 34] (by decide +kernel) (by decide +kernel)) (goodIn_sub (fun _ h => List.mem_cons_of_mem _ (List.mem_append_right _ h)) (by decide +kernel))
set_option maxRecDepth 20000 in
theorem gL_state_X5_state : GoodIn wsL_state (wsV RL 31 RX5 yX5_state wsX5_state) := goodIn_app (goodIn_of _ (by decide +kernel)) ggL_state_X5_state
theorem dL_state_0 : decode cL_state 0 = .ok (.aload_n 3, 1) := by decide +kernel
theorem dL_state_1 : decode cL_state 1 = .ok (.iconst 0, 1) := by decide +kernel
theorem dL_state_2 : decode cL_state 2 = .ok (.aload_n 0, 1) := by decide +kernel
theorem dL_state_3 : decode cL_state 3 = .ok (.iload_n 1, 1) := by decide +kernel
theorem dL_state_4 : decode cL_state 4 = .ok (.iload_n 2, 1) := by decide +kernel
theorem dL_state_5 : decode cL_state 5 = .ok (.invokevirtual 31, 3) := by decide +kernel
theorem dL_state_8 : decode cL_state 8 = .ok (.i2l, 1) := by decide +kernel
theorem dL_state_9 : decode cL_state 9 = .ok (.lastore, 1) := by decide +kernel
theorem dL_state_10 : decode cL_state 10 = .ok (.goto 7, 3) := by decide +kernel
theorem dL_state_13 : decode cL_state 13 = .ok (.astore 4, 2) := by decide +kernel
theorem dL_state_15 : decode cL_state 15 = .ok (.iconst 1, 1) := by decide +kernel
theorem dL_state_16 : decode cL_state 16 = .ok (.ireturn, 1) := by decide +kernel
theorem dL_state_17 : decode cL_state 17 = .ok (.iconst 0, 1) := by decide +kernel
theorem dL_state_18 : decode cL_state 18 = .ok (.ireturn, 1) := by decide +kernel
set_option maxRecDepth 20000 in
theorem ggL_value_X5_value : GoodIn wsL_value wsX5_value := goodIn_ca (goodIn_ca (goodIn_r _ [7, 8, 9, 10, 11, 6, 12, 13, 14, 15, 16, 17, 18, 19, 20, 21, 22, 23, 24, 25, 26, 27, 28, 29, 30, 31, 32, 33, 34, 35, 36, 37, 38, 39, 40, 41, 42, 43, 44, 45, 46] (by decide +kernel) (by decide +kernel)) (goodIn_sub (fun _ h => List.mem_cons_of_mem _ (List.mem_append_left _ (List.mem_append_right _ h))) (by decide +kernel))) (goodIn_sub (fun _ h => List.mem_cons_of_mem _ (List.mem_append_right _ h)) (by decide +kernel))
set_option maxRecDepth 20000 in
theorem gL_value_X5_value : GoodIn wsL_value (wsV RL 34 RX5 yX5_value wsX5_value) := goodIn_app (goodIn_of _ (by decide +kernel)) ggL_value_X5_value
theorem dL_value_0 : decode cL_value 0 = .ok (.aload_n 3, 1) := by decide +kernel
theorem dL_value_1 : decode cL_value 1 = .ok (.iconst 0, 1) := by decide +kernel
theorem dL_value_2 : decode cL_value 2 = .ok (.aload_n 0, 1) := by decide +kernel
theorem dL_value_3 : decode cL_value 3 = .ok (.iload_n 1, 1) := by decide +kernel
theorem dL_value_4 : decode cL_value 4 = .ok (.iload_n 2, 1) := by decide +kernel
theorem dL_value_5 : decode cL_value 5 = .ok (.invokevirtual 34, 3) := by decide +kernel
theorem dL_value_8 : decode cL_value 8 = .ok (.i2l, 1) := by decide +kernel
theorem dL_value_9 : decode cL_value 9 = .ok (.lastore, 1) := by decide +kernel
theorem dL_value_10 : decode cL_value 10 = .ok (.goto 11, 3) := by decide +kernel
theorem dL_value_13 : decode cL_value 13 = .ok (.astore 4, 2) := by decide +kernel
theorem dL_value_15 : decode cL_value 15 = .ok (.iconst 1, 1) := by decide +kernel
theorem dL_value_16 : decode cL_value 16 = .ok (.ireturn, 1) := by decide +kernel
theorem dL_value_17 : decode cL_value 17 = .ok (.astore 4, 2) := by decide +kernel
theorem dL_value_19 : decode cL_value 19 = .ok (.iconst 2, 1) := by decide +kernel
theorem dL_value_20 : decode cL_value 20 = .ok (.ireturn, 1) := by decide +kernel
theorem dL_value_21 : decode cL_value 21 = .ok (.iconst 0, 1) := by decide +kernel
theorem dL_value_22 : decode cL_value 22 = .ok (.ireturn, 1) := by decide +kernel
set_option maxRecDepth 20000 in
theorem ggL_victimValue_X5_victimValue : GoodIn wsL_victimValue wsX5_victimValue := goodIn_ca (goodIn_r _ [6, 7, 8, 9, 10, 5, 11, 12, 13, 14, 15, 16, 17, 18, 19, 20, 21, 22, 23, 24, 25, 26, 27, 28, 29, 30, 31, 32, 33, 34] (by decide +kernel) (by decide +kernel)) (goodIn_sub (fun _ h => List.mem_cons_of_mem _ (List.mem_append_right _ h)) (by decide +kernel))
set_option maxRecDepth 20000 in
theorem gL_victimValue_X5_victimValue : GoodIn wsL_victimValue (wsV RL 37 RX5 yX5_victimValue wsX5_victimValue) := goodIn_app (goodIn_of _ (by decide +kernel)) ggL_victimValue_X5_victimValue
theorem dL_victimValue_0 : decode cL_victimValue 0 = .ok (.aload_n 3, 1) := by decide +kernel
theorem dL_victimValue_1 : decode cL_victimValue 1 = .ok (.iconst 0, 1) := by decide +kernel
theorem dL_victimValue_2 : decode cL_victimValue 2 = .ok (.aload_n 0, 1) := by decide +kernel
theorem dL_victimValue_3 : decode cL_victimValue 3 = .ok (.iload_n 1, 1) := by decide +kernel
theorem dL_victimValue_4 : decode cL_victimValue 4 = .ok (.iload_n 2, 1) := by decide +kernel
theorem dL_victimValue_5 : decode cL_victimValue 5 = .ok (.invokevirtual 37, 3) := by decide +kernel
theorem dL_victimValue_8 : decode cL_victimValue 8 = .ok (.i2l, 1) := by decide +kernel
theorem dL_victimValue_9 : decode cL_victimValue 9 = .ok (.lastore, 1) := by decide +kernel
theorem dL_victimValue_10 : decode cL_victimValue 10 = .ok (.goto 7, 3) := by decide +kernel
theorem dL_victimValue_13 : decode cL_victimValue 13 = .ok (.astore 4, 2) := by decide +kernel
theorem dL_victimValue_15 : decode cL_victimValue 15 = .ok (.iconst 1, 1) := by decide +kernel
theorem dL_victimValue_16 : decode cL_victimValue 16 = .ok (.ireturn, 1) := by decide +kernel
theorem dL_victimValue_17 : decode cL_victimValue 17 = .ok (.iconst 0, 1) := by decide +kernel
theorem dL_victimValue_18 : decode cL_victimValue 18 = .ok (.ireturn, 1) := by decide +kernel
set_option maxRecDepth 20000 in
theorem ggL_openLine_X5_openLine : GoodIn wsL_openLine wsX5_openLine := goodIn_ca (goodIn_r _ [6, 7, 8, 9, 10, 11, 5, 12, 13, 14, 15, 16, 17, 18, 19, 20, 21, 22, 23, 24, 25, 26, 27, 28, 29, 30, 31, 32, 33, 34, 35, 36, 37, 38, 39] (by decide +kernel) (by decide +kernel)) (goodIn_sub (fun _ h => List.mem_cons_of_mem _ (List.mem_append_right _ h)) (by decide +kernel))
set_option maxRecDepth 20000 in
theorem gL_openLine_X5_openLine : GoodIn wsL_openLine (wsV RL 40 RX5 yX5_openLine wsX5_openLine) := goodIn_app (goodIn_of _ (by decide +kernel)) ggL_openLine_X5_openLine
theorem dL_openLine_0 : decode cL_openLine 0 = .ok (.aload_n 2, 1) := by decide +kernel
theorem dL_openLine_1 : decode cL_openLine 1 = .ok (.iconst 0, 1) := by decide +kernel
theorem dL_openLine_2 : decode cL_openLine 2 = .ok (.aload_n 0, 1) := by decide +kernel
theorem dL_openLine_3 : decode cL_openLine 3 = .ok (.iload_n 1, 1) := by decide +kernel
theorem dL_openLine_4 : decode cL_openLine 4 = .ok (.invokevirtual 40, 3) := by decide +kernel
theorem dL_openLine_7 : decode cL_openLine 7 = .ok (.i2l, 1) := by decide +kernel
theorem dL_openLine_8 : decode cL_openLine 8 = .ok (.lastore, 1) := by decide +kernel
theorem dL_openLine_9 : decode cL_openLine 9 = .ok (.goto 6, 3) := by decide +kernel
theorem dL_openLine_12 : decode cL_openLine 12 = .ok (.astore_n 3, 1) := by decide +kernel
theorem dL_openLine_13 : decode cL_openLine 13 = .ok (.iconst 1, 1) := by decide +kernel
theorem dL_openLine_14 : decode cL_openLine 14 = .ok (.ireturn, 1) := by decide +kernel
theorem dL_openLine_15 : decode cL_openLine 15 = .ok (.iconst 0, 1) := by decide +kernel
theorem dL_openLine_16 : decode cL_openLine 16 = .ok (.ireturn, 1) := by decide +kernel
set_option maxRecDepth 20000 in
theorem ggL_latestRead_X5_latestRead : GoodIn wsL_latestRead wsX5_latestRead := goodIn_ca (goodIn_r _ [6, 7, 8, 9, 10, 5, 11, 12, 13, 14, 15, 16, 17, 18, 19, 20, 21, 22, 23, 24, 25, 26, 27, 28, 29, 30, 31] (by decide +kernel) (by decide +kernel)) (goodIn_sub (fun _ h => List.mem_cons_of_mem _ (List.mem_append_right _ h)) (by decide +kernel))
set_option maxRecDepth 20000 in
theorem gL_latestRead_X5_latestRead : GoodIn wsL_latestRead (wsV RL 44 RX5 yX5_latestRead wsX5_latestRead) := goodIn_app (goodIn_of _ (by decide +kernel)) ggL_latestRead_X5_latestRead
theorem dL_latestRead_0 : decode cL_latestRead 0 = .ok (.aload_n 2, 1) := by decide +kernel
theorem dL_latestRead_1 : decode cL_latestRead 1 = .ok (.iconst 0, 1) := by decide +kernel
theorem dL_latestRead_2 : decode cL_latestRead 2 = .ok (.aload_n 0, 1) := by decide +kernel
theorem dL_latestRead_3 : decode cL_latestRead 3 = .ok (.iload_n 1, 1) := by decide +kernel
theorem dL_latestRead_4 : decode cL_latestRead 4 = .ok (.invokevirtual 44, 3) := by decide +kernel
theorem dL_latestRead_7 : decode cL_latestRead 7 = .ok (.i2l, 1) := by decide +kernel
theorem dL_latestRead_8 : decode cL_latestRead 8 = .ok (.lastore, 1) := by decide +kernel
theorem dL_latestRead_9 : decode cL_latestRead 9 = .ok (.goto 6, 3) := by decide +kernel
theorem dL_latestRead_12 : decode cL_latestRead 12 = .ok (.astore_n 3, 1) := by decide +kernel
theorem dL_latestRead_13 : decode cL_latestRead 13 = .ok (.iconst 1, 1) := by decide +kernel
theorem dL_latestRead_14 : decode cL_latestRead 14 = .ok (.ireturn, 1) := by decide +kernel
theorem dL_latestRead_15 : decode cL_latestRead 15 = .ok (.iconst 0, 1) := by decide +kernel
theorem dL_latestRead_16 : decode cL_latestRead 16 = .ok (.ireturn, 1) := by decide +kernel
set_option maxRecDepth 20000 in
theorem ggL_lineAt_X5_lineAt : GoodIn wsL_lineAt wsX5_lineAt := goodIn_ca (goodIn_ca (goodIn_r _ [7, 8, 9, 10, 11, 12, 13, 14, 6, 15, 16, 17, 18, 19, 20, 21, 22, 23, 24, 25, 26, 27, 28, 29, 30, 31, 32, 33, 34, 35] (by decide +kernel) (by decide +kernel)) (goodIn_sub (fun _ h => List.mem_cons_of_mem _ (List.mem_append_left _ (List.mem_append_right _ h))) (by decide +kernel))) (goodIn_sub (fun _ h => List.mem_cons_of_mem _ (List.mem_append_right _ h)) (by decide +kernel))
set_option maxRecDepth 20000 in
theorem gL_lineAt_X5_lineAt : GoodIn wsL_lineAt (wsV RL 47 RX5 yX5_lineAt wsX5_lineAt) := goodIn_app (goodIn_of _ (by decide +kernel)) ggL_lineAt_X5_lineAt
theorem dL_lineAt_0 : decode cL_lineAt 0 = .ok (.aload_n 3, 1) := by decide +kernel
theorem dL_lineAt_1 : decode cL_lineAt 1 = .ok (.iconst 0, 1) := by decide +kernel
theorem dL_lineAt_2 : decode cL_lineAt 2 = .ok (.aload_n 0, 1) := by decide +kernel
theorem dL_lineAt_3 : decode cL_lineAt 3 = .ok (.iload_n 1, 1) := by decide +kernel
theorem dL_lineAt_4 : decode cL_lineAt 4 = .ok (.iload_n 2, 1) := by decide +kernel
theorem dL_lineAt_5 : decode cL_lineAt 5 = .ok (.invokevirtual 47, 3) := by decide +kernel
theorem dL_lineAt_8 : decode cL_lineAt 8 = .ok (.i2l, 1) := by decide +kernel
theorem dL_lineAt_9 : decode cL_lineAt 9 = .ok (.lastore, 1) := by decide +kernel
theorem dL_lineAt_10 : decode cL_lineAt 10 = .ok (.goto 11, 3) := by decide +kernel
theorem dL_lineAt_13 : decode cL_lineAt 13 = .ok (.astore 4, 2) := by decide +kernel
theorem dL_lineAt_15 : decode cL_lineAt 15 = .ok (.iconst 1, 1) := by decide +kernel
theorem dL_lineAt_16 : decode cL_lineAt 16 = .ok (.ireturn, 1) := by decide +kernel
theorem dL_lineAt_17 : decode cL_lineAt 17 = .ok (.astore 4, 2) := by decide +kernel
theorem dL_lineAt_19 : decode cL_lineAt 19 = .ok (.iconst 2, 1) := by decide +kernel
theorem dL_lineAt_20 : decode cL_lineAt 20 = .ok (.ireturn, 1) := by decide +kernel
theorem dL_lineAt_21 : decode cL_lineAt 21 = .ok (.iconst 0, 1) := by decide +kernel
theorem dL_lineAt_22 : decode cL_lineAt 22 = .ok (.ireturn, 1) := by decide +kernel
set_option maxRecDepth 20000 in
theorem ggL_owner_X5_owner : GoodIn wsL_owner wsX5_owner := goodIn_ca (goodIn_r _ [6, 7, 8, 9, 10, 5, 11, 12, 13, 14, 15, 16, 17, 18, 19, 20, 21, 22, 23, 24, 25, 26, 27, 28, 29] (by decide +kernel) (by decide +kernel)) (goodIn_sub (fun _ h => List.mem_cons_of_mem _ (List.mem_append_right _ h)) (by decide +kernel))
set_option maxRecDepth 20000 in
theorem gL_owner_X5_owner : GoodIn wsL_owner (wsV RL 50 RX5 yX5_owner wsX5_owner) := goodIn_app (goodIn_of _ (by decide +kernel)) ggL_owner_X5_owner
theorem dL_owner_0 : decode cL_owner 0 = .ok (.aload_n 2, 1) := by decide +kernel
theorem dL_owner_1 : decode cL_owner 1 = .ok (.iconst 0, 1) := by decide +kernel
theorem dL_owner_2 : decode cL_owner 2 = .ok (.aload_n 0, 1) := by decide +kernel
theorem dL_owner_3 : decode cL_owner 3 = .ok (.iload_n 1, 1) := by decide +kernel
theorem dL_owner_4 : decode cL_owner 4 = .ok (.invokevirtual 50, 3) := by decide +kernel
theorem dL_owner_7 : decode cL_owner 7 = .ok (.i2l, 1) := by decide +kernel
theorem dL_owner_8 : decode cL_owner 8 = .ok (.lastore, 1) := by decide +kernel
theorem dL_owner_9 : decode cL_owner 9 = .ok (.goto 6, 3) := by decide +kernel
theorem dL_owner_12 : decode cL_owner 12 = .ok (.astore_n 3, 1) := by decide +kernel
theorem dL_owner_13 : decode cL_owner 13 = .ok (.iconst 1, 1) := by decide +kernel
theorem dL_owner_14 : decode cL_owner 14 = .ok (.ireturn, 1) := by decide +kernel
theorem dL_owner_15 : decode cL_owner 15 = .ok (.iconst 0, 1) := by decide +kernel
theorem dL_owner_16 : decode cL_owner 16 = .ok (.ireturn, 1) := by decide +kernel
set_option maxRecDepth 20000 in
theorem ggL_sharers_X5_sharers : GoodIn wsL_sharers wsX5_sharers := goodIn_ca (goodIn_r _ [6, 7, 8, 9, 10, 5, 11, 12, 13, 14, 15, 16, 17, 18, 19, 20, 21, 22, 23, 24, 25, 26, 27, 28, 29] (by decide +kernel) (by decide +kernel)) (goodIn_sub (fun _ h => List.mem_cons_of_mem _ (List.mem_append_right _ h)) (by decide +kernel))
set_option maxRecDepth 20000 in
theorem gL_sharers_X5_sharers : GoodIn wsL_sharers (wsV RL 53 RX5 yX5_sharers wsX5_sharers) := goodIn_app (goodIn_of _ (by decide +kernel)) ggL_sharers_X5_sharers
theorem dL_sharers_0 : decode cL_sharers 0 = .ok (.aload_n 2, 1) := by decide +kernel
theorem dL_sharers_1 : decode cL_sharers 1 = .ok (.iconst 0, 1) := by decide +kernel
theorem dL_sharers_2 : decode cL_sharers 2 = .ok (.aload_n 0, 1) := by decide +kernel
theorem dL_sharers_3 : decode cL_sharers 3 = .ok (.iload_n 1, 1) := by decide +kernel
theorem dL_sharers_4 : decode cL_sharers 4 = .ok (.invokevirtual 53, 3) := by decide +kernel
theorem dL_sharers_7 : decode cL_sharers 7 = .ok (.i2l, 1) := by decide +kernel
theorem dL_sharers_8 : decode cL_sharers 8 = .ok (.lastore, 1) := by decide +kernel
theorem dL_sharers_9 : decode cL_sharers 9 = .ok (.goto 6, 3) := by decide +kernel
theorem dL_sharers_12 : decode cL_sharers 12 = .ok (.astore_n 3, 1) := by decide +kernel
theorem dL_sharers_13 : decode cL_sharers 13 = .ok (.iconst 1, 1) := by decide +kernel
theorem dL_sharers_14 : decode cL_sharers 14 = .ok (.ireturn, 1) := by decide +kernel
theorem dL_sharers_15 : decode cL_sharers 15 = .ok (.iconst 0, 1) := by decide +kernel
theorem dL_sharers_16 : decode cL_sharers 16 = .ok (.ireturn, 1) := by decide +kernel
set_option maxRecDepth 20000 in
theorem ggL_isBusy_X5_isBusy : GoodIn wsL_isBusy wsX5_isBusy := goodIn_ca (goodIn_r _ [6, 7, 8, 9, 10, 5, 11, 12, 13, 14, 15, 16, 17, 18, 19, 20, 21, 22, 23, 24, 25, 26, 27, 28, 29] (by decide +kernel) (by decide +kernel)) (goodIn_sub (fun _ h => List.mem_cons_of_mem _ (List.mem_append_right _ h)) (by decide +kernel))
set_option maxRecDepth 20000 in
theorem gL_isBusy_X5_isBusy : GoodIn wsL_isBusy (wsV RL 56 RX5 yX5_isBusy wsX5_isBusy) := goodIn_app (goodIn_of _ (by decide +kernel)) ggL_isBusy_X5_isBusy
theorem dL_isBusy_0 : decode cL_isBusy 0 = .ok (.aload_n 2, 1) := by decide +kernel
theorem dL_isBusy_1 : decode cL_isBusy 1 = .ok (.iconst 0, 1) := by decide +kernel
theorem dL_isBusy_2 : decode cL_isBusy 2 = .ok (.aload_n 0, 1) := by decide +kernel
theorem dL_isBusy_3 : decode cL_isBusy 3 = .ok (.iload_n 1, 1) := by decide +kernel
theorem dL_isBusy_4 : decode cL_isBusy 4 = .ok (.invokevirtual 56, 3) := by decide +kernel
theorem dL_isBusy_7 : decode cL_isBusy 7 = .ok (.ifCond .eq 7, 3) := by decide +kernel
theorem dL_isBusy_10 : decode cL_isBusy 10 = .ok (.lconst 1, 1) := by decide +kernel
theorem dL_isBusy_11 : decode cL_isBusy 11 = .ok (.goto 4, 3) := by decide +kernel
theorem dL_isBusy_14 : decode cL_isBusy 14 = .ok (.lconst 0, 1) := by decide +kernel
theorem dL_isBusy_15 : decode cL_isBusy 15 = .ok (.lastore, 1) := by decide +kernel
theorem dL_isBusy_16 : decode cL_isBusy 16 = .ok (.goto 6, 3) := by decide +kernel
theorem dL_isBusy_19 : decode cL_isBusy 19 = .ok (.astore_n 3, 1) := by decide +kernel
theorem dL_isBusy_20 : decode cL_isBusy 20 = .ok (.iconst 1, 1) := by decide +kernel
theorem dL_isBusy_21 : decode cL_isBusy 21 = .ok (.ireturn, 1) := by decide +kernel
theorem dL_isBusy_22 : decode cL_isBusy 22 = .ok (.iconst 0, 1) := by decide +kernel
theorem dL_isBusy_23 : decode cL_isBusy 23 = .ok (.ireturn, 1) := by decide +kernel
set_option maxRecDepth 20000 in
theorem ggL_queued_X5_queued : GoodIn wsL_queued wsX5_queued := goodIn_ca (goodIn_r _ [6, 7, 8, 9, 10, 5, 11, 12, 13, 14, 15, 16, 17, 18, 19, 20, 21, 22, 23, 24, 25, 26, 27, 28, 29, 30, 31, 32, 33, 34, 35, 36, 37, 38] (by decide +kernel) (by decide +kernel)) (goodIn_sub (fun _ h => List.mem_cons_of_mem _ (List.mem_append_right _ h)) (by decide +kernel))
set_option maxRecDepth 20000 in
theorem gL_queued_X5_queued : GoodIn wsL_queued (wsV RL 60 RX5 yX5_queued wsX5_queued) := goodIn_app (goodIn_of _ (by decide +kernel)) ggL_queued_X5_queued
theorem dL_queued_0 : decode cL_queued 0 = .ok (.aload_n 2, 1) := by decide +kernel
theorem dL_queued_1 : decode cL_queued 1 = .ok (.iconst 0, 1) := by decide +kernel
theorem dL_queued_2 : decode cL_queued 2 = .ok (.aload_n 0, 1) := by decide +kernel
theorem dL_queued_3 : decode cL_queued 3 = .ok (.iload_n 1, 1) := by decide +kernel
theorem dL_queued_4 : decode cL_queued 4 = .ok (.invokevirtual 60, 3) := by decide +kernel
theorem dL_queued_7 : decode cL_queued 7 = .ok (.i2l, 1) := by decide +kernel
theorem dL_queued_8 : decode cL_queued 8 = .ok (.lastore, 1) := by decide +kernel
theorem dL_queued_9 : decode cL_queued 9 = .ok (.goto 6, 3) := by decide +kernel
theorem dL_queued_12 : decode cL_queued 12 = .ok (.astore_n 3, 1) := by decide +kernel
theorem dL_queued_13 : decode cL_queued 13 = .ok (.iconst 1, 1) := by decide +kernel
theorem dL_queued_14 : decode cL_queued 14 = .ok (.ireturn, 1) := by decide +kernel
theorem dL_queued_15 : decode cL_queued 15 = .ok (.iconst 0, 1) := by decide +kernel
theorem dL_queued_16 : decode cL_queued 16 = .ok (.ireturn, 1) := by decide +kernel
set_option maxRecDepth 20000 in
theorem ggL_memory_X5_memory : GoodIn wsL_memory wsX5_memory := goodIn_ca (goodIn_r _ [6, 7, 8, 9, 10, 5, 11, 12, 13, 14, 15, 16, 17, 18, 19, 20, 21, 22, 23, 24, 25, 26, 27, 28, 29] (by decide +kernel) (by decide +kernel)) (goodIn_sub (fun _ h => List.mem_cons_of_mem _ (List.mem_append_right _ h)) (by decide +kernel))
set_option maxRecDepth 20000 in
theorem gL_memory_X5_memory : GoodIn wsL_memory (wsV RL 63 RX5 yX5_memory wsX5_memory) := goodIn_app (goodIn_of _ (by decide +kernel)) ggL_memory_X5_memory
theorem dL_memory_0 : decode cL_memory 0 = .ok (.aload_n 2, 1) := by decide +kernel
theorem dL_memory_1 : decode cL_memory 1 = .ok (.iconst 0, 1) := by decide +kernel
theorem dL_memory_2 : decode cL_memory 2 = .ok (.aload_n 0, 1) := by decide +kernel
theorem dL_memory_3 : decode cL_memory 3 = .ok (.iload_n 1, 1) := by decide +kernel
theorem dL_memory_4 : decode cL_memory 4 = .ok (.invokevirtual 63, 3) := by decide +kernel
theorem dL_memory_7 : decode cL_memory 7 = .ok (.i2l, 1) := by decide +kernel
theorem dL_memory_8 : decode cL_memory 8 = .ok (.lastore, 1) := by decide +kernel
theorem dL_memory_9 : decode cL_memory 9 = .ok (.goto 6, 3) := by decide +kernel
theorem dL_memory_12 : decode cL_memory 12 = .ok (.astore_n 3, 1) := by decide +kernel
theorem dL_memory_13 : decode cL_memory 13 = .ok (.iconst 1, 1) := by decide +kernel
theorem dL_memory_14 : decode cL_memory 14 = .ok (.ireturn, 1) := by decide +kernel
theorem dL_memory_15 : decode cL_memory 15 = .ok (.iconst 0, 1) := by decide +kernel
theorem dL_memory_16 : decode cL_memory 16 = .ok (.ireturn, 1) := by decide +kernel
set_option maxRecDepth 20000 in
theorem ggL_messageKind_X5_messageKind : GoodIn wsL_messageKind wsX5_messageKind := goodIn_ca (goodIn_r _ [6, 7, 8, 9, 10, 5, 11, 12, 13, 14, 15, 16, 17, 18, 19, 20, 21, 22, 23, 24, 25, 26, 27, 28, 29, 30, 31, 32, 33, 34, 35, 36, 37, 38, 39, 40, 41, 42, 43, 44, 45, 46, 47, 48, 49, 50, 51, 52, 53] (by decide +kernel) (by decide +kernel)) (goodIn_sub (fun _ h => List.mem_cons_of_mem _ (List.mem_append_right _ h)) (by decide +kernel))
set_option maxRecDepth 20000 in
theorem gL_messageKind_X5_messageKind : GoodIn wsL_messageKind (wsV RL 66 RX5 yX5_messageKind wsX5_messageKind) := goodIn_app (goodIn_of _ (by decide +kernel)) ggL_messageKind_X5_messageKind
theorem dL_messageKind_0 : decode cL_messageKind 0 = .ok (.aload_n 2, 1) := by decide +kernel
theorem dL_messageKind_1 : decode cL_messageKind 1 = .ok (.iconst 0, 1) := by decide +kernel
theorem dL_messageKind_2 : decode cL_messageKind 2 = .ok (.aload_n 0, 1) := by decide +kernel
theorem dL_messageKind_3 : decode cL_messageKind 3 = .ok (.iload_n 1, 1) := by decide +kernel
theorem dL_messageKind_4 : decode cL_messageKind 4 = .ok (.invokevirtual 66, 3) := by decide +kernel
theorem dL_messageKind_7 : decode cL_messageKind 7 = .ok (.i2l, 1) := by decide +kernel
theorem dL_messageKind_8 : decode cL_messageKind 8 = .ok (.lastore, 1) := by decide +kernel
theorem dL_messageKind_9 : decode cL_messageKind 9 = .ok (.goto 6, 3) := by decide +kernel
theorem dL_messageKind_12 : decode cL_messageKind 12 = .ok (.astore_n 3, 1) := by decide +kernel
theorem dL_messageKind_13 : decode cL_messageKind 13 = .ok (.iconst 1, 1) := by decide +kernel
theorem dL_messageKind_14 : decode cL_messageKind 14 = .ok (.ireturn, 1) := by decide +kernel
theorem dL_messageKind_15 : decode cL_messageKind 15 = .ok (.iconst 0, 1) := by decide +kernel
theorem dL_messageKind_16 : decode cL_messageKind 16 = .ok (.ireturn, 1) := by decide +kernel
set_option maxRecDepth 20000 in
theorem ggL_messageLine_X5_messageLine : GoodIn wsL_messageLine wsX5_messageLine := goodIn_ca (goodIn_r _ [6, 7, 8, 9, 10, 5, 11, 12, 13, 14, 15, 16, 17, 18, 19, 20, 21, 22, 23, 24, 25, 26, 27, 28, 29, 30, 31, 32, 33, 34, 35, 36, 37, 38, 39, 40, 41, 42, 43, 44, 45, 46, 47, 48, 49, 50, 51, 52, 53] (by decide +kernel) (by decide +kernel)) (goodIn_sub (fun _ h => List.mem_cons_of_mem _ (List.mem_append_right _ h)) (by decide +kernel))
set_option maxRecDepth 20000 in
theorem gL_messageLine_X5_messageLine : GoodIn wsL_messageLine (wsV RL 69 RX5 yX5_messageLine wsX5_messageLine) := goodIn_app (goodIn_of _ (by decide +kernel)) ggL_messageLine_X5_messageLine
theorem dL_messageLine_0 : decode cL_messageLine 0 = .ok (.aload_n 2, 1) := by decide +kernel
theorem dL_messageLine_1 : decode cL_messageLine 1 = .ok (.iconst 0, 1) := by decide +kernel
theorem dL_messageLine_2 : decode cL_messageLine 2 = .ok (.aload_n 0, 1) := by decide +kernel
theorem dL_messageLine_3 : decode cL_messageLine 3 = .ok (.iload_n 1, 1) := by decide +kernel
theorem dL_messageLine_4 : decode cL_messageLine 4 = .ok (.invokevirtual 69, 3) := by decide +kernel
theorem dL_messageLine_7 : decode cL_messageLine 7 = .ok (.i2l, 1) := by decide +kernel
theorem dL_messageLine_8 : decode cL_messageLine 8 = .ok (.lastore, 1) := by decide +kernel
theorem dL_messageLine_9 : decode cL_messageLine 9 = .ok (.goto 6, 3) := by decide +kernel
theorem dL_messageLine_12 : decode cL_messageLine 12 = .ok (.astore_n 3, 1) := by decide +kernel
theorem dL_messageLine_13 : decode cL_messageLine 13 = .ok (.iconst 1, 1) := by decide +kernel
theorem dL_messageLine_14 : decode cL_messageLine 14 = .ok (.ireturn, 1) := by decide +kernel
theorem dL_messageLine_15 : decode cL_messageLine 15 = .ok (.iconst 0, 1) := by decide +kernel
theorem dL_messageLine_16 : decode cL_messageLine 16 = .ok (.ireturn, 1) := by decide +kernel
set_option maxRecDepth 20000 in
theorem ggL_messageFrom_X5_messageFrom : GoodIn wsL_messageFrom wsX5_messageFrom := goodIn_ca (goodIn_r _ [6, 7, 8, 9, 10, 5, 11, 12, 13, 14, 15, 16, 17, 18, 19, 20, 21, 22, 23, 24, 25, 26, 27, 28, 29, 30, 31, 32, 33, 34, 35, 36, 37, 38, 39, 40, 41, 42, 43, 44, 45, 46, 47, 48, 49, 50, 51, 52, 53] (by decide +kernel) (by decide +kernel)) (goodIn_sub (fun _ h => List.mem_cons_of_mem _ (List.mem_append_right _ h)) (by decide +kernel))
set_option maxRecDepth 20000 in
theorem gL_messageFrom_X5_messageFrom : GoodIn wsL_messageFrom (wsV RL 72 RX5 yX5_messageFrom wsX5_messageFrom) := goodIn_app (goodIn_of _ (by decide +kernel)) ggL_messageFrom_X5_messageFrom
theorem dL_messageFrom_0 : decode cL_messageFrom 0 = .ok (.aload_n 2, 1) := by decide +kernel
theorem dL_messageFrom_1 : decode cL_messageFrom 1 = .ok (.iconst 0, 1) := by decide +kernel
theorem dL_messageFrom_2 : decode cL_messageFrom 2 = .ok (.aload_n 0, 1) := by decide +kernel
theorem dL_messageFrom_3 : decode cL_messageFrom 3 = .ok (.iload_n 1, 1) := by decide +kernel
theorem dL_messageFrom_4 : decode cL_messageFrom 4 = .ok (.invokevirtual 72, 3) := by decide +kernel
theorem dL_messageFrom_7 : decode cL_messageFrom 7 = .ok (.i2l, 1) := by decide +kernel
theorem dL_messageFrom_8 : decode cL_messageFrom 8 = .ok (.lastore, 1) := by decide +kernel
theorem dL_messageFrom_9 : decode cL_messageFrom 9 = .ok (.goto 6, 3) := by decide +kernel
theorem dL_messageFrom_12 : decode cL_messageFrom 12 = .ok (.astore_n 3, 1) := by decide +kernel
theorem dL_messageFrom_13 : decode cL_messageFrom 13 = .ok (.iconst 1, 1) := by decide +kernel
theorem dL_messageFrom_14 : decode cL_messageFrom 14 = .ok (.ireturn, 1) := by decide +kernel
theorem dL_messageFrom_15 : decode cL_messageFrom 15 = .ok (.iconst 0, 1) := by decide +kernel
theorem dL_messageFrom_16 : decode cL_messageFrom 16 = .ok (.ireturn, 1) := by decide +kernel
set_option maxRecDepth 20000 in
theorem ggL_messageTo_X5_messageTo : GoodIn wsL_messageTo wsX5_messageTo := goodIn_ca (goodIn_r _ [6, 7, 8, 9, 10, 5, 11, 12, 13, 14, 15, 16, 17, 18, 19, 20, 21, 22, 23, 24, 25, 26, 27, 28, 29, 30, 31, 32, 33, 34, 35, 36, 37, 38, 39, 40, 41, 42, 43, 44, 45, 46, 47, 48, 49, 50, 51, 52, 53] (by decide +kernel) (by decide +kernel)) (goodIn_sub (fun _ h => List.mem_cons_of_mem _ (List.mem_append_right _ h)) (by decide +kernel))
set_option maxRecDepth 20000 in
theorem gL_messageTo_X5_messageTo : GoodIn wsL_messageTo (wsV RL 75 RX5 yX5_messageTo wsX5_messageTo) := goodIn_app (goodIn_of _ (by decide +kernel)) ggL_messageTo_X5_messageTo
theorem dL_messageTo_0 : decode cL_messageTo 0 = .ok (.aload_n 2, 1) := by decide +kernel
theorem dL_messageTo_1 : decode cL_messageTo 1 = .ok (.iconst 0, 1) := by decide +kernel
theorem dL_messageTo_2 : decode cL_messageTo 2 = .ok (.aload_n 0, 1) := by decide +kernel
theorem dL_messageTo_3 : decode cL_messageTo 3 = .ok (.iload_n 1, 1) := by decide +kernel
theorem dL_messageTo_4 : decode cL_messageTo 4 = .ok (.invokevirtual 75, 3) := by decide +kernel
theorem dL_messageTo_7 : decode cL_messageTo 7 = .ok (.i2l, 1) := by decide +kernel
theorem dL_messageTo_8 : decode cL_messageTo 8 = .ok (.lastore, 1) := by decide +kernel
theorem dL_messageTo_9 : decode cL_messageTo 9 = .ok (.goto 6, 3) := by decide +kernel
theorem dL_messageTo_12 : decode cL_messageTo 12 = .ok (.astore_n 3, 1) := by decide +kernel
theorem dL_messageTo_13 : decode cL_messageTo 13 = .ok (.iconst 1, 1) := by decide +kernel
theorem dL_messageTo_14 : decode cL_messageTo 14 = .ok (.ireturn, 1) := by decide +kernel
theorem dL_messageTo_15 : decode cL_messageTo 15 = .ok (.iconst 0, 1) := by decide +kernel
theorem dL_messageTo_16 : decode cL_messageTo 16 = .ok (.ireturn, 1) := by decide +kernel
set_option maxRecDepth 20000 in
theorem ggL_deliver_X5_deliver : GoodIn wsL_deliver wsX5_deliver := goodIn_ca (goodIn_r _ [6, 7, 8, 9, 10, 11, 5, 12, 13, 14, 15, 16, 17, 18, 19, 20, 21, 22, 23, 24, 25, 26, 27, 28, 29, 30, 31, 32, 33, 34, 35, 36, 37, 38, 39, 40, 41, 42, 43, 44, 45, 46, 47, 48, 49, 50, 51, 52, 53, 54, 55, 56, 57, 58, 59, 60, 61, 62, 63, 64, 65, 66, 67, 68, 69, 70, 71, 72, 73, 74, 75, 76, 77, 78, 79, 80, 81, 82, 83, 84, 85, 86, 87, 88, 89, 90, 91, 92, 93, 94, 95, 96, 97, 98, 99, 100, 101, 102, 103, 104, 105, 106, 107, 108, 109, 110, 111, 112, 113, 114, 115, 116, 117, 118, 119, 120, 121, 122, 123, 124, 125, 126, 127, 128, 129, 130, 131, 132, 133, 134, 135, 136, 137, 138, 139, 140, 141, 142, 143, 144, 145, 146, 147, 148, 149, 150, 151, 152, 153, 154, 155, 156, 157, 158, 159, 160, 161, 162, 163, 164, 165, 166, 167, 168, 169, 170, 171, 172, 173, 174, 175, 176, 177, 178, 179, 180, 181, 182, 183, 184, 185, 186, 187, 188, 189, 190, 191, 192, 193, 194, 195, 196, 197, 198, 199, 200, 201, 202, 203, 204, 205, 206, 207, 208, 209, 210, 211, 212, 213, 214, 215, 216, 217, 218, 219, 220, 221, 222, 223, 224, 225, 226, 227, 228, 229, 230, 231, 232, 233, 234, 235, 236, 237, 238, 239, 240, 241, 242, 243, 244, 245, 246, 247, 248, 249, 250, 251, 252, 253, 254, 255, 256, 257, 258, 259, 260, 261, 262, 263, 264, 265, 266, 267, 268, 269, 270, 271, 272, 273, 274, 275, 276, 277, 278, 279, 280, 281, 282, 283, 284, 285, 286, 287, 288, 289, 290, 291, 292, 293, 294, 295, 296, 297, 298, 299] (by decide +kernel) (by decide +kernel)) (goodIn_sub (fun _ h => List.mem_cons_of_mem _ (List.mem_append_right _ h)) (by decide +kernel))
set_option maxRecDepth 20000 in
theorem gL_deliver_X5_deliver : GoodIn wsL_deliver (wsV RL 78 RX5 yX5_deliver wsX5_deliver) := goodIn_app (goodIn_of _ (by decide +kernel)) ggL_deliver_X5_deliver
theorem dL_deliver_0 : decode cL_deliver 0 = .ok (.aload_n 2, 1) := by decide +kernel
theorem dL_deliver_1 : decode cL_deliver 1 = .ok (.iconst 0, 1) := by decide +kernel
theorem dL_deliver_2 : decode cL_deliver 2 = .ok (.aload_n 0, 1) := by decide +kernel
theorem dL_deliver_3 : decode cL_deliver 3 = .ok (.iload_n 1, 1) := by decide +kernel
theorem dL_deliver_4 : decode cL_deliver 4 = .ok (.invokevirtual 78, 3) := by decide +kernel
theorem dL_deliver_7 : decode cL_deliver 7 = .ok (.i2l, 1) := by decide +kernel
theorem dL_deliver_8 : decode cL_deliver 8 = .ok (.lastore, 1) := by decide +kernel
theorem dL_deliver_9 : decode cL_deliver 9 = .ok (.goto 6, 3) := by decide +kernel
theorem dL_deliver_12 : decode cL_deliver 12 = .ok (.astore_n 3, 1) := by decide +kernel
theorem dL_deliver_13 : decode cL_deliver 13 = .ok (.iconst 1, 1) := by decide +kernel
theorem dL_deliver_14 : decode cL_deliver 14 = .ok (.ireturn, 1) := by decide +kernel
theorem dL_deliver_15 : decode cL_deliver 15 = .ok (.iconst 0, 1) := by decide +kernel
theorem dL_deliver_16 : decode cL_deliver 16 = .ok (.ireturn, 1) := by decide +kernel
set_option maxRecDepth 20000 in
theorem ggL_settle_X5_settle : GoodIn wsL_settle wsX5_settle := goodIn_ca (goodIn_ca (goodIn_r _ [6, 7, 8, 9, 10, 11, 12, 13, 14, 15, 16, 17, 18, 19, 5, 20, 21, 22, 23, 24, 25, 26, 27, 28, 29, 30, 31, 32, 33, 34, 35, 36, 37, 38, 39, 40, 41, 42, 43, 44, 45, 46, 47, 48, 49, 50, 51, 52, 53, 54, 55, 56, 57, 58, 59, 60, 61, 62, 63, 64, 65, 66, 67, 68, 69, 70, 71, 72, 73, 74, 75, 76, 77, 78, 79, 80, 81, 82, 83, 84, 85, 86, 87, 88, 89, 90, 91, 92, 93, 94, 95, 96, 97, 98, 99, 100, 101, 102, 103, 104, 105, 106, 107, 108, 109, 110, 111, 112, 113, 114, 115, 116, 117, 118, 119, 120, 121, 122, 123, 124, 125, 126, 127, 128, 129, 130, 131, 132, 133, 134, 135, 136, 137, 138, 139, 140, 141, 142, 143, 144, 145, 146, 147, 148, 149, 150, 151, 152, 153, 154, 155, 156, 157, 158, 159, 160, 161, 162, 163, 164, 165, 166, 167, 168, 169, 170, 171, 172, 173, 174, 175, 176, 177, 178, 179, 180, 181, 182, 183, 184, 185, 186, 187, 188, 189, 190, 191, 192, 193, 194, 195, 196, 197, 198, 199, 200, 201, 202, 203, 204, 205, 206, 207, 208, 209, 210, 211, 212, 213, 214, 215, 216, 217, 218, 219, 220, 221, 222, 223, 224, 225, 226, 227, 228, 229, 230, 231, 232, 233, 234, 235, 236, 237, 238, 239, 240, 241, 242, 243, 244, 245, 246, 247, 248, 249, 250, 251, 252, 253, 254, 255, 256, 257, 258, 259, 260, 261, 262, 263, 264, 265, 266, 267, 268, 269, 270, 271, 272, 273, 274, 275, 276, 277, 278, 279, 280, 281, 282, 283, 284, 285, 286, 287, 288, 289, 290, 291, 292, 293, 294, 295, 296, 297, 298, 299, 300, 301, 302] (by decide +kernel) (by decide +kernel)) (goodIn_sub (fun _ h => List.mem_cons_of_mem _ (List.mem_append_left _ (List.mem_append_right _ h))) (by decide +kernel))) (goodIn_sub (fun _ h => List.mem_cons_of_mem _ (List.mem_append_right _ h)) (by decide +kernel))
set_option maxRecDepth 20000 in
theorem gL_settle_X5_settle : GoodIn wsL_settle (wsV RL 81 RX5 yX5_settle wsX5_settle) := goodIn_app (goodIn_of _ (by decide +kernel)) ggL_settle_X5_settle
theorem dL_settle_0 : decode cL_settle 0 = .ok (.aload_n 2, 1) := by decide +kernel
theorem dL_settle_1 : decode cL_settle 1 = .ok (.iconst 0, 1) := by decide +kernel
theorem dL_settle_2 : decode cL_settle 2 = .ok (.aload_n 0, 1) := by decide +kernel
theorem dL_settle_3 : decode cL_settle 3 = .ok (.iload_n 1, 1) := by decide +kernel
theorem dL_settle_4 : decode cL_settle 4 = .ok (.invokevirtual 81, 3) := by decide +kernel
theorem dL_settle_7 : decode cL_settle 7 = .ok (.i2l, 1) := by decide +kernel
theorem dL_settle_8 : decode cL_settle 8 = .ok (.lastore, 1) := by decide +kernel
theorem dL_settle_9 : decode cL_settle 9 = .ok (.goto 6, 3) := by decide +kernel
theorem dL_settle_12 : decode cL_settle 12 = .ok (.astore_n 3, 1) := by decide +kernel
theorem dL_settle_13 : decode cL_settle 13 = .ok (.iconst 1, 1) := by decide +kernel
theorem dL_settle_14 : decode cL_settle 14 = .ok (.ireturn, 1) := by decide +kernel
theorem dL_settle_15 : decode cL_settle 15 = .ok (.iconst 0, 1) := by decide +kernel
theorem dL_settle_16 : decode cL_settle 16 = .ok (.ireturn, 1) := by decide +kernel
set_option maxRecDepth 20000 in
theorem ggL_hits_X5_hits : GoodIn wsL_hits wsX5_hits := goodIn_ca (goodIn_r _ [6, 7, 8, 9, 10, 5, 11, 12, 13, 14, 15, 16, 17, 18, 19, 20, 21, 22, 23, 24, 25, 26, 27, 28, 29, 30, 31] (by decide +kernel) (by decide +kernel)) (goodIn_sub (fun _ h => List.mem_cons_of_mem _ (List.mem_append_right _ h)) (by decide +kernel))
set_option maxRecDepth 20000 in
theorem gL_hits_X5_hits : GoodIn wsL_hits (wsV RL 84 RX5 yX5_hits wsX5_hits) := goodIn_app (goodIn_of _ (by decide +kernel)) ggL_hits_X5_hits
theorem dL_hits_0 : decode cL_hits 0 = .ok (.aload_n 2, 1) := by decide +kernel
theorem dL_hits_1 : decode cL_hits 1 = .ok (.iconst 0, 1) := by decide +kernel
theorem dL_hits_2 : decode cL_hits 2 = .ok (.aload_n 0, 1) := by decide +kernel
theorem dL_hits_3 : decode cL_hits 3 = .ok (.iload_n 1, 1) := by decide +kernel
theorem dL_hits_4 : decode cL_hits 4 = .ok (.invokevirtual 84, 3) := by decide +kernel
theorem dL_hits_7 : decode cL_hits 7 = .ok (.i2l, 1) := by decide +kernel
theorem dL_hits_8 : decode cL_hits 8 = .ok (.lastore, 1) := by decide +kernel
theorem dL_hits_9 : decode cL_hits 9 = .ok (.goto 6, 3) := by decide +kernel
theorem dL_hits_12 : decode cL_hits 12 = .ok (.astore_n 3, 1) := by decide +kernel
theorem dL_hits_13 : decode cL_hits 13 = .ok (.iconst 1, 1) := by decide +kernel
theorem dL_hits_14 : decode cL_hits 14 = .ok (.ireturn, 1) := by decide +kernel
theorem dL_hits_15 : decode cL_hits 15 = .ok (.iconst 0, 1) := by decide +kernel
theorem dL_hits_16 : decode cL_hits 16 = .ok (.ireturn, 1) := by decide +kernel
set_option maxRecDepth 20000 in
theorem ggL_misses_X5_misses : GoodIn wsL_misses wsX5_misses := goodIn_ca (goodIn_r _ [6, 7, 8, 9, 10, 5, 11, 12, 13, 14, 15, 16, 17, 18, 19, 20, 21, 22, 23, 24, 25, 26, 27, 28, 29, 30, 31] (by decide +kernel) (by decide +kernel)) (goodIn_sub (fun _ h => List.mem_cons_of_mem _ (List.mem_append_right _ h)) (by decide +kernel))
set_option maxRecDepth 20000 in
theorem gL_misses_X5_misses : GoodIn wsL_misses (wsV RL 87 RX5 yX5_misses wsX5_misses) := goodIn_app (goodIn_of _ (by decide +kernel)) ggL_misses_X5_misses
theorem dL_misses_0 : decode cL_misses 0 = .ok (.aload_n 2, 1) := by decide +kernel
theorem dL_misses_1 : decode cL_misses 1 = .ok (.iconst 0, 1) := by decide +kernel
theorem dL_misses_2 : decode cL_misses 2 = .ok (.aload_n 0, 1) := by decide +kernel
theorem dL_misses_3 : decode cL_misses 3 = .ok (.iload_n 1, 1) := by decide +kernel
theorem dL_misses_4 : decode cL_misses 4 = .ok (.invokevirtual 87, 3) := by decide +kernel
theorem dL_misses_7 : decode cL_misses 7 = .ok (.i2l, 1) := by decide +kernel
theorem dL_misses_8 : decode cL_misses 8 = .ok (.lastore, 1) := by decide +kernel
theorem dL_misses_9 : decode cL_misses 9 = .ok (.goto 6, 3) := by decide +kernel
theorem dL_misses_12 : decode cL_misses 12 = .ok (.astore_n 3, 1) := by decide +kernel
theorem dL_misses_13 : decode cL_misses 13 = .ok (.iconst 1, 1) := by decide +kernel
theorem dL_misses_14 : decode cL_misses 14 = .ok (.ireturn, 1) := by decide +kernel
theorem dL_misses_15 : decode cL_misses 15 = .ok (.iconst 0, 1) := by decide +kernel
theorem dL_misses_16 : decode cL_misses 16 = .ok (.ireturn, 1) := by decide +kernel
set_option maxRecDepth 20000 in
theorem ggL_isInOrder_X5_isInOrder : GoodIn wsL_isInOrder wsX5_isInOrder := goodIn_ca (goodIn_r _ [6, 7, 8, 9, 10, 11, 5, 12, 13, 14, 15, 16, 17, 18, 19, 20, 21, 22, 23, 24, 25, 26, 27, 28, 29, 30, 31, 32, 33, 34, 35, 36, 37] (by decide +kernel) (by decide +kernel)) (goodIn_sub (fun _ h => List.mem_cons_of_mem _ (List.mem_append_right _ h)) (by decide +kernel))
set_option maxRecDepth 20000 in
theorem gL_isInOrder_X5_isInOrder : GoodIn wsL_isInOrder (wsV RL 90 RX5 yX5_isInOrder wsX5_isInOrder) := goodIn_app (goodIn_of _ (by decide +kernel)) ggL_isInOrder_X5_isInOrder
theorem dL_isInOrder_0 : decode cL_isInOrder 0 = .ok (.aload_n 2, 1) := by decide +kernel
theorem dL_isInOrder_1 : decode cL_isInOrder 1 = .ok (.iconst 0, 1) := by decide +kernel
theorem dL_isInOrder_2 : decode cL_isInOrder 2 = .ok (.aload_n 0, 1) := by decide +kernel
theorem dL_isInOrder_3 : decode cL_isInOrder 3 = .ok (.iload_n 1, 1) := by decide +kernel
theorem dL_isInOrder_4 : decode cL_isInOrder 4 = .ok (.invokevirtual 90, 3) := by decide +kernel
theorem dL_isInOrder_7 : decode cL_isInOrder 7 = .ok (.ifCond .eq 7, 3) := by decide +kernel
theorem dL_isInOrder_10 : decode cL_isInOrder 10 = .ok (.lconst 1, 1) := by decide +kernel
theorem dL_isInOrder_11 : decode cL_isInOrder 11 = .ok (.goto 4, 3) := by decide +kernel
theorem dL_isInOrder_14 : decode cL_isInOrder 14 = .ok (.lconst 0, 1) := by decide +kernel
theorem dL_isInOrder_15 : decode cL_isInOrder 15 = .ok (.lastore, 1) := by decide +kernel
theorem dL_isInOrder_16 : decode cL_isInOrder 16 = .ok (.goto 6, 3) := by decide +kernel
theorem dL_isInOrder_19 : decode cL_isInOrder 19 = .ok (.astore_n 3, 1) := by decide +kernel
theorem dL_isInOrder_20 : decode cL_isInOrder 20 = .ok (.iconst 1, 1) := by decide +kernel
theorem dL_isInOrder_21 : decode cL_isInOrder 21 = .ok (.ireturn, 1) := by decide +kernel
theorem dL_isInOrder_22 : decode cL_isInOrder 22 = .ok (.iconst 0, 1) := by decide +kernel
theorem dL_isInOrder_23 : decode cL_isInOrder 23 = .ok (.ireturn, 1) := by decide +kernel
