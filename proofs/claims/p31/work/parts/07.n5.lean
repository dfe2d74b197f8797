set_option maxRecDepth 20000 in
theorem ggX5_init_X3_init : GoodIn wsX5_init wsX3_init := goodIn_r _ [17, 18, 2, 3, 19, 20, 21, 22, 23, 24, 25, 26, 27, 28, 29, 30, 31, 32, 33, 34, 35, 36, 37, 106, 107, 108, 79] (by decide +kernel) (by decide +kernel)
set_option maxRecDepth 20000 in
theorem gX5_init_X3_init_n9 : GoodIn wsX5_init (wsX3_init) := ggX5_init_X3_init
set_option maxRecDepth 20000 in
theorem ggX5_init_X0_init : GoodIn wsX5_init wsX0_init := goodIn_r _ [40, 41, 2, 3, 42, 43, 44, 45, 46, 47, 48, 49, 50, 51, 52, 53, 54, 55, 56, 57, 58, 59, 60, 61, 62, 63, 109, 110, 111, 112, 113, 114, 115, 83, 84, 85, 86, 87, 88, 89, 90, 91, 92, 93, 94, 95, 96] (by decide +kernel) (by decide +kernel)
set_option maxRecDepth 20000 in
theorem gX5_init_X0_init : GoodIn wsX5_init (wsX0_init) := ggX5_init_X0_init
set_option maxRecDepth 20000 in
theorem ggX5_init_X1_init : GoodIn wsX5_init wsX1_init := goodIn_r _ [66, 67, 2, 3, 68, 20, 21, 69, 70, 71, 72, 73, 74, 75, 76, 77, 78, 24, 25, 26, 27, 28, 29, 30, 31, 32, 33, 34, 35, 36, 37, 106, 107, 108, 97, 98, 99, 100, 101, 102, 103, 104, 105] (by decide +kernel) (by decide +kernel)
set_option maxRecDepth 20000 in
theorem gX5_init_X1_init : GoodIn wsX5_init (wsX1_init) := ggX5_init_X1_init
theorem dX5_init_0 : decode cX5_init 0 = .ok (.aload_n 0, 1) := by decide +kernel
theorem dX5_init_1 : decode cX5_init 1 = .ok (.invokespecial 1, 3) := by decide +kernel
theorem dX5_init_4 : decode cX5_init 4 = .ok (.aload_n 0, 1) := by decide +kernel
theorem dX5_init_5 : decode cX5_init 5 = .ok (.new 7, 3) := by decide +kernel
theorem dX5_init_8 : decode cX5_init 8 = .ok (.dup, 1) := by decide +kernel
theorem dX5_init_9 : decode cX5_init 9 = .ok (.invokespecial 9, 3) := by decide +kernel
theorem dX5_init_12 : decode cX5_init 12 = .ok (.putfield 10, 3) := by decide +kernel
theorem dX5_init_15 : decode cX5_init 15 = .ok (.aload_n 0, 1) := by decide +kernel
theorem dX5_init_16 : decode cX5_init 16 = .ok (.iconst 4, 1) := by decide +kernel
theorem dX5_init_17 : decode cX5_init 17 = .ok (.anewarray 16, 3) := by decide +kernel
theorem dX5_init_20 : decode cX5_init 20 = .ok (.putfield 18, 3) := by decide +kernel
theorem dX5_init_23 : decode cX5_init 23 = .ok (.iconst 0, 1) := by decide +kernel
theorem dX5_init_24 : decode cX5_init 24 = .ok (.istore_n 1, 1) := by decide +kernel
theorem dX5_init_25 : decode cX5_init 25 = .ok (.iload_n 1, 1) := by decide +kernel
theorem dX5_init_26 : decode cX5_init 26 = .ok (.iconst 4, 1) := by decide +kernel
theorem dX5_init_27 : decode cX5_init 27 = .ok (.if_icmp .ge 27, 3) := by decide +kernel
theorem dX5_init_30 : decode cX5_init 30 = .ok (.aload_n 0, 1) := by decide +kernel
theorem dX5_init_31 : decode cX5_init 31 = .ok (.getfield 18, 3) := by decide +kernel
theorem dX5_init_34 : decode cX5_init 34 = .ok (.iload_n 1, 1) := by decide +kernel
theorem dX5_init_35 : decode cX5_init 35 = .ok (.new 16, 3) := by decide +kernel
theorem dX5_init_38 : decode cX5_init 38 = .ok (.dup, 1) := by decide +kernel
theorem dX5_init_39 : decode cX5_init 39 = .ok (.iload_n 1, 1) := by decide +kernel
theorem dX5_init_40 : decode cX5_init 40 = .ok (.aload_n 0, 1) := by decide +kernel
theorem dX5_init_41 : decode cX5_init 41 = .ok (.getfield 10, 3) := by decide +kernel
theorem dX5_init_44 : decode cX5_init 44 = .ok (.invokespecial 22, 3) := by decide +kernel
theorem dX5_init_47 : decode cX5_init 47 = .ok (.aastore, 1) := by decide +kernel
theorem dX5_init_48 : decode cX5_init 48 = .ok (.iinc 1 1, 3) := by decide +kernel
theorem dX5_init_51 : decode cX5_init 51 = .ok (.goto (-26), 3) := by decide +kernel
theorem dX5_init_54 : decode cX5_init 54 = .ok (.aload_n 0, 1) := by decide +kernel
theorem dX5_init_55 : decode cX5_init 55 = .ok (.bipush 16, 2) := by decide +kernel
theorem dX5_init_57 : decode cX5_init 57 = .ok (.anewarray 25, 3) := by decide +kernel
theorem dX5_init_60 : decode cX5_init 60 = .ok (.putfield 27, 3) := by decide +kernel
theorem dX5_init_63 : decode cX5_init 63 = .ok (.iconst 0, 1) := by decide +kernel
theorem dX5_init_64 : decode cX5_init 64 = .ok (.istore_n 1, 1) := by decide +kernel
theorem dX5_init_65 : decode cX5_init 65 = .ok (.iload_n 1, 1) := by decide +kernel
theorem dX5_init_66 : decode cX5_init 66 = .ok (.bipush 16, 2) := by decide +kernel
theorem dX5_init_68 : decode cX5_init 68 = .ok (.if_icmp .ge 27, 3) := by decide +kernel
theorem dX5_init_71 : decode cX5_init 71 = .ok (.aload_n 0, 1) := by decide +kernel
theorem dX5_init_72 : decode cX5_init 72 = .ok (.getfield 27, 3) := by decide +kernel
theorem dX5_init_75 : decode cX5_init 75 = .ok (.iload_n 1, 1) := by decide +kernel
theorem dX5_init_76 : decode cX5_init 76 = .ok (.new 25, 3) := by decide +kernel
theorem dX5_init_79 : decode cX5_init 79 = .ok (.dup, 1) := by decide +kernel
theorem dX5_init_80 : decode cX5_init 80 = .ok (.iload_n 1, 1) := by decide +kernel
theorem dX5_init_81 : decode cX5_init 81 = .ok (.aload_n 0, 1) := by decide +kernel
theorem dX5_init_82 : decode cX5_init 82 = .ok (.getfield 10, 3) := by decide +kernel
theorem dX5_init_85 : decode cX5_init 85 = .ok (.invokespecial 31, 3) := by decide +kernel
theorem dX5_init_88 : decode cX5_init 88 = .ok (.aastore, 1) := by decide +kernel
theorem dX5_init_89 : decode cX5_init 89 = .ok (.iinc 1 1, 3) := by decide +kernel
theorem dX5_init_92 : decode cX5_init 92 = .ok (.goto (-27), 3) := by decide +kernel
theorem dX5_init_95 : decode cX5_init 95 = .ok (.return_, 1) := by decide +kernel
set_option maxRecDepth 20000 in
theorem ggX5_setRoom_X5_cacheAt : GoodIn wsX5_setRoom wsX5_cacheAt := goodIn_ca (goodIn_r _ [11, 12, 13, 14, 38, 39, 40] (by decide +kernel) (by decide +kernel)) (goodIn_sub (fun _ h => List.mem_cons_of_mem _ (List.mem_append_right _ h)) (by decide +kernel))
set_option maxRecDepth 20000 in
theorem gX5_setRoom_X5_cacheAt : GoodIn wsX5_setRoom (wsV RX5 32 RX5 yX5_cacheAt wsX5_cacheAt) := goodIn_app (goodIn_of _ (by decide +kernel)) ggX5_setRoom_X5_cacheAt
set_option maxRecDepth 20000 in
theorem ggX5_setRoom_X0_isInUse : GoodIn wsX5_setRoom wsX0_isInUse := goodIn_r _ [19, 20, 21, 22, 23, 24, 25, 26, 27, 28, 29, 30, 31, 32, 33, 34, 35, 36, 37, 41, 42, 43, 44, 45, 46, 47] (by decide +kernel) (by decide +kernel)
set_option maxRecDepth 20000 in
theorem gX5_setRoom_X0_isInUse : GoodIn wsX5_setRoom (wsV RX5 45 RX0 yX0_isInUse wsX0_isInUse) := goodIn_app (goodIn_of _ (by decide +kernel)) ggX5_setRoom_X0_isInUse
theorem dX5_setRoom_0 : decode cX5_setRoom 0 = .ok (.aload_n 0, 1) := by decide +kernel
theorem dX5_setRoom_1 : decode cX5_setRoom 1 = .ok (.iload_n 1, 1) := by decide +kernel
theorem dX5_setRoom_2 : decode cX5_setRoom 2 = .ok (.invokevirtual 32, 3) := by decide +kernel
theorem dX5_setRoom_5 : decode cX5_setRoom 5 = .ok (.astore 4, 2) := by decide +kernel
theorem dX5_setRoom_7 : decode cX5_setRoom 7 = .ok (.iload_n 2, 1) := by decide +kernel
theorem dX5_setRoom_8 : decode cX5_setRoom 8 = .ok (.iconst 1, 1) := by decide +kernel
theorem dX5_setRoom_9 : decode cX5_setRoom 9 = .ok (.if_icmp .lt 8, 3) := by decide +kernel
theorem dX5_setRoom_12 : decode cX5_setRoom 12 = .ok (.iload_n 2, 1) := by decide +kernel
theorem dX5_setRoom_13 : decode cX5_setRoom 13 = .ok (.iconst 4, 1) := by decide +kernel
theorem dX5_setRoom_14 : decode cX5_setRoom 14 = .ok (.if_icmp .le 13, 3) := by decide +kernel
theorem dX5_setRoom_17 : decode cX5_setRoom 17 = .ok (.new 36, 3) := by decide +kernel
theorem dX5_setRoom_20 : decode cX5_setRoom 20 = .ok (.dup, 1) := by decide +kernel
theorem dX5_setRoom_21 : decode cX5_setRoom 21 = .ok (.ldc 38, 2) := by decide +kernel
theorem dX5_setRoom_23 : decode cX5_setRoom 23 = .ok (.invokespecial 40, 3) := by decide +kernel
theorem dX5_setRoom_26 : decode cX5_setRoom 26 = .ok (.athrow, 1) := by decide +kernel
theorem dX5_setRoom_27 : decode cX5_setRoom 27 = .ok (.iload_n 3, 1) := by decide +kernel
theorem dX5_setRoom_28 : decode cX5_setRoom 28 = .ok (.ifCond .lt 8, 3) := by decide +kernel
theorem dX5_setRoom_31 : decode cX5_setRoom 31 = .ok (.iload_n 3, 1) := by decide +kernel
theorem dX5_setRoom_32 : decode cX5_setRoom 32 = .ok (.iconst 2, 1) := by decide +kernel
theorem dX5_setRoom_33 : decode cX5_setRoom 33 = .ok (.if_icmp .le 13, 3) := by decide +kernel
theorem dX5_setRoom_36 : decode cX5_setRoom 36 = .ok (.new 36, 3) := by decide +kernel
theorem dX5_setRoom_39 : decode cX5_setRoom 39 = .ok (.dup, 1) := by decide +kernel
theorem dX5_setRoom_40 : decode cX5_setRoom 40 = .ok (.ldc 43, 2) := by decide +kernel
theorem dX5_setRoom_42 : decode cX5_setRoom 42 = .ok (.invokespecial 40, 3) := by decide +kernel
theorem dX5_setRoom_45 : decode cX5_setRoom 45 = .ok (.athrow, 1) := by decide +kernel
theorem dX5_setRoom_46 : decode cX5_setRoom 46 = .ok (.aload 4, 2) := by decide +kernel
theorem dX5_setRoom_48 : decode cX5_setRoom 48 = .ok (.invokevirtual 45, 3) := by decide +kernel
theorem dX5_setRoom_51 : decode cX5_setRoom 51 = .ok (.ifCond .eq 13, 3) := by decide +kernel
theorem dX5_setRoom_54 : decode cX5_setRoom 54 = .ok (.new 49, 3) := by decide +kernel
theorem dX5_setRoom_57 : decode cX5_setRoom 57 = .ok (.dup, 1) := by decide +kernel
theorem dX5_setRoom_58 : decode cX5_setRoom 58 = .ok (.ldc 51, 2) := by decide +kernel
theorem dX5_setRoom_60 : decode cX5_setRoom 60 = .ok (.invokespecial 53, 3) := by decide +kernel
theorem dX5_setRoom_63 : decode cX5_setRoom 63 = .ok (.athrow, 1) := by decide +kernel
theorem dX5_setRoom_64 : decode cX5_setRoom 64 = .ok (.aload 4, 2) := by decide +kernel
theorem dX5_setRoom_66 : decode cX5_setRoom 66 = .ok (.getfield 54, 3) := by decide +kernel
theorem dX5_setRoom_69 : decode cX5_setRoom 69 = .ok (.iload_n 2, 1) := by decide +kernel
theorem dX5_setRoom_70 : decode cX5_setRoom 70 = .ok (.if_icmp .ne 12, 3) := by decide +kernel
theorem dX5_setRoom_73 : decode cX5_setRoom 73 = .ok (.aload 4, 2) := by decide +kernel
theorem dX5_setRoom_75 : decode cX5_setRoom 75 = .ok (.getfield 58, 3) := by decide +kernel
theorem dX5_setRoom_78 : decode cX5_setRoom 78 = .ok (.iload_n 3, 1) := by decide +kernel
theorem dX5_setRoom_79 : decode cX5_setRoom 79 = .ok (.if_icmp .eq 7, 3) := by decide +kernel
theorem dX5_setRoom_82 : decode cX5_setRoom 82 = .ok (.iconst 1, 1) := by decide +kernel
theorem dX5_setRoom_83 : decode cX5_setRoom 83 = .ok (.goto 4, 3) := by decide +kernel
theorem dX5_setRoom_86 : decode cX5_setRoom 86 = .ok (.iconst 0, 1) := by decide +kernel
theorem dX5_setRoom_87 : decode cX5_setRoom 87 = .ok (.istore 5, 2) := by decide +kernel
theorem dX5_setRoom_89 : decode cX5_setRoom 89 = .ok (.aload 4, 2) := by decide +kernel
theorem dX5_setRoom_91 : decode cX5_setRoom 91 = .ok (.iload_n 2, 1) := by decide +kernel
theorem dX5_setRoom_92 : decode cX5_setRoom 92 = .ok (.putfield 54, 3) := by decide +kernel
theorem dX5_setRoom_95 : decode cX5_setRoom 95 = .ok (.aload 4, 2) := by decide +kernel
theorem dX5_setRoom_97 : decode cX5_setRoom 97 = .ok (.iload_n 3, 1) := by decide +kernel
theorem dX5_setRoom_98 : decode cX5_setRoom 98 = .ok (.putfield 58, 3) := by decide +kernel
theorem dX5_setRoom_101 : decode cX5_setRoom 101 = .ok (.iload 5, 2) := by decide +kernel
theorem dX5_setRoom_103 : decode cX5_setRoom 103 = .ok (.ireturn, 1) := by decide +kernel
set_option maxRecDepth 20000 in
theorem ggX5_read_X5_cacheAt : GoodIn wsX5_read wsX5_cacheAt := goodIn_ca (goodIn_r _ [7, 8, 9, 10, 173, 174, 175] (by decide +kernel) (by decide +kernel)) (goodIn_sub (fun _ h => List.mem_cons_of_mem _ (List.mem_append_left _ (List.mem_append_right _ h))) (by decide +kernel))
set_option maxRecDepth 20000 in
theorem gX5_read_X5_cacheAt : GoodIn wsX5_read (wsV RX5 32 RX5 yX5_cacheAt wsX5_cacheAt) := goodIn_app (goodIn_of _ (by decide +kernel)) ggX5_read_X5_cacheAt
set_option maxRecDepth 20000 in
theorem ggX5_read_X5_checkLine : GoodIn wsX5_read wsX5_checkLine := goodIn_ca (goodIn_r _ [13, 8, 9] (by decide +kernel) (by decide +kernel)) (goodIn_sub (fun _ h => List.mem_cons_of_mem _ (List.mem_append_left _ (List.mem_append_right _ h))) (by decide +kernel))
set_option maxRecDepth 20000 in
theorem gX5_read_X5_checkLine : GoodIn wsX5_read (va_wsS RX5 61 yX5_checkLine wsX5_checkLine) := goodIn_app (goodIn_of _ (by decide +kernel)) ggX5_read_X5_checkLine
set_option maxRecDepth 20000 in
theorem ggX5_read_X5_checkAccess : GoodIn wsX5_read wsX5_checkAccess := goodIn_ca (goodIn_r _ [16, 17, 18, 19, 20, 21, 22, 23, 24, 25, 26, 27, 28, 29, 30, 31, 32, 33, 34, 35, 36, 37, 38, 39, 40, 159, 160, 161, 162, 163, 164, 165, 166, 167, 168, 169, 170, 171, 172, 176, 177, 178, 179, 180, 181, 182] (by decide +kernel) (by decide +kernel)) (goodIn_sub (fun _ h => List.mem_cons_of_mem _ (List.mem_append_right _ h)) (by decide +kernel))
set_option maxRecDepth 20000 in
theorem gX5_read_X5_checkAccess : GoodIn wsX5_read (va_wsS RX5 65 yX5_checkAccess wsX5_checkAccess) := goodIn_app (goodIn_of _ (by decide +kernel)) ggX5_read_X5_checkAccess
set_option maxRecDepth 20000 in
theorem ggX5_read_X0_holds : GoodIn wsX5_read wsX0_holds := goodIn_r _ [33, 34, 159, 160, 161, 162, 163, 164, 165, 166, 167, 168, 169, 170, 171, 172] (by decide +kernel) (by decide +kernel)
set_option maxRecDepth 20000 in
theorem gX5_read_X0_holds : GoodIn wsX5_read (wsV RX5 69 RX0 yX0_holds wsX0_holds) := goodIn_app (goodIn_of _ (by decide +kernel)) ggX5_read_X0_holds
set_option maxRecDepth 20000 in
theorem ggX5_read_X0_markUsed : GoodIn wsX5_read wsX0_markUsed := goodIn_r _ [45, 28, 46, 47, 48, 49, 26, 50, 159, 160, 161, 162, 163, 164, 165, 166, 167, 168, 169, 170, 171, 172] (by decide +kernel) (by decide +kernel)
set_option maxRecDepth 20000 in
theorem gX5_read_X0_markUsed : GoodIn wsX5_read (wsV RX5 76 RX0 yX0_markUsed wsX0_markUsed) := goodIn_app (goodIn_of _ (by decide +kernel)) ggX5_read_X0_markUsed
set_option maxRecDepth 20000 in
theorem ggX5_read_X0_startRequest : GoodIn wsX5_read wsX0_startRequest := goodIn_r _ [54, 46, 55, 56, 57, 58, 59, 24, 25, 26, 27, 28, 29, 30, 31, 32, 33, 34, 60, 61, 62, 63, 64, 65, 39, 66, 67, 68, 69, 70, 71, 72, 73, 74, 75, 76, 77, 78, 79, 80, 81, 82, 83, 84, 85, 86, 87, 88, 89, 90, 91, 92, 93, 94, 95, 96, 97, 98, 99, 100, 101, 102, 103, 104, 105, 106, 107, 108, 109, 110, 111, 112, 113, 114, 115, 116, 117, 118, 119, 120, 121, 122, 123, 124, 125, 126, 127, 128, 129, 130, 131, 132, 133, 134, 135, 136, 137, 138, 139, 140, 141, 142, 143, 144, 145, 146, 147, 148, 47, 48, 49, 50, 149, 150, 151, 152, 153, 154, 155, 156, 157, 158, 159, 160, 161, 162, 163, 164, 165, 166, 167, 168, 169, 170, 171, 172, 183, 184, 185, 186, 187, 188, 189, 190, 191, 192, 193, 176, 177, 178, 179, 180, 181, 182] (by decide +kernel) (by decide +kernel)
set_option maxRecDepth 20000 in
theorem gX5_read_X0_startRequest : GoodIn wsX5_read (wsV RX5 83 RX0 yX0_startRequest wsX0_startRequest) := goodIn_app (goodIn_of _ (by decide +kernel)) ggX5_read_X0_startRequest
theorem dX5_read_0 : decode cX5_read 0 = .ok (.aload_n 0, 1) := by decide +kernel
theorem dX5_read_1 : decode cX5_read 1 = .ok (.iload_n 1, 1) := by decide +kernel
theorem dX5_read_2 : decode cX5_read 2 = .ok (.invokevirtual 32, 3) := by decide +kernel
theorem dX5_read_5 : decode cX5_read 5 = .ok (.astore_n 3, 1) := by decide +kernel
theorem dX5_read_6 : decode cX5_read 6 = .ok (.iload_n 2, 1) := by decide +kernel
theorem dX5_read_7 : decode cX5_read 7 = .ok (.invokestatic 61, 3) := by decide +kernel
theorem dX5_read_10 : decode cX5_read 10 = .ok (.aload_n 3, 1) := by decide +kernel
theorem dX5_read_11 : decode cX5_read 11 = .ok (.iload_n 2, 1) := by decide +kernel
theorem dX5_read_12 : decode cX5_read 12 = .ok (.invokestatic 65, 3) := by decide +kernel
theorem dX5_read_15 : decode cX5_read 15 = .ok (.aload_n 3, 1) := by decide +kernel
theorem dX5_read_16 : decode cX5_read 16 = .ok (.iload_n 2, 1) := by decide +kernel
theorem dX5_read_17 : decode cX5_read 17 = .ok (.invokevirtual 69, 3) := by decide +kernel
theorem dX5_read_20 : decode cX5_read 20 = .ok (.ifCond .eq 25, 3) := by decide +kernel
theorem dX5_read_23 : decode cX5_read 23 = .ok (.aload_n 3, 1) := by decide +kernel
theorem dX5_read_24 : decode cX5_read 24 = .ok (.dup, 1) := by decide +kernel
theorem dX5_read_25 : decode cX5_read 25 = .ok (.getfield 73, 3) := by decide +kernel
theorem dX5_read_28 : decode cX5_read 28 = .ok (.iconst 1, 1) := by decide +kernel
theorem dX5_read_29 : decode cX5_read 29 = .ok (.iadd, 1) := by decide +kernel
theorem dX5_read_30 : decode cX5_read 30 = .ok (.putfield 73, 3) := by decide +kernel
theorem dX5_read_33 : decode cX5_read 33 = .ok (.aload_n 3, 1) := by decide +kernel
theorem dX5_read_34 : decode cX5_read 34 = .ok (.iload_n 2, 1) := by decide +kernel
theorem dX5_read_35 : decode cX5_read 35 = .ok (.invokevirtual 76, 3) := by decide +kernel
theorem dX5_read_38 : decode cX5_read 38 = .ok (.aload_n 3, 1) := by decide +kernel
theorem dX5_read_39 : decode cX5_read 39 = .ok (.getfield 79, 3) := by decide +kernel
theorem dX5_read_42 : decode cX5_read 42 = .ok (.iload_n 2, 1) := by decide +kernel
theorem dX5_read_43 : decode cX5_read 43 = .ok (.iaload, 1) := by decide +kernel
theorem dX5_read_44 : decode cX5_read 44 = .ok (.ireturn, 1) := by decide +kernel
theorem dX5_read_45 : decode cX5_read 45 = .ok (.aload_n 3, 1) := by decide +kernel
theorem dX5_read_46 : decode cX5_read 46 = .ok (.iload_n 2, 1) := by decide +kernel
theorem dX5_read_47 : decode cX5_read 47 = .ok (.iconst 0, 1) := by decide +kernel
theorem dX5_read_48 : decode cX5_read 48 = .ok (.iconst (-1), 1) := by decide +kernel
theorem dX5_read_49 : decode cX5_read 49 = .ok (.invokevirtual 83, 3) := by decide +kernel
theorem dX5_read_52 : decode cX5_read 52 = .ok (.iconst (-1), 1) := by decide +kernel
theorem dX5_read_53 : decode cX5_read 53 = .ok (.ireturn, 1) := by decide +kernel
set_option maxRecDepth 20000 in
theorem ggX5_write_X5_cacheAt : GoodIn wsX5_write wsX5_cacheAt := goodIn_ca (goodIn_r _ [9, 10, 11, 12, 178, 179, 180] (by decide +kernel) (by decide +kernel)) (goodIn_sub (fun _ h => List.mem_cons_of_mem _ (List.mem_append_left _ (List.mem_append_right _ h))) (by decide +kernel))
set_option maxRecDepth 20000 in
theorem gX5_write_X5_cacheAt : GoodIn wsX5_write (wsV RX5 32 RX5 yX5_cacheAt wsX5_cacheAt) := goodIn_app (goodIn_of _ (by decide +kernel)) ggX5_write_X5_cacheAt
set_option maxRecDepth 20000 in
theorem ggX5_write_X5_checkLine : GoodIn wsX5_write wsX5_checkLine := goodIn_ca (goodIn_r _ [15, 10, 11] (by decide +kernel) (by decide +kernel)) (goodIn_sub (fun _ h => List.mem_cons_of_mem _ (List.mem_append_left _ (List.mem_append_right _ h))) (by decide +kernel))
set_option maxRecDepth 20000 in
theorem gX5_write_X5_checkLine : GoodIn wsX5_write (va_wsS RX5 61 yX5_checkLine wsX5_checkLine) := goodIn_app (goodIn_of _ (by decide +kernel)) ggX5_write_X5_checkLine
set_option maxRecDepth 20000 in
theorem ggX5_write_X5_checkAccess : GoodIn wsX5_write wsX5_checkAccess := goodIn_ca (goodIn_r _ [18, 19, 20, 21, 22, 23, 24, 25, 26, 27, 28, 29, 30, 31, 32, 33, 34, 35, 36, 37, 38, 39, 40, 41, 42, 164, 165, 166, 167, 168, 169, 170, 171, 172, 173, 174, 175, 176, 177, 181, 182, 183, 184, 185, 186, 187] (by decide +kernel) (by decide +kernel)) (goodIn_sub (fun _ h => List.mem_cons_of_mem _ (List.mem_append_right _ h)) (by decide +kernel))
set_option maxRecDepth 20000 in
theorem gX5_write_X5_checkAccess : GoodIn wsX5_write (va_wsS RX5 65 yX5_checkAccess wsX5_checkAccess) := goodIn_app (goodIn_of _ (by decide +kernel)) ggX5_write_X5_checkAccess
set_option maxRecDepth 20000 in
theorem ggX5_write_X0_store : GoodIn wsX5_write wsX0_store := goodIn_r _ [46, 36, 47, 48, 49, 50, 28, 51, 30, 52, 53, 54, 55, 56, 164, 165, 166, 167, 168, 169, 170, 171, 172, 173, 174, 175, 176, 177] (by decide +kernel) (by decide +kernel)
set_option maxRecDepth 20000 in
theorem gX5_write_X0_store : GoodIn wsX5_write (wsV RX5 92 RX0 yX0_store wsX0_store) := goodIn_app (goodIn_of _ (by decide +kernel)) ggX5_write_X0_store
set_option maxRecDepth 20000 in
theorem ggX5_write_X0_startRequest : GoodIn wsX5_write wsX0_startRequest := goodIn_r _ [60, 52, 61, 62, 63, 64, 65, 26, 27, 28, 29, 30, 31, 32, 33, 34, 35, 36, 66, 67, 68, 69, 70, 47, 41, 71, 72, 73, 74, 75, 76, 77, 78, 79, 80, 81, 82, 83, 84, 85, 86, 87, 88, 89, 90, 91, 92, 93, 94, 95, 96, 97, 98, 99, 100, 101, 102, 103, 104, 105, 106, 107, 108, 109, 110, 111, 112, 113, 114, 115, 116, 117, 118, 119, 120, 121, 122, 123, 124, 125, 126, 127, 128, 129, 130, 131, 132, 133, 134, 135, 136, 137, 138, 139, 140, 141, 142, 143, 144, 145, 146, 147, 148, 149, 150, 151, 152, 153, 53, 54, 55, 56, 154, 155, 156, 157, 158, 159, 160, 161, 162, 163, 164, 165, 166, 167, 168, 169, 170, 171, 172, 173, 174, 175, 176, 177, 188, 189, 190, 191, 192, 193, 194, 195, 196, 197, 198, 181, 182, 183, 184, 185, 186, 187] (by decide +kernel) (by decide +kernel)
set_option maxRecDepth 20000 in
theorem gX5_write_X0_startRequest : GoodIn wsX5_write (wsV RX5 83 RX0 yX0_startRequest wsX0_startRequest) := goodIn_app (goodIn_of _ (by decide +kernel)) ggX5_write_X0_startRequest
theorem dX5_write_0 : decode cX5_write 0 = .ok (.aload_n 0, 1) := by decide +kernel
theorem dX5_write_1 : decode cX5_write 1 = .ok (.iload_n 1, 1) := by decide +kernel
theorem dX5_write_2 : decode cX5_write 2 = .ok (.invokevirtual 32, 3) := by decide +kernel
theorem dX5_write_5 : decode cX5_write 5 = .ok (.astore 4, 2) := by decide +kernel
theorem dX5_write_7 : decode cX5_write 7 = .ok (.iload_n 2, 1) := by decide +kernel
theorem dX5_write_8 : decode cX5_write 8 = .ok (.invokestatic 61, 3) := by decide +kernel
theorem dX5_write_11 : decode cX5_write 11 = .ok (.iload_n 3, 1) := by decide +kernel
theorem dX5_write_12 : decode cX5_write 12 = .ok (.ifCond .lt 10, 3) := by decide +kernel
theorem dX5_write_15 : decode cX5_write 15 = .ok (.iload_n 3, 1) := by decide +kernel
theorem dX5_write_16 : decode cX5_write 16 = .ok (.sipush 9999, 3) := by decide +kernel
theorem dX5_write_19 : decode cX5_write 19 = .ok (.if_icmp .le 13, 3) := by decide +kernel
theorem dX5_write_22 : decode cX5_write 22 = .ok (.new 36, 3) := by decide +kernel
theorem dX5_write_25 : decode cX5_write 25 = .ok (.dup, 1) := by decide +kernel
theorem dX5_write_26 : decode cX5_write 26 = .ok (.ldc 87, 2) := by decide +kernel
theorem dX5_write_28 : decode cX5_write 28 = .ok (.invokespecial 40, 3) := by decide +kernel
theorem dX5_write_31 : decode cX5_write 31 = .ok (.athrow, 1) := by decide +kernel
theorem dX5_write_32 : decode cX5_write 32 = .ok (.aload 4, 2) := by decide +kernel
theorem dX5_write_34 : decode cX5_write 34 = .ok (.iload_n 2, 1) := by decide +kernel
theorem dX5_write_35 : decode cX5_write 35 = .ok (.invokestatic 65, 3) := by decide +kernel
theorem dX5_write_38 : decode cX5_write 38 = .ok (.aload 4, 2) := by decide +kernel
theorem dX5_write_40 : decode cX5_write 40 = .ok (.getfield 89, 3) := by decide +kernel
theorem dX5_write_43 : decode cX5_write 43 = .ok (.iload_n 2, 1) := by decide +kernel
theorem dX5_write_44 : decode cX5_write 44 = .ok (.iaload, 1) := by decide +kernel
theorem dX5_write_45 : decode cX5_write 45 = .ok (.iconst 3, 1) := by decide +kernel
theorem dX5_write_46 : decode cX5_write 46 = .ok (.if_icmp .ne 24, 3) := by decide +kernel
theorem dX5_write_49 : decode cX5_write 49 = .ok (.aload 4, 2) := by decide +kernel
theorem dX5_write_51 : decode cX5_write 51 = .ok (.dup, 1) := by decide +kernel
theorem dX5_write_52 : decode cX5_write 52 = .ok (.getfield 73, 3) := by decide +kernel
theorem dX5_write_55 : decode cX5_write 55 = .ok (.iconst 1, 1) := by decide +kernel
theorem dX5_write_56 : decode cX5_write 56 = .ok (.iadd, 1) := by decide +kernel
theorem dX5_write_57 : decode cX5_write 57 = .ok (.putfield 73, 3) := by decide +kernel
theorem dX5_write_60 : decode cX5_write 60 = .ok (.aload 4, 2) := by decide +kernel
theorem dX5_write_62 : decode cX5_write 62 = .ok (.iload_n 2, 1) := by decide +kernel
theorem dX5_write_63 : decode cX5_write 63 = .ok (.iconst 3, 1) := by decide +kernel
theorem dX5_write_64 : decode cX5_write 64 = .ok (.iload_n 3, 1) := by decide +kernel
theorem dX5_write_65 : decode cX5_write 65 = .ok (.invokevirtual 92, 3) := by decide +kernel
theorem dX5_write_68 : decode cX5_write 68 = .ok (.iconst 1, 1) := by decide +kernel
theorem dX5_write_69 : decode cX5_write 69 = .ok (.ireturn, 1) := by decide +kernel
theorem dX5_write_70 : decode cX5_write 70 = .ok (.aload 4, 2) := by decide +kernel
theorem dX5_write_72 : decode cX5_write 72 = .ok (.iload_n 2, 1) := by decide +kernel
theorem dX5_write_73 : decode cX5_write 73 = .ok (.iconst 1, 1) := by decide +kernel
theorem dX5_write_74 : decode cX5_write 74 = .ok (.iload_n 3, 1) := by decide +kernel
theorem dX5_write_75 : decode cX5_write 75 = .ok (.invokevirtual 83, 3) := by decide +kernel
theorem dX5_write_78 : decode cX5_write 78 = .ok (.iconst 0, 1) := by decide +kernel
theorem dX5_write_79 : decode cX5_write 79 = .ok (.ireturn, 1) := by decide +kernel
set_option maxRecDepth 20000 in
theorem ggX5_evict_X5_cacheAt : GoodIn wsX5_evict wsX5_cacheAt := goodIn_ca (goodIn_r _ [10, 11, 12, 13, 152, 153, 154] (by decide +kernel) (by decide +kernel)) (goodIn_sub (fun _ h => List.mem_cons_of_mem _ (List.mem_append_left _ (List.mem_append_right _ h))) (by decide +kernel))
set_option maxRecDepth 20000 in
theorem gX5_evict_X5_cacheAt : GoodIn wsX5_evict (wsV RX5 32 RX5 yX5_cacheAt wsX5_cacheAt) := goodIn_app (goodIn_of _ (by decide +kernel)) ggX5_evict_X5_cacheAt
set_option maxRecDepth 20000 in
theorem ggX5_evict_X5_checkLine : GoodIn wsX5_evict wsX5_checkLine := goodIn_ca (goodIn_r _ [16, 11, 12] (by decide +kernel) (by decide +kernel)) (goodIn_sub (fun _ h => List.mem_cons_of_mem _ (List.mem_append_left _ (List.mem_append_right _ h))) (by decide +kernel))
set_option maxRecDepth 20000 in
theorem gX5_evict_X5_checkLine : GoodIn wsX5_evict (va_wsS RX5 61 yX5_checkLine wsX5_checkLine) := goodIn_app (goodIn_of _ (by decide +kernel)) ggX5_evict_X5_checkLine
set_option maxRecDepth 20000 in
theorem ggX5_evict_X5_checkHeld : GoodIn wsX5_evict wsX5_checkHeld := goodIn_ca (goodIn_r _ [19, 20, 21, 22, 23, 24, 25, 26, 27, 131, 132, 133, 134, 135, 136, 137, 138, 139, 140, 141, 142, 143, 144] (by decide +kernel) (by decide +kernel)) (goodIn_sub (fun _ h => List.mem_cons_of_mem _ (List.mem_append_right _ h)) (by decide +kernel))
set_option maxRecDepth 20000 in
theorem gX5_evict_X5_checkHeld : GoodIn wsX5_evict (va_wsS RX5 96 yX5_checkHeld wsX5_checkHeld) := goodIn_app (goodIn_of _ (by decide +kernel)) ggX5_evict_X5_checkHeld
set_option maxRecDepth 20000 in
theorem ggX5_evict_X0_lacksVictimRoomFor : GoodIn wsX5_evict wsX0_lacksVictimRoomFor := goodIn_r _ [31, 27, 32, 33, 131, 132, 133, 134, 135, 136, 137, 138, 139, 140, 141, 142, 143, 144] (by decide +kernel) (by decide +kernel)
set_option maxRecDepth 20000 in
theorem gX5_evict_X0_lacksVictimRoomFor : GoodIn wsX5_evict (wsV RX5 110 RX0 yX0_lacksVictimRoomFor wsX0_lacksVictimRoomFor) := goodIn_app (goodIn_of _ (by decide +kernel)) ggX5_evict_X0_lacksVictimRoomFor
set_option maxRecDepth 20000 in
theorem ggX5_evict_X0_moveOut : GoodIn wsX5_evict wsX0_moveOut := goodIn_r _ [37, 27, 38, 39, 32, 40, 41, 42, 43, 44, 45, 46, 47, 48, 49, 50, 51, 52, 53, 54, 55, 56, 57, 58, 59, 60, 61, 62, 63, 64, 65, 66, 67, 68, 69, 70, 71, 72, 73, 74, 75, 76, 77, 78, 79, 80, 81, 82, 83, 84, 85, 86, 87, 88, 89, 90, 91, 92, 93, 94, 95, 96, 97, 98, 99, 100, 101, 102, 103, 104, 105, 106, 107, 108, 109, 110, 111, 112, 113, 114, 115, 116, 117, 118, 119, 120, 121, 122, 123, 25, 124, 125, 126, 127, 128, 129, 130, 131, 132, 133, 134, 135, 136, 137, 138, 139, 140, 141, 142, 143, 144, 155, 156, 157, 158, 159, 160, 161, 162, 163, 164, 165] (by decide +kernel) (by decide +kernel)
set_option maxRecDepth 20000 in
theorem gX5_evict_X0_moveOut : GoodIn wsX5_evict (wsV RX5 115 RX0 yX0_moveOut wsX0_moveOut) := goodIn_app (goodIn_of _ (by decide +kernel)) ggX5_evict_X0_moveOut
theorem dX5_evict_0 : decode cX5_evict 0 = .ok (.aload_n 0, 1) := by decide +kernel
theorem dX5_evict_1 : decode cX5_evict 1 = .ok (.iload_n 1, 1) := by decide +kernel
theorem dX5_evict_2 : decode cX5_evict 2 = .ok (.invokevirtual 32, 3) := by decide +kernel
theorem dX5_evict_5 : decode cX5_evict 5 = .ok (.astore_n 3, 1) := by decide +kernel
theorem dX5_evict_6 : decode cX5_evict 6 = .ok (.iload_n 2, 1) := by decide +kernel
theorem dX5_evict_7 : decode cX5_evict 7 = .ok (.invokestatic 61, 3) := by decide +kernel
theorem dX5_evict_10 : decode cX5_evict 10 = .ok (.aload_n 3, 1) := by decide +kernel
theorem dX5_evict_11 : decode cX5_evict 11 = .ok (.iload_n 2, 1) := by decide +kernel
theorem dX5_evict_12 : decode cX5_evict 12 = .ok (.invokestatic 96, 3) := by decide +kernel
theorem dX5_evict_15 : decode cX5_evict 15 = .ok (.aload_n 3, 1) := by decide +kernel
theorem dX5_evict_16 : decode cX5_evict 16 = .ok (.getfield 99, 3) := by decide +kernel
theorem dX5_evict_19 : decode cX5_evict 19 = .ok (.getfield 103, 3) := by decide +kernel
theorem dX5_evict_22 : decode cX5_evict 22 = .ok (.iload_n 2, 1) := by decide +kernel
theorem dX5_evict_23 : decode cX5_evict 23 = .ok (.if_icmp .ne 13, 3) := by decide +kernel
theorem dX5_evict_26 : decode cX5_evict 26 = .ok (.new 49, 3) := by decide +kernel
theorem dX5_evict_29 : decode cX5_evict 29 = .ok (.dup, 1) := by decide +kernel
theorem dX5_evict_30 : decode cX5_evict 30 = .ok (.ldc 108, 2) := by decide +kernel
theorem dX5_evict_32 : decode cX5_evict 32 = .ok (.invokespecial 53, 3) := by decide +kernel
theorem dX5_evict_35 : decode cX5_evict 35 = .ok (.athrow, 1) := by decide +kernel
theorem dX5_evict_36 : decode cX5_evict 36 = .ok (.aload_n 3, 1) := by decide +kernel
theorem dX5_evict_37 : decode cX5_evict 37 = .ok (.iload_n 2, 1) := by decide +kernel
theorem dX5_evict_38 : decode cX5_evict 38 = .ok (.invokevirtual 110, 3) := by decide +kernel
theorem dX5_evict_41 : decode cX5_evict 41 = .ok (.ifCond .eq 13, 3) := by decide +kernel
theorem dX5_evict_44 : decode cX5_evict 44 = .ok (.new 49, 3) := by decide +kernel
theorem dX5_evict_47 : decode cX5_evict 47 = .ok (.dup, 1) := by decide +kernel
theorem dX5_evict_48 : decode cX5_evict 48 = .ok (.ldc 113, 2) := by decide +kernel
theorem dX5_evict_50 : decode cX5_evict 50 = .ok (.invokespecial 53, 3) := by decide +kernel
theorem dX5_evict_53 : decode cX5_evict 53 = .ok (.athrow, 1) := by decide +kernel
theorem dX5_evict_54 : decode cX5_evict 54 = .ok (.aload_n 3, 1) := by decide +kernel
theorem dX5_evict_55 : decode cX5_evict 55 = .ok (.getfield 89, 3) := by decide +kernel
theorem dX5_evict_58 : decode cX5_evict 58 = .ok (.iload_n 2, 1) := by decide +kernel
theorem dX5_evict_59 : decode cX5_evict 59 = .ok (.iaload, 1) := by decide +kernel
theorem dX5_evict_60 : decode cX5_evict 60 = .ok (.istore 4, 2) := by decide +kernel
theorem dX5_evict_62 : decode cX5_evict 62 = .ok (.aload_n 3, 1) := by decide +kernel
theorem dX5_evict_63 : decode cX5_evict 63 = .ok (.iload_n 2, 1) := by decide +kernel
theorem dX5_evict_64 : decode cX5_evict 64 = .ok (.invokevirtual 115, 3) := by decide +kernel
theorem dX5_evict_67 : decode cX5_evict 67 = .ok (.iload 4, 2) := by decide +kernel
theorem dX5_evict_69 : decode cX5_evict 69 = .ok (.ireturn, 1) := by decide +kernel
set_option maxRecDepth 20000 in
theorem ggX5_state_X5_cacheAt : GoodIn wsX5_state wsX5_cacheAt := goodIn_ca (goodIn_r _ [6, 7, 8, 9, 27, 28, 29] (by decide +kernel) (by decide +kernel)) (goodIn_sub (fun _ h => List.mem_cons_of_mem _ (List.mem_append_right _ h)) (by decide +kernel))
set_option maxRecDepth 20000 in
theorem gX5_state_X5_cacheAt : GoodIn wsX5_state (wsV RX5 32 RX5 yX5_cacheAt wsX5_cacheAt) := goodIn_app (goodIn_of _ (by decide +kernel)) ggX5_state_X5_cacheAt
set_option maxRecDepth 20000 in
theorem ggX5_state_X5_checkLine : GoodIn wsX5_state wsX5_checkLine := goodIn_ca (goodIn_r _ [12, 7, 8] (by decide +kernel) (by decide +kernel)) (goodIn_sub (fun _ h => List.mem_cons_of_mem _ (List.mem_append_right _ h)) (by decide +kernel))
set_option maxRecDepth 20000 in
theorem gX5_state_X5_checkLine : GoodIn wsX5_state (va_wsS RX5 61 yX5_checkLine wsX5_checkLine) := goodIn_app (goodIn_of _ (by decide +kernel)) ggX5_state_X5_checkLine
theorem dX5_state_0 : decode cX5_state 0 = .ok (.aload_n 0, 1) := by decide +kernel
theorem dX5_state_1 : decode cX5_state 1 = .ok (.iload_n 1, 1) := by decide +kernel
theorem dX5_state_2 : decode cX5_state 2 = .ok (.invokevirtual 32, 3) := by decide +kernel
theorem dX5_state_5 : decode cX5_state 5 = .ok (.astore_n 3, 1) := by decide +kernel
theorem dX5_state_6 : decode cX5_state 6 = .ok (.iload_n 2, 1) := by decide +kernel
theorem dX5_state_7 : decode cX5_state 7 = .ok (.invokestatic 61, 3) := by decide +kernel
theorem dX5_state_10 : decode cX5_state 10 = .ok (.aload_n 3, 1) := by decide +kernel
theorem dX5_state_11 : decode cX5_state 11 = .ok (.getfield 89, 3) := by decide +kernel
theorem dX5_state_14 : decode cX5_state 14 = .ok (.iload_n 2, 1) := by decide +kernel
theorem dX5_state_15 : decode cX5_state 15 = .ok (.iaload, 1) := by decide +kernel
theorem dX5_state_16 : decode cX5_state 16 = .ok (.ireturn, 1) := by decide +kernel
set_option maxRecDepth 20000 in
theorem ggX5_value_X5_cacheAt : GoodIn wsX5_value wsX5_cacheAt := goodIn_ca (goodIn_r _ [6, 7, 8, 9, 38, 39, 40] (by decide +kernel) (by decide +kernel)) (goodIn_sub (fun _ h => List.mem_cons_of_mem _ (List.mem_append_left _ (List.mem_append_right _ h))) (by decide +kernel))
set_option maxRecDepth 20000 in
theorem gX5_value_X5_cacheAt : GoodIn wsX5_value (wsV RX5 32 RX5 yX5_cacheAt wsX5_cacheAt) := goodIn_app (goodIn_of _ (by decide +kernel)) ggX5_value_X5_cacheAt
set_option maxRecDepth 20000 in
theorem ggX5_value_X5_checkLine : GoodIn wsX5_value wsX5_checkLine := goodIn_ca (goodIn_r _ [12, 7, 8] (by decide +kernel) (by decide +kernel)) (goodIn_sub (fun _ h => List.mem_cons_of_mem _ (List.mem_append_left _ (List.mem_append_right _ h))) (by decide +kernel))
set_option maxRecDepth 20000 in
theorem gX5_value_X5_checkLine : GoodIn wsX5_value (va_wsS RX5 61 yX5_checkLine wsX5_checkLine) := goodIn_app (goodIn_of _ (by decide +kernel)) ggX5_value_X5_checkLine
set_option maxRecDepth 20000 in
theorem ggX5_value_X5_checkHeld : GoodIn wsX5_value wsX5_checkHeld := goodIn_ca (goodIn_r _ [15, 16, 17, 18, 19, 20, 21, 22, 23, 24, 25, 26, 27, 28, 29, 30, 31, 32, 33, 34, 35, 36, 37] (by decide +kernel) (by decide +kernel)) (goodIn_sub (fun _ h => List.mem_cons_of_mem _ (List.mem_append_right _ h)) (by decide +kernel))
set_option maxRecDepth 20000 in
theorem gX5_value_X5_checkHeld : GoodIn wsX5_value (va_wsS RX5 96 yX5_checkHeld wsX5_checkHeld) := goodIn_app (goodIn_of _ (by decide +kernel)) ggX5_value_X5_checkHeld
theorem dX5_value_0 : decode cX5_value 0 = .ok (.aload_n 0, 1) := by decide +kernel
theorem dX5_value_1 : decode cX5_value 1 = .ok (.iload_n 1, 1) := by decide +kernel
theorem dX5_value_2 : decode cX5_value 2 = .ok (.invokevirtual 32, 3) := by decide +kernel
theorem dX5_value_5 : decode cX5_value 5 = .ok (.astore_n 3, 1) := by decide +kernel
theorem dX5_value_6 : decode cX5_value 6 = .ok (.iload_n 2, 1) := by decide +kernel
theorem dX5_value_7 : decode cX5_value 7 = .ok (.invokestatic 61, 3) := by decide +kernel
theorem dX5_value_10 : decode cX5_value 10 = .ok (.aload_n 3, 1) := by decide +kernel
theorem dX5_value_11 : decode cX5_value 11 = .ok (.iload_n 2, 1) := by decide +kernel
theorem dX5_value_12 : decode cX5_value 12 = .ok (.invokestatic 96, 3) := by decide +kernel
theorem dX5_value_15 : decode cX5_value 15 = .ok (.aload_n 3, 1) := by decide +kernel
theorem dX5_value_16 : decode cX5_value 16 = .ok (.getfield 79, 3) := by decide +kernel
theorem dX5_value_19 : decode cX5_value 19 = .ok (.iload_n 2, 1) := by decide +kernel
theorem dX5_value_20 : decode cX5_value 20 = .ok (.iaload, 1) := by decide +kernel
theorem dX5_value_21 : decode cX5_value 21 = .ok (.ireturn, 1) := by decide +kernel
set_option maxRecDepth 20000 in
theorem ggX5_openLine_X5_cacheAt : GoodIn wsX5_openLine wsX5_cacheAt := goodIn_ca (goodIn_r _ [7, 8, 9, 10, 32, 33, 34] (by decide +kernel) (by decide +kernel)) (goodIn_sub (fun _ h => List.mem_cons_of_mem _ (List.mem_append_right _ h)) (by decide +kernel))
set_option maxRecDepth 20000 in
theorem gX5_openLine_X5_cacheAt : GoodIn wsX5_openLine (wsV RX5 32 RX5 yX5_cacheAt wsX5_cacheAt) := goodIn_app (goodIn_of _ (by decide +kernel)) ggX5_openLine_X5_cacheAt
theorem dX5_openLine_0 : decode cX5_openLine 0 = .ok (.aload_n 0, 1) := by decide +kernel
theorem dX5_openLine_1 : decode cX5_openLine 1 = .ok (.iload_n 1, 1) := by decide +kernel
theorem dX5_openLine_2 : decode cX5_openLine 2 = .ok (.invokevirtual 32, 3) := by decide +kernel
theorem dX5_openLine_5 : decode cX5_openLine 5 = .ok (.getfield 99, 3) := by decide +kernel
theorem dX5_openLine_8 : decode cX5_openLine 8 = .ok (.getfield 103, 3) := by decide +kernel
theorem dX5_openLine_11 : decode cX5_openLine 11 = .ok (.ireturn, 1) := by decide +kernel
set_option maxRecDepth 20000 in
theorem ggX5_latestRead_X5_cacheAt : GoodIn wsX5_latestRead wsX5_cacheAt := goodIn_ca (goodIn_r _ [6, 7, 8, 9, 24, 25, 26] (by decide +kernel) (by decide +kernel)) (goodIn_sub (fun _ h => List.mem_cons_of_mem _ (List.mem_append_right _ h)) (by decide +kernel))
set_option maxRecDepth 20000 in
theorem gX5_latestRead_X5_cacheAt : GoodIn wsX5_latestRead (wsV RX5 32 RX5 yX5_cacheAt wsX5_cacheAt) := goodIn_app (goodIn_of _ (by decide +kernel)) ggX5_latestRead_X5_cacheAt
theorem dX5_latestRead_0 : decode cX5_latestRead 0 = .ok (.aload_n 0, 1) := by decide +kernel
theorem dX5_latestRead_1 : decode cX5_latestRead 1 = .ok (.iload_n 1, 1) := by decide +kernel
theorem dX5_latestRead_2 : decode cX5_latestRead 2 = .ok (.invokevirtual 32, 3) := by decide +kernel
theorem dX5_latestRead_5 : decode cX5_latestRead 5 = .ok (.getfield 121, 3) := by decide +kernel
theorem dX5_latestRead_8 : decode cX5_latestRead 8 = .ok (.ireturn, 1) := by decide +kernel
set_option maxRecDepth 20000 in
theorem ggX5_messageCount_Jx4a65c_size_8abf5 : GoodIn wsX5_messageCount wsJx4a65c_size_8abf5 := goodIn_r _ [7, 8, 13, 14, 15] (by decide +kernel) (by decide +kernel)
set_option maxRecDepth 20000 in
theorem gX5_messageCount_Jx4a65c_size_8abf5 : GoodIn wsX5_messageCount (wsV RX5 153 RJx4a65c yJx4a65c_size_8abf5 wsJx4a65c_size_8abf5) := goodIn_app (goodIn_of _ (by decide +kernel)) ggX5_messageCount_Jx4a65c_size_8abf5
theorem dX5_messageCount_0 : decode cX5_messageCount 0 = .ok (.aload_n 0, 1) := by decide +kernel
theorem dX5_messageCount_1 : decode cX5_messageCount 1 = .ok (.getfield 10, 3) := by decide +kernel
theorem dX5_messageCount_4 : decode cX5_messageCount 4 = .ok (.getfield 162, 3) := by decide +kernel
theorem dX5_messageCount_7 : decode cX5_messageCount 7 = .ok (.invokevirtual 153, 3) := by decide +kernel
theorem dX5_messageCount_10 : decode cX5_messageCount 10 = .ok (.ireturn, 1) := by decide +kernel
set_option maxRecDepth 20000 in
theorem ggX5_deliver_X5_handOver : GoodIn wsX5_deliver wsX5_handOver := goodIn_ca (goodIn_r _ [7, 1, 2, 8, 9, 10, 11, 12, 6, 13, 14, 15, 16, 17, 18, 19, 20, 21, 22, 23, 24, 25, 26, 27, 28, 29, 30, 31, 32, 33, 34, 35, 36, 37, 38, 39, 40, 41, 42, 43, 44, 45, 46, 47, 48, 49, 50, 51, 52, 53, 54, 55, 56, 57, 58, 59, 60, 61, 62, 63, 64, 65, 66, 67, 68, 69, 70, 71, 72, 73, 74, 75, 76, 77, 78, 79, 80, 81, 82, 83, 84, 85, 86, 87, 88, 89, 90, 91, 92, 93, 94, 95, 96, 97, 98, 99, 100, 101, 102, 103, 104, 105, 106, 107, 108, 109, 110, 111, 112, 113, 114, 115, 116, 117, 118, 119, 120, 121, 122, 123, 124, 125, 126, 127, 128, 129, 130, 131, 132, 133, 134, 135, 136, 137, 138, 139, 140, 141, 142, 143, 144, 145, 146, 147, 148, 149, 150, 151, 152, 153, 154, 155, 156, 157, 158, 159, 160, 161, 162, 163, 164, 165, 166, 167, 168, 169, 170, 171, 172, 173, 174, 175, 176, 177, 178, 179, 180, 181, 182, 183, 184, 185, 186, 187, 188, 189, 190, 191, 192, 193, 194, 195, 196, 197, 198, 199, 200, 201, 202, 203, 204, 205, 206, 207, 208, 209, 210, 211, 212, 213, 214, 215, 216, 217, 218, 219, 220, 221, 222, 223, 224, 225, 226, 227, 228, 229, 230, 231, 232, 233, 234, 235, 236, 237, 238, 239, 240, 241, 242, 243, 244, 245, 246, 247, 248, 249, 250, 251, 252, 253, 254, 255, 256, 257, 258, 259, 260, 261, 262, 263, 264, 265, 266, 267, 268, 269, 270, 271, 272, 273, 274, 275, 276, 277, 278, 279, 280, 281, 282, 283, 284, 285, 286, 287, 288, 289, 290, 291, 292, 293, 294] (by decide +kernel) (by decide +kernel)) (goodIn_sub (fun _ h => List.mem_cons_of_mem _ (List.mem_append_right _ h)) (by decide +kernel))
set_option maxRecDepth 20000 in
theorem gX5_deliver_X5_handOver : GoodIn wsX5_deliver (wsV RX5 181 RX5 yX5_handOver wsX5_handOver) := goodIn_app (goodIn_of _ (by decide +kernel)) ggX5_deliver_X5_handOver
set_option maxRecDepth 20000 in
theorem ggX5_deliver_Jx4a65c_size_8abf5 : GoodIn wsX5_deliver wsJx4a65c_size_8abf5 := goodIn_r _ [21, 22, 262, 263, 264] (by decide +kernel) (by decide +kernel)
set_option maxRecDepth 20000 in
theorem gX5_deliver_Jx4a65c_size_8abf5 : GoodIn wsX5_deliver (wsV RX5 153 RJx4a65c yJx4a65c_size_8abf5 wsJx4a65c_size_8abf5) := goodIn_app (goodIn_of _ (by decide +kernel)) ggX5_deliver_Jx4a65c_size_8abf5
theorem dX5_deliver_0 : decode cX5_deliver 0 = .ok (.aload_n 0, 1) := by decide +kernel
theorem dX5_deliver_1 : decode cX5_deliver 1 = .ok (.iload_n 1, 1) := by decide +kernel
theorem dX5_deliver_2 : decode cX5_deliver 2 = .ok (.invokevirtual 181, 3) := by decide +kernel
theorem dX5_deliver_5 : decode cX5_deliver 5 = .ok (.aload_n 0, 1) := by decide +kernel
theorem dX5_deliver_6 : decode cX5_deliver 6 = .ok (.getfield 10, 3) := by decide +kernel
theorem dX5_deliver_9 : decode cX5_deliver 9 = .ok (.getfield 162, 3) := by decide +kernel
theorem dX5_deliver_12 : decode cX5_deliver 12 = .ok (.invokevirtual 153, 3) := by decide +kernel
theorem dX5_deliver_15 : decode cX5_deliver 15 = .ok (.ireturn, 1) := by decide +kernel
set_option maxRecDepth 20000 in
theorem ggX5_isInOrder_X5_checkLine : GoodIn wsX5_isInOrder wsX5_checkLine := goodIn_ca (goodIn_r _ [7, 8, 9] (by decide +kernel) (by decide +kernel)) (goodIn_sub (fun _ h => List.mem_cons_of_mem _ (List.mem_append_right _ h)) (by decide +kernel))
set_option maxRecDepth 20000 in
theorem gX5_isInOrder_X5_checkLine : GoodIn wsX5_isInOrder (va_wsS RX5 61 yX5_checkLine wsX5_checkLine) := goodIn_app (goodIn_of _ (by decide +kernel)) ggX5_isInOrder_X5_checkLine
set_option maxRecDepth 20000 in
theorem ggX5_isInOrder_X0_holds : GoodIn wsX5_isInOrder wsX0_holds := goodIn_r _ [14, 15, 19, 20, 21, 22, 23, 24, 25, 26, 27, 28, 29, 30, 31, 32] (by decide +kernel) (by decide +kernel)
set_option maxRecDepth 20000 in
theorem gX5_isInOrder_X0_holds : GoodIn wsX5_isInOrder (wsV RX5 69 RX0 yX0_holds wsX0_holds) := goodIn_app (goodIn_of _ (by decide +kernel)) ggX5_isInOrder_X0_holds
theorem dX5_isInOrder_0 : decode cX5_isInOrder 0 = .ok (.iload_n 1, 1) := by decide +kernel
theorem dX5_isInOrder_1 : decode cX5_isInOrder 1 = .ok (.invokestatic 61, 3) := by decide +kernel
theorem dX5_isInOrder_4 : decode cX5_isInOrder 4 = .ok (.iconst 0, 1) := by decide +kernel
theorem dX5_isInOrder_5 : decode cX5_isInOrder 5 = .ok (.istore_n 2, 1) := by decide +kernel
theorem dX5_isInOrder_6 : decode cX5_isInOrder 6 = .ok (.iconst 0, 1) := by decide +kernel
theorem dX5_isInOrder_7 : decode cX5_isInOrder 7 = .ok (.istore_n 3, 1) := by decide +kernel
theorem dX5_isInOrder_8 : decode cX5_isInOrder 8 = .ok (.iconst 0, 1) := by decide +kernel
theorem dX5_isInOrder_9 : decode cX5_isInOrder 9 = .ok (.istore 4, 2) := by decide +kernel
theorem dX5_isInOrder_11 : decode cX5_isInOrder 11 = .ok (.iconst (-1), 1) := by decide +kernel
theorem dX5_isInOrder_12 : decode cX5_isInOrder 12 = .ok (.istore 5, 2) := by decide +kernel
theorem dX5_isInOrder_14 : decode cX5_isInOrder 14 = .ok (.iconst 0, 1) := by decide +kernel
theorem dX5_isInOrder_15 : decode cX5_isInOrder 15 = .ok (.istore 6, 2) := by decide +kernel
theorem dX5_isInOrder_17 : decode cX5_isInOrder 17 = .ok (.iload 6, 2) := by decide +kernel
theorem dX5_isInOrder_19 : decode cX5_isInOrder 19 = .ok (.iconst 4, 1) := by decide +kernel
theorem dX5_isInOrder_20 : decode cX5_isInOrder 20 = .ok (.if_icmp .ge 97, 3) := by decide +kernel
theorem dX5_isInOrder_23 : decode cX5_isInOrder 23 = .ok (.aload_n 0, 1) := by decide +kernel
theorem dX5_isInOrder_24 : decode cX5_isInOrder 24 = .ok (.getfield 18, 3) := by decide +kernel
theorem dX5_isInOrder_27 : decode cX5_isInOrder 27 = .ok (.iload 6, 2) := by decide +kernel
theorem dX5_isInOrder_29 : decode cX5_isInOrder 29 = .ok (.aaload, 1) := by decide +kernel
theorem dX5_isInOrder_30 : decode cX5_isInOrder 30 = .ok (.astore 7, 2) := by decide +kernel
theorem dX5_isInOrder_32 : decode cX5_isInOrder 32 = .ok (.aload 7, 2) := by decide +kernel
theorem dX5_isInOrder_34 : decode cX5_isInOrder 34 = .ok (.iload_n 1, 1) := by decide +kernel
theorem dX5_isInOrder_35 : decode cX5_isInOrder 35 = .ok (.invokevirtual 69, 3) := by decide +kernel
theorem dX5_isInOrder_38 : decode cX5_isInOrder 38 = .ok (.ifCond .eq 73, 3) := by decide +kernel
theorem dX5_isInOrder_41 : decode cX5_isInOrder 41 = .ok (.iload_n 2, 1) := by decide +kernel
theorem dX5_isInOrder_42 : decode cX5_isInOrder 42 = .ok (.ifCond .le 17, 3) := by decide +kernel
theorem dX5_isInOrder_45 : decode cX5_isInOrder 45 = .ok (.aload 7, 2) := by decide +kernel
theorem dX5_isInOrder_47 : decode cX5_isInOrder 47 = .ok (.getfield 79, 3) := by decide +kernel
theorem dX5_isInOrder_50 : decode cX5_isInOrder 50 = .ok (.iload_n 1, 1) := by decide +kernel
theorem dX5_isInOrder_51 : decode cX5_isInOrder 51 = .ok (.iaload, 1) := by decide +kernel
theorem dX5_isInOrder_52 : decode cX5_isInOrder 52 = .ok (.iload 5, 2) := by decide +kernel
theorem dX5_isInOrder_54 : decode cX5_isInOrder 54 = .ok (.if_icmp .eq 5, 3) := by decide +kernel
theorem dX5_isInOrder_57 : decode cX5_isInOrder 57 = .ok (.iconst 0, 1) := by decide +kernel
theorem dX5_isInOrder_58 : decode cX5_isInOrder 58 = .ok (.ireturn, 1) := by decide +kernel
theorem dX5_isInOrder_59 : decode cX5_isInOrder 59 = .ok (.aload 7, 2) := by decide +kernel
theorem dX5_isInOrder_61 : decode cX5_isInOrder 61 = .ok (.getfield 79, 3) := by decide +kernel
theorem dX5_isInOrder_64 : decode cX5_isInOrder 64 = .ok (.iload_n 1, 1) := by decide +kernel
theorem dX5_isInOrder_65 : decode cX5_isInOrder 65 = .ok (.iaload, 1) := by decide +kernel
theorem dX5_isInOrder_66 : decode cX5_isInOrder 66 = .ok (.istore 5, 2) := by decide +kernel
theorem dX5_isInOrder_68 : decode cX5_isInOrder 68 = .ok (.iinc 2 1, 3) := by decide +kernel
theorem dX5_isInOrder_71 : decode cX5_isInOrder 71 = .ok (.iload_n 3, 1) := by decide +kernel
theorem dX5_isInOrder_72 : decode cX5_isInOrder 72 = .ok (.aload 7, 2) := by decide +kernel
theorem dX5_isInOrder_74 : decode cX5_isInOrder 74 = .ok (.getfield 89, 3) := by decide +kernel
theorem dX5_isInOrder_77 : decode cX5_isInOrder 77 = .ok (.iload_n 1, 1) := by decide +kernel
theorem dX5_isInOrder_78 : decode cX5_isInOrder 78 = .ok (.iaload, 1) := by decide +kernel
theorem dX5_isInOrder_79 : decode cX5_isInOrder 79 = .ok (.iconst 1, 1) := by decide +kernel
theorem dX5_isInOrder_80 : decode cX5_isInOrder 80 = .ok (.if_icmp .ne 7, 3) := by decide +kernel
theorem dX5_isInOrder_83 : decode cX5_isInOrder 83 = .ok (.iconst 0, 1) := by decide +kernel
theorem dX5_isInOrder_84 : decode cX5_isInOrder 84 = .ok (.goto 4, 3) := by decide +kernel
theorem dX5_isInOrder_87 : decode cX5_isInOrder 87 = .ok (.iconst 1, 1) := by decide +kernel
theorem dX5_isInOrder_88 : decode cX5_isInOrder 88 = .ok (.iadd, 1) := by decide +kernel
theorem dX5_isInOrder_89 : decode cX5_isInOrder 89 = .ok (.istore_n 3, 1) := by decide +kernel
theorem dX5_isInOrder_90 : decode cX5_isInOrder 90 = .ok (.iload 4, 2) := by decide +kernel
theorem dX5_isInOrder_92 : decode cX5_isInOrder 92 = .ok (.aload 7, 2) := by decide +kernel
theorem dX5_isInOrder_94 : decode cX5_isInOrder 94 = .ok (.getfield 89, 3) := by decide +kernel
theorem dX5_isInOrder_97 : decode cX5_isInOrder 97 = .ok (.iload_n 1, 1) := by decide +kernel
theorem dX5_isInOrder_98 : decode cX5_isInOrder 98 = .ok (.iaload, 1) := by decide +kernel
theorem dX5_isInOrder_99 : decode cX5_isInOrder 99 = .ok (.iconst 3, 1) := by decide +kernel
theorem dX5_isInOrder_100 : decode cX5_isInOrder 100 = .ok (.if_icmp .ne 7, 3) := by decide +kernel
theorem dX5_isInOrder_103 : decode cX5_isInOrder 103 = .ok (.iconst 1, 1) := by decide +kernel
theorem dX5_isInOrder_104 : decode cX5_isInOrder 104 = .ok (.goto 4, 3) := by decide +kernel
theorem dX5_isInOrder_107 : decode cX5_isInOrder 107 = .ok (.iconst 0, 1) := by decide +kernel
theorem dX5_isInOrder_108 : decode cX5_isInOrder 108 = .ok (.iadd, 1) := by decide +kernel
theorem dX5_isInOrder_109 : decode cX5_isInOrder 109 = .ok (.istore 4, 2) := by decide +kernel
theorem dX5_isInOrder_111 : decode cX5_isInOrder 111 = .ok (.iinc 6 1, 3) := by decide +kernel
theorem dX5_isInOrder_114 : decode cX5_isInOrder 114 = .ok (.goto (-97), 3) := by decide +kernel
theorem dX5_isInOrder_117 : decode cX5_isInOrder 117 = .ok (.iload_n 3, 1) := by decide +kernel
theorem dX5_isInOrder_118 : decode cX5_isInOrder 118 = .ok (.iconst 1, 1) := by decide +kernel
theorem dX5_isInOrder_119 : decode cX5_isInOrder 119 = .ok (.if_icmp .gt 17, 3) := by decide +kernel
theorem dX5_isInOrder_122 : decode cX5_isInOrder 122 = .ok (.iload 4, 2) := by decide +kernel
theorem dX5_isInOrder_124 : decode cX5_isInOrder 124 = .ok (.ifCond .eq 8, 3) := by decide +kernel
theorem dX5_isInOrder_127 : decode cX5_isInOrder 127 = .ok (.iload_n 2, 1) := by decide +kernel
theorem dX5_isInOrder_128 : decode cX5_isInOrder 128 = .ok (.iconst 1, 1) := by decide +kernel
theorem dX5_isInOrder_129 : decode cX5_isInOrder 129 = .ok (.if_icmp .ne 7, 3) := by decide +kernel
theorem dX5_isInOrder_132 : decode cX5_isInOrder 132 = .ok (.iconst 1, 1) := by decide +kernel
theorem dX5_isInOrder_133 : decode cX5_isInOrder 133 = .ok (.goto 4, 3) := by decide +kernel
theorem dX5_isInOrder_136 : decode cX5_isInOrder 136 = .ok (.iconst 0, 1) := by decide +kernel
theorem dX5_isInOrder_137 : decode cX5_isInOrder 137 = .ok (.ireturn, 1) := by decide +kernel
theorem dX5_cacheAt_0 : decode cX5_cacheAt 0 = .ok (.iload_n 1, 1) := by decide +kernel
theorem dX5_cacheAt_1 : decode cX5_cacheAt 1 = .ok (.ifCond .lt 8, 3) := by decide +kernel
theorem dX5_cacheAt_4 : decode cX5_cacheAt 4 = .ok (.iload_n 1, 1) := by decide +kernel
theorem dX5_cacheAt_5 : decode cX5_cacheAt 5 = .ok (.iconst 4, 1) := by decide +kernel
theorem dX5_cacheAt_6 : decode cX5_cacheAt 6 = .ok (.if_icmp .lt 13, 3) := by decide +kernel
theorem dX5_cacheAt_9 : decode cX5_cacheAt 9 = .ok (.new 210, 3) := by decide +kernel
theorem dX5_cacheAt_12 : decode cX5_cacheAt 12 = .ok (.dup, 1) := by decide +kernel
theorem dX5_cacheAt_13 : decode cX5_cacheAt 13 = .ok (.ldc 212, 2) := by decide +kernel
theorem dX5_cacheAt_15 : decode cX5_cacheAt 15 = .ok (.invokespecial 214, 3) := by decide +kernel
theorem dX5_cacheAt_18 : decode cX5_cacheAt 18 = .ok (.athrow, 1) := by decide +kernel
theorem dX5_cacheAt_19 : decode cX5_cacheAt 19 = .ok (.aload_n 0, 1) := by decide +kernel
theorem dX5_cacheAt_20 : decode cX5_cacheAt 20 = .ok (.getfield 18, 3) := by decide +kernel
theorem dX5_cacheAt_23 : decode cX5_cacheAt 23 = .ok (.iload_n 1, 1) := by decide +kernel
theorem dX5_cacheAt_24 : decode cX5_cacheAt 24 = .ok (.aaload, 1) := by decide +kernel
theorem dX5_cacheAt_25 : decode cX5_cacheAt 25 = .ok (.areturn, 1) := by decide +kernel
set_option maxRecDepth 20000 in
theorem ggX5_homeOf_X5_checkLine : GoodIn wsX5_homeOf wsX5_checkLine := goodIn_ca (goodIn_r _ [5, 6, 7] (by decide +kernel) (by decide +kernel)) (goodIn_sub (fun _ h => List.mem_cons_of_mem _ (List.mem_append_right _ h)) (by decide +kernel))
set_option maxRecDepth 20000 in
theorem gX5_homeOf_X5_checkLine : GoodIn wsX5_homeOf (va_wsS RX5 61 yX5_checkLine wsX5_checkLine) := goodIn_app (goodIn_of _ (by decide +kernel)) ggX5_homeOf_X5_checkLine
theorem dX5_homeOf_0 : decode cX5_homeOf 0 = .ok (.iload_n 1, 1) := by decide +kernel
theorem dX5_homeOf_1 : decode cX5_homeOf 1 = .ok (.invokestatic 61, 3) := by decide +kernel
theorem dX5_homeOf_4 : decode cX5_homeOf 4 = .ok (.aload_n 0, 1) := by decide +kernel
theorem dX5_homeOf_5 : decode cX5_homeOf 5 = .ok (.getfield 27, 3) := by decide +kernel
theorem dX5_homeOf_8 : decode cX5_homeOf 8 = .ok (.iload_n 1, 1) := by decide +kernel
theorem dX5_homeOf_9 : decode cX5_homeOf 9 = .ok (.aaload, 1) := by decide +kernel
theorem dX5_homeOf_10 : decode cX5_homeOf 10 = .ok (.areturn, 1) := by decide +kernel
set_option maxRecDepth 20000 in
theorem ggX5_messageAt_Jx4a65c_size_8abf5 : GoodIn wsX5_messageAt wsJx4a65c_size_8abf5 := goodIn_r _ [10, 11, 33, 34, 35] (by decide +kernel) (by decide +kernel)
set_option maxRecDepth 20000 in
theorem gX5_messageAt_Jx4a65c_size_8abf5 : GoodIn wsX5_messageAt (wsV RX5 153 RJx4a65c yJx4a65c_size_8abf5 wsJx4a65c_size_8abf5) := goodIn_app (goodIn_of _ (by decide +kernel)) ggX5_messageAt_Jx4a65c_size_8abf5
set_option maxRecDepth 20000 in
theorem ggX5_messageAt_Jx4a65c_get_915e3 : GoodIn wsX5_messageAt wsJx4a65c_get_915e3 := goodIn_r _ [15, 11, 16, 17, 18, 19, 20, 21, 22, 23, 24, 25, 26, 9, 27, 28, 33, 34, 35] (by decide +kernel) (by decide +kernel)
set_option maxRecDepth 20000 in
theorem gX5_messageAt_Jx4a65c_get_915e3 : GoodIn wsX5_messageAt (wsV RX5 206 RJx4a65c yJx4a65c_get_915e3 wsJx4a65c_get_915e3) := goodIn_app (goodIn_of _ (by decide +kernel)) ggX5_messageAt_Jx4a65c_get_915e3
theorem dX5_messageAt_0 : decode cX5_messageAt 0 = .ok (.iload_n 1, 1) := by decide +kernel
theorem dX5_messageAt_1 : decode cX5_messageAt 1 = .ok (.ifCond .lt 17, 3) := by decide +kernel
theorem dX5_messageAt_4 : decode cX5_messageAt 4 = .ok (.iload_n 1, 1) := by decide +kernel
theorem dX5_messageAt_5 : decode cX5_messageAt 5 = .ok (.aload_n 0, 1) := by decide +kernel
theorem dX5_messageAt_6 : decode cX5_messageAt 6 = .ok (.getfield 10, 3) := by decide +kernel
theorem dX5_messageAt_9 : decode cX5_messageAt 9 = .ok (.getfield 162, 3) := by decide +kernel
theorem dX5_messageAt_12 : decode cX5_messageAt 12 = .ok (.invokevirtual 153, 3) := by decide +kernel
theorem dX5_messageAt_15 : decode cX5_messageAt 15 = .ok (.if_icmp .lt 13, 3) := by decide +kernel
theorem dX5_messageAt_18 : decode cX5_messageAt 18 = .ok (.new 210, 3) := by decide +kernel
theorem dX5_messageAt_21 : decode cX5_messageAt 21 = .ok (.dup, 1) := by decide +kernel
theorem dX5_messageAt_22 : decode cX5_messageAt 22 = .ok (.ldc 215, 2) := by decide +kernel
theorem dX5_messageAt_24 : decode cX5_messageAt 24 = .ok (.invokespecial 214, 3) := by decide +kernel
theorem dX5_messageAt_27 : decode cX5_messageAt 27 = .ok (.athrow, 1) := by decide +kernel
theorem dX5_messageAt_28 : decode cX5_messageAt 28 = .ok (.aload_n 0, 1) := by decide +kernel
theorem dX5_messageAt_29 : decode cX5_messageAt 29 = .ok (.getfield 10, 3) := by decide +kernel
theorem dX5_messageAt_32 : decode cX5_messageAt 32 = .ok (.getfield 162, 3) := by decide +kernel
theorem dX5_messageAt_35 : decode cX5_messageAt 35 = .ok (.iload_n 1, 1) := by decide +kernel
theorem dX5_messageAt_36 : decode cX5_messageAt 36 = .ok (.invokevirtual 206, 3) := by decide +kernel
theorem dX5_messageAt_39 : decode cX5_messageAt 39 = .ok (.checkcast 170, 3) := by decide +kernel
theorem dX5_messageAt_42 : decode cX5_messageAt 42 = .ok (.areturn, 1) := by decide +kernel
theorem dX5_checkLine_0 : decode cX5_checkLine 0 = .ok (.iload_n 0, 1) := by decide +kernel
theorem dX5_checkLine_1 : decode cX5_checkLine 1 = .ok (.ifCond .lt 9, 3) := by decide +kernel
theorem dX5_checkLine_4 : decode cX5_checkLine 4 = .ok (.iload_n 0, 1) := by decide +kernel
theorem dX5_checkLine_5 : decode cX5_checkLine 5 = .ok (.bipush 16, 2) := by decide +kernel
theorem dX5_checkLine_7 : decode cX5_checkLine 7 = .ok (.if_icmp .lt 13, 3) := by decide +kernel
theorem dX5_checkLine_10 : decode cX5_checkLine 10 = .ok (.new 210, 3) := by decide +kernel
theorem dX5_checkLine_13 : decode cX5_checkLine 13 = .ok (.dup, 1) := by decide +kernel
theorem dX5_checkLine_14 : decode cX5_checkLine 14 = .ok (.ldc 217, 2) := by decide +kernel
theorem dX5_checkLine_16 : decode cX5_checkLine 16 = .ok (.invokespecial 214, 3) := by decide +kernel
theorem dX5_checkLine_19 : decode cX5_checkLine 19 = .ok (.athrow, 1) := by decide +kernel
theorem dX5_checkLine_20 : decode cX5_checkLine 20 = .ok (.return_, 1) := by decide +kernel
set_option maxRecDepth 20000 in
theorem ggX5_checkHeld_X0_holds : GoodIn wsX5_checkHeld wsX0_holds := goodIn_r _ [7, 8, 9, 10, 11, 12, 13, 14, 15, 16, 17, 18, 19, 20, 21, 22] (by decide +kernel) (by decide +kernel)
set_option maxRecDepth 20000 in
theorem gX5_checkHeld_X0_holds : GoodIn wsX5_checkHeld (wsV RX5 69 RX0 yX0_holds wsX0_holds) := goodIn_app (goodIn_of _ (by decide +kernel)) ggX5_checkHeld_X0_holds
theorem dX5_checkHeld_0 : decode cX5_checkHeld 0 = .ok (.aload_n 0, 1) := by decide +kernel
theorem dX5_checkHeld_1 : decode cX5_checkHeld 1 = .ok (.iload_n 1, 1) := by decide +kernel
theorem dX5_checkHeld_2 : decode cX5_checkHeld 2 = .ok (.invokevirtual 69, 3) := by decide +kernel
theorem dX5_checkHeld_5 : decode cX5_checkHeld 5 = .ok (.ifCond .ne 13, 3) := by decide +kernel
theorem dX5_checkHeld_8 : decode cX5_checkHeld 8 = .ok (.new 127, 3) := by decide +kernel
theorem dX5_checkHeld_11 : decode cX5_checkHeld 11 = .ok (.dup, 1) := by decide +kernel
theorem dX5_checkHeld_12 : decode cX5_checkHeld 12 = .ok (.ldc 219, 2) := by decide +kernel
theorem dX5_checkHeld_14 : decode cX5_checkHeld 14 = .ok (.invokespecial 131, 3) := by decide +kernel
theorem dX5_checkHeld_17 : decode cX5_checkHeld 17 = .ok (.athrow, 1) := by decide +kernel
theorem dX5_checkHeld_18 : decode cX5_checkHeld 18 = .ok (.return_, 1) := by decide +kernel
set_option maxRecDepth 20000 in
theorem ggX5_checkAccess_X0_needsWayFor : GoodIn wsX5_checkAccess wsX0_needsWayFor := goodIn_r _ [11, 12, 13, 14, 15, 16, 10, 17, 18, 25, 26, 27, 28, 29, 30, 31, 32, 33, 34, 35, 36, 37, 38] (by decide +kernel) (by decide +kernel)
set_option maxRecDepth 20000 in
theorem gX5_checkAccess_X0_needsWayFor : GoodIn wsX5_checkAccess (wsV RX5 225 RX0 yX0_needsWayFor wsX0_needsWayFor) := goodIn_app (goodIn_of _ (by decide +kernel)) ggX5_checkAccess_X0_needsWayFor
set_option maxRecDepth 20000 in
theorem ggX5_checkAccess_X0_lacksVictimRoomFor : GoodIn wsX5_checkAccess wsX0_lacksVictimRoomFor := goodIn_r _ [22, 18, 23, 24, 25, 26, 27, 28, 29, 30, 31, 32, 33, 34, 35, 36, 37, 38] (by decide +kernel) (by decide +kernel)
set_option maxRecDepth 20000 in
theorem gX5_checkAccess_X0_lacksVictimRoomFor : GoodIn wsX5_checkAccess (wsV RX5 110 RX0 yX0_lacksVictimRoomFor wsX0_lacksVictimRoomFor) := goodIn_app (goodIn_of _ (by decide +kernel)) ggX5_checkAccess_X0_lacksVictimRoomFor
theorem dX5_checkAccess_0 : decode cX5_checkAccess 0 = .ok (.aload_n 0, 1) := by decide +kernel
theorem dX5_checkAccess_1 : decode cX5_checkAccess 1 = .ok (.getfield 99, 3) := by decide +kernel
theorem dX5_checkAccess_4 : decode cX5_checkAccess 4 = .ok (.getfield 103, 3) := by decide +kernel
theorem dX5_checkAccess_7 : decode cX5_checkAccess 7 = .ok (.iconst (-1), 1) := by decide +kernel
theorem dX5_checkAccess_8 : decode cX5_checkAccess 8 = .ok (.if_icmp .eq 13, 3) := by decide +kernel
theorem dX5_checkAccess_11 : decode cX5_checkAccess 11 = .ok (.new 49, 3) := by decide +kernel
theorem dX5_checkAccess_14 : decode cX5_checkAccess 14 = .ok (.dup, 1) := by decide +kernel
theorem dX5_checkAccess_15 : decode cX5_checkAccess 15 = .ok (.ldc 221, 2) := by decide +kernel
theorem dX5_checkAccess_17 : decode cX5_checkAccess 17 = .ok (.invokespecial 53, 3) := by decide +kernel
theorem dX5_checkAccess_20 : decode cX5_checkAccess 20 = .ok (.athrow, 1) := by decide +kernel
theorem dX5_checkAccess_21 : decode cX5_checkAccess 21 = .ok (.aload_n 0, 1) := by decide +kernel
theorem dX5_checkAccess_22 : decode cX5_checkAccess 22 = .ok (.getfield 118, 3) := by decide +kernel
theorem dX5_checkAccess_25 : decode cX5_checkAccess 25 = .ok (.iload_n 1, 1) := by decide +kernel
theorem dX5_checkAccess_26 : decode cX5_checkAccess 26 = .ok (.iaload, 1) := by decide +kernel
theorem dX5_checkAccess_27 : decode cX5_checkAccess 27 = .ok (.iconst (-1), 1) := by decide +kernel
theorem dX5_checkAccess_28 : decode cX5_checkAccess 28 = .ok (.if_icmp .eq 13, 3) := by decide +kernel
theorem dX5_checkAccess_31 : decode cX5_checkAccess 31 = .ok (.new 49, 3) := by decide +kernel
theorem dX5_checkAccess_34 : decode cX5_checkAccess 34 = .ok (.dup, 1) := by decide +kernel
theorem dX5_checkAccess_35 : decode cX5_checkAccess 35 = .ok (.ldc 223, 2) := by decide +kernel
theorem dX5_checkAccess_37 : decode cX5_checkAccess 37 = .ok (.invokespecial 53, 3) := by decide +kernel
theorem dX5_checkAccess_40 : decode cX5_checkAccess 40 = .ok (.athrow, 1) := by decide +kernel
theorem dX5_checkAccess_41 : decode cX5_checkAccess 41 = .ok (.aload_n 0, 1) := by decide +kernel
theorem dX5_checkAccess_42 : decode cX5_checkAccess 42 = .ok (.iload_n 1, 1) := by decide +kernel
theorem dX5_checkAccess_43 : decode cX5_checkAccess 43 = .ok (.invokevirtual 225, 3) := by decide +kernel
theorem dX5_checkAccess_46 : decode cX5_checkAccess 46 = .ok (.ifCond .eq 26, 3) := by decide +kernel
theorem dX5_checkAccess_49 : decode cX5_checkAccess 49 = .ok (.aload_n 0, 1) := by decide +kernel
theorem dX5_checkAccess_50 : decode cX5_checkAccess 50 = .ok (.aload_n 0, 1) := by decide +kernel
theorem dX5_checkAccess_51 : decode cX5_checkAccess 51 = .ok (.getfield 132, 3) := by decide +kernel
theorem dX5_checkAccess_54 : decode cX5_checkAccess 54 = .ok (.iconst 0, 1) := by decide +kernel
theorem dX5_checkAccess_55 : decode cX5_checkAccess 55 = .ok (.iaload, 1) := by decide +kernel
theorem dX5_checkAccess_56 : decode cX5_checkAccess 56 = .ok (.invokevirtual 110, 3) := by decide +kernel
theorem dX5_checkAccess_59 : decode cX5_checkAccess 59 = .ok (.ifCond .eq 13, 3) := by decide +kernel
theorem dX5_checkAccess_62 : decode cX5_checkAccess 62 = .ok (.new 49, 3) := by decide +kernel
theorem dX5_checkAccess_65 : decode cX5_checkAccess 65 = .ok (.dup, 1) := by decide +kernel
theorem dX5_checkAccess_66 : decode cX5_checkAccess 66 = .ok (.ldc 113, 2) := by decide +kernel
theorem dX5_checkAccess_68 : decode cX5_checkAccess 68 = .ok (.invokespecial 53, 3) := by decide +kernel
theorem dX5_checkAccess_71 : decode cX5_checkAccess 71 = .ok (.athrow, 1) := by decide +kernel
theorem dX5_checkAccess_72 : decode cX5_checkAccess 72 = .ok (.return_, 1) := by decide +kernel
set_option maxRecDepth 20000 in
theorem ggX5_handOver_X5_messageAt : GoodIn wsX5_handOver wsX5_messageAt := goodIn_ca (goodIn_r _ [9, 10, 11, 1, 2, 12, 13, 14, 15, 16, 17, 18, 19, 20, 21, 22, 23, 24, 25, 26, 27, 28, 29, 30, 31, 32, 33, 34, 35, 247, 248, 249, 250, 258, 259, 260] (by decide +kernel) (by decide +kernel)) (goodIn_sub (fun _ h => List.mem_cons_of_mem _ (List.mem_append_right _ h)) (by decide +kernel))
set_option maxRecDepth 20000 in
theorem gX5_handOver_X5_messageAt : GoodIn wsX5_handOver (wsV RX5 165 RX5 yX5_messageAt wsX5_messageAt) := goodIn_app (goodIn_of _ (by decide +kernel)) ggX5_handOver_X5_messageAt
set_option maxRecDepth 20000 in
theorem ggX5_handOver_Jx4a65c_remove_915e3 : GoodIn wsX5_handOver wsJx4a65c_remove_915e3 := goodIn_r _ [39, 18, 35, 23, 24, 25, 26, 27, 28, 29, 30, 40, 41, 42, 16, 43, 44, 45, 46, 47, 48, 49, 258, 259, 260] (by decide +kernel) (by decide +kernel)
set_option maxRecDepth 20000 in
theorem gX5_handOver_Jx4a65c_remove_915e3 : GoodIn wsX5_handOver (wsV RX5 228 RJx4a65c yJx4a65c_remove_915e3 wsJx4a65c_remove_915e3) := goodIn_app (goodIn_of _ (by decide +kernel)) ggX5_handOver_Jx4a65c_remove_915e3
set_option maxRecDepth 20000 in
theorem ggX5_handOver_X5_homeOf : GoodIn wsX5_handOver wsX5_homeOf := goodIn_ca (goodIn_r _ [53, 54, 55, 56, 8, 57, 10, 11, 247, 248, 249] (by decide +kernel) (by decide +kernel)) (goodIn_sub (fun _ h => List.mem_cons_of_mem _ (List.mem_append_right _ h)) (by decide +kernel))
set_option maxRecDepth 20000 in
theorem gX5_handOver_X5_homeOf : GoodIn wsX5_handOver (wsV RX5 135 RX5 yX5_homeOf wsX5_homeOf) := goodIn_app (goodIn_of _ (by decide +kernel)) ggX5_handOver_X5_homeOf
set_option maxRecDepth 20000 in
theorem ggX5_handOver_X1_receive : GoodIn wsX5_handOver wsX1_receive := goodIn_r _ [62, 63, 64, 65, 66, 67, 14, 15, 16, 17, 18, 68, 69, 70, 71, 72, 37, 38, 39, 35, 23, 24, 25, 26, 27, 28, 29, 30, 40, 41, 42, 43, 44, 45, 46, 47, 48, 49, 73, 74, 75, 61, 76, 77, 78, 79, 80, 81, 82, 83, 84, 85, 86, 87, 88, 89, 90, 91, 92, 93, 94, 95, 96, 97, 98, 99, 100, 101, 102, 103, 104, 105, 106, 107, 108, 109, 110, 111, 112, 113, 114, 115, 116, 117, 118, 119, 120, 121, 122, 123, 124, 125, 126, 127, 128, 129, 130, 131, 132, 133, 134, 135, 136, 137, 138, 139, 140, 141, 142, 143, 144, 145, 146, 147, 148, 149, 150, 151, 152, 153, 154, 155, 156, 157, 158, 159, 160, 161, 162, 163, 164, 165, 166, 167, 168, 169, 170, 171, 172, 173, 174, 175, 176, 177, 251, 252, 253, 254, 255, 256, 257, 261, 262, 263, 264, 265, 266, 267, 268, 269, 258, 259, 260, 250] (by decide +kernel) (by decide +kernel)
set_option maxRecDepth 20000 in
theorem gX5_handOver_X1_receive : GoodIn wsX5_handOver (wsV RX5 231 RX1 yX1_receive wsX1_receive) := goodIn_app (goodIn_of _ (by decide +kernel)) ggX5_handOver_X1_receive
set_option maxRecDepth 20000 in
theorem ggX5_handOver_X5_cacheAt : GoodIn wsX5_handOver wsX5_cacheAt := goodIn_ca (goodIn_r _ [181, 10, 11, 182, 247, 248, 249] (by decide +kernel) (by decide +kernel)) (goodIn_sub (fun _ h => List.mem_cons_of_mem _ (List.mem_append_right _ h)) (by decide +kernel))
set_option maxRecDepth 20000 in
theorem gX5_handOver_X5_cacheAt : GoodIn wsX5_handOver (wsV RX5 32 RX5 yX5_cacheAt wsX5_cacheAt) := goodIn_app (goodIn_of _ (by decide +kernel)) ggX5_handOver_X5_cacheAt
set_option maxRecDepth 20000 in
theorem ggX5_handOver_X0_receive : GoodIn wsX5_handOver wsX0_receive := goodIn_r _ [187, 188, 189, 190, 191, 192, 193, 194, 195, 196, 197, 198, 199, 200, 201, 202, 203, 204, 205, 186, 206, 207, 208, 209, 210, 211, 212, 213, 214, 215, 216, 217, 218, 219, 220, 221, 222, 223, 224, 225, 226, 227, 228, 229, 230, 231, 232, 233, 234, 90, 91, 92, 93, 94, 95, 96, 97, 98, 99, 100, 101, 102, 103, 104, 105, 106, 107, 108, 109, 110, 111, 112, 113, 16, 114, 44, 45, 35, 18, 115, 116, 117, 118, 119, 120, 121, 122, 123, 124, 125, 126, 127, 128, 129, 130, 131, 132, 133, 134, 135, 136, 137, 138, 139, 140, 141, 142, 143, 144, 145, 146, 147, 148, 149, 150, 151, 152, 153, 154, 155, 156, 157, 158, 47, 48, 49, 235, 236, 237, 238, 239, 240, 241, 242, 243, 244, 245, 246, 251, 252, 253, 254, 255, 256, 257, 270, 271, 272, 273, 274, 275, 276, 277, 278, 279, 280, 281, 282, 283, 284, 285, 286, 287, 288, 289, 290, 250, 258, 259, 260] (by decide +kernel) (by decide +kernel)
set_option maxRecDepth 20000 in
theorem gX5_handOver_X0_receive : GoodIn wsX5_handOver (wsV RX5 235 RX0 yX0_receive wsX0_receive) := goodIn_app (goodIn_of _ (by decide +kernel)) ggX5_handOver_X0_receive
theorem dX5_handOver_0 : decode cX5_handOver 0 = .ok (.aload_n 0, 1) := by decide +kernel
theorem dX5_handOver_1 : decode cX5_handOver 1 = .ok (.iload_n 1, 1) := by decide +kernel
theorem dX5_handOver_2 : decode cX5_handOver 2 = .ok (.invokevirtual 165, 3) := by decide +kernel
theorem dX5_handOver_5 : decode cX5_handOver 5 = .ok (.astore_n 2, 1) := by decide +kernel
theorem dX5_handOver_6 : decode cX5_handOver 6 = .ok (.aload_n 0, 1) := by decide +kernel
theorem dX5_handOver_7 : decode cX5_handOver 7 = .ok (.getfield 10, 3) := by decide +kernel
theorem dX5_handOver_10 : decode cX5_handOver 10 = .ok (.getfield 162, 3) := by decide +kernel
theorem dX5_handOver_13 : decode cX5_handOver 13 = .ok (.iload_n 1, 1) := by decide +kernel
theorem dX5_handOver_14 : decode cX5_handOver 14 = .ok (.invokevirtual 228, 3) := by decide +kernel
theorem dX5_handOver_17 : decode cX5_handOver 17 = .ok (.pop, 1) := by decide +kernel
theorem dX5_handOver_18 : decode cX5_handOver 18 = .ok (.aload_n 2, 1) := by decide +kernel
theorem dX5_handOver_19 : decode cX5_handOver 19 = .ok (.getfield 178, 3) := by decide +kernel
theorem dX5_handOver_22 : decode cX5_handOver 22 = .ok (.iconst (-1), 1) := by decide +kernel
theorem dX5_handOver_23 : decode cX5_handOver 23 = .ok (.if_icmp .ne 18, 3) := by decide +kernel
theorem dX5_handOver_26 : decode cX5_handOver 26 = .ok (.aload_n 0, 1) := by decide +kernel
theorem dX5_handOver_27 : decode cX5_handOver 27 = .ok (.aload_n 2, 1) := by decide +kernel
theorem dX5_handOver_28 : decode cX5_handOver 28 = .ok (.getfield 174, 3) := by decide +kernel
theorem dX5_handOver_31 : decode cX5_handOver 31 = .ok (.invokevirtual 135, 3) := by decide +kernel
theorem dX5_handOver_34 : decode cX5_handOver 34 = .ok (.aload_n 2, 1) := by decide +kernel
theorem dX5_handOver_35 : decode cX5_handOver 35 = .ok (.invokevirtual 231, 3) := by decide +kernel
theorem dX5_handOver_38 : decode cX5_handOver 38 = .ok (.goto 15, 3) := by decide +kernel
theorem dX5_handOver_41 : decode cX5_handOver 41 = .ok (.aload_n 0, 1) := by decide +kernel
theorem dX5_handOver_42 : decode cX5_handOver 42 = .ok (.aload_n 2, 1) := by decide +kernel
theorem dX5_handOver_43 : decode cX5_handOver 43 = .ok (.getfield 178, 3) := by decide +kernel
theorem dX5_handOver_46 : decode cX5_handOver 46 = .ok (.invokevirtual 32, 3) := by decide +kernel
theorem dX5_handOver_49 : decode cX5_handOver 49 = .ok (.aload_n 2, 1) := by decide +kernel
theorem dX5_handOver_50 : decode cX5_handOver 50 = .ok (.invokevirtual 235, 3) := by decide +kernel
theorem dX5_handOver_53 : decode cX5_handOver 53 = .ok (.return_, 1) := by decide +kernel
