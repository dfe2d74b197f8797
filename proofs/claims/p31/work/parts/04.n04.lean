set_option maxRecDepth 20000 in
theorem ggX0_init_X4_init : GoodIn wsX0_init wsX4_init := goodIn_r _ [23, 24, 2, 3, 25, 26, 27, 28, 29, 30, 31, 32] (by decide +kernel) (by decide +kernel)
set_option maxRecDepth 20000 in
theorem gX0_init_X4_init_n11 : GoodIn wsX0_init (wsX4_init) := ggX0_init_X4_init
theorem dX0_init_0 : decode cX0_init 0 = .ok (.aload_n 0, 1) := by decide +kernel
theorem dX0_init_1 : decode cX0_init 1 = .ok (.invokespecial 3, 3) := by decide +kernel
theorem dX0_init_4 : decode cX0_init 4 = .ok (.aload_n 0, 1) := by decide +kernel
theorem dX0_init_5 : decode cX0_init 5 = .ok (.new 9, 3) := by decide +kernel
theorem dX0_init_8 : decode cX0_init 8 = .ok (.dup, 1) := by decide +kernel
theorem dX0_init_9 : decode cX0_init 9 = .ok (.invokespecial 11, 3) := by decide +kernel
theorem dX0_init_12 : decode cX0_init 12 = .ok (.putfield 12, 3) := by decide +kernel
theorem dX0_init_15 : decode cX0_init 15 = .ok (.aload_n 0, 1) := by decide +kernel
theorem dX0_init_16 : decode cX0_init 16 = .ok (.bipush 16, 2) := by decide +kernel
theorem dX0_init_18 : decode cX0_init 18 = .ok (.newarray .int, 2) := by decide +kernel
theorem dX0_init_20 : decode cX0_init 20 = .ok (.putfield 18, 3) := by decide +kernel
theorem dX0_init_23 : decode cX0_init 23 = .ok (.aload_n 0, 1) := by decide +kernel
theorem dX0_init_24 : decode cX0_init 24 = .ok (.bipush 16, 2) := by decide +kernel
theorem dX0_init_26 : decode cX0_init 26 = .ok (.newarray .int, 2) := by decide +kernel
theorem dX0_init_28 : decode cX0_init 28 = .ok (.putfield 22, 3) := by decide +kernel
theorem dX0_init_31 : decode cX0_init 31 = .ok (.aload_n 0, 1) := by decide +kernel
theorem dX0_init_32 : decode cX0_init 32 = .ok (.bipush 16, 2) := by decide +kernel
theorem dX0_init_34 : decode cX0_init 34 = .ok (.newarray .int, 2) := by decide +kernel
theorem dX0_init_36 : decode cX0_init 36 = .ok (.putfield 25, 3) := by decide +kernel
theorem dX0_init_39 : decode cX0_init 39 = .ok (.aload_n 0, 1) := by decide +kernel
theorem dX0_init_40 : decode cX0_init 40 = .ok (.iconst 4, 1) := by decide +kernel
theorem dX0_init_41 : decode cX0_init 41 = .ok (.newarray .int, 2) := by decide +kernel
theorem dX0_init_43 : decode cX0_init 43 = .ok (.putfield 28, 3) := by decide +kernel
theorem dX0_init_46 : decode cX0_init 46 = .ok (.aload_n 0, 1) := by decide +kernel
theorem dX0_init_47 : decode cX0_init 47 = .ok (.iconst 0, 1) := by decide +kernel
theorem dX0_init_48 : decode cX0_init 48 = .ok (.putfield 31, 3) := by decide +kernel
theorem dX0_init_51 : decode cX0_init 51 = .ok (.aload_n 0, 1) := by decide +kernel
theorem dX0_init_52 : decode cX0_init 52 = .ok (.iconst 0, 1) := by decide +kernel
theorem dX0_init_53 : decode cX0_init 53 = .ok (.putfield 35, 3) := by decide +kernel
theorem dX0_init_56 : decode cX0_init 56 = .ok (.aload_n 0, 1) := by decide +kernel
theorem dX0_init_57 : decode cX0_init 57 = .ok (.iconst 2, 1) := by decide +kernel
theorem dX0_init_58 : decode cX0_init 58 = .ok (.putfield 38, 3) := by decide +kernel
theorem dX0_init_61 : decode cX0_init 61 = .ok (.aload_n 0, 1) := by decide +kernel
theorem dX0_init_62 : decode cX0_init 62 = .ok (.iconst 1, 1) := by decide +kernel
theorem dX0_init_63 : decode cX0_init 63 = .ok (.putfield 41, 3) := by decide +kernel
theorem dX0_init_66 : decode cX0_init 66 = .ok (.aload_n 0, 1) := by decide +kernel
theorem dX0_init_67 : decode cX0_init 67 = .ok (.iconst (-1), 1) := by decide +kernel
theorem dX0_init_68 : decode cX0_init 68 = .ok (.putfield 44, 3) := by decide +kernel
theorem dX0_init_71 : decode cX0_init 71 = .ok (.aload_n 0, 1) := by decide +kernel
theorem dX0_init_72 : decode cX0_init 72 = .ok (.iconst 0, 1) := by decide +kernel
theorem dX0_init_73 : decode cX0_init 73 = .ok (.putfield 47, 3) := by decide +kernel
theorem dX0_init_76 : decode cX0_init 76 = .ok (.aload_n 0, 1) := by decide +kernel
theorem dX0_init_77 : decode cX0_init 77 = .ok (.iconst 0, 1) := by decide +kernel
theorem dX0_init_78 : decode cX0_init 78 = .ok (.putfield 50, 3) := by decide +kernel
theorem dX0_init_81 : decode cX0_init 81 = .ok (.aload_n 0, 1) := by decide +kernel
theorem dX0_init_82 : decode cX0_init 82 = .ok (.iload_n 1, 1) := by decide +kernel
theorem dX0_init_83 : decode cX0_init 83 = .ok (.putfield 53, 3) := by decide +kernel
theorem dX0_init_86 : decode cX0_init 86 = .ok (.aload_n 0, 1) := by decide +kernel
theorem dX0_init_87 : decode cX0_init 87 = .ok (.aload_n 2, 1) := by decide +kernel
theorem dX0_init_88 : decode cX0_init 88 = .ok (.putfield 56, 3) := by decide +kernel
theorem dX0_init_91 : decode cX0_init 91 = .ok (.iconst 0, 1) := by decide +kernel
theorem dX0_init_92 : decode cX0_init 92 = .ok (.istore_n 3, 1) := by decide +kernel
theorem dX0_init_93 : decode cX0_init 93 = .ok (.iload_n 3, 1) := by decide +kernel
theorem dX0_init_94 : decode cX0_init 94 = .ok (.bipush 16, 2) := by decide +kernel
theorem dX0_init_96 : decode cX0_init 96 = .ok (.if_icmp .ge 23, 3) := by decide +kernel
theorem dX0_init_99 : decode cX0_init 99 = .ok (.aload_n 0, 1) := by decide +kernel
theorem dX0_init_100 : decode cX0_init 100 = .ok (.getfield 22, 3) := by decide +kernel
theorem dX0_init_103 : decode cX0_init 103 = .ok (.iload_n 3, 1) := by decide +kernel
theorem dX0_init_104 : decode cX0_init 104 = .ok (.iconst (-1), 1) := by decide +kernel
theorem dX0_init_105 : decode cX0_init 105 = .ok (.iastore, 1) := by decide +kernel
theorem dX0_init_106 : decode cX0_init 106 = .ok (.aload_n 0, 1) := by decide +kernel
theorem dX0_init_107 : decode cX0_init 107 = .ok (.getfield 25, 3) := by decide +kernel
theorem dX0_init_110 : decode cX0_init 110 = .ok (.iload_n 3, 1) := by decide +kernel
theorem dX0_init_111 : decode cX0_init 111 = .ok (.iconst (-1), 1) := by decide +kernel
theorem dX0_init_112 : decode cX0_init 112 = .ok (.iastore, 1) := by decide +kernel
theorem dX0_init_113 : decode cX0_init 113 = .ok (.iinc 3 1, 3) := by decide +kernel
theorem dX0_init_116 : decode cX0_init 116 = .ok (.goto (-23), 3) := by decide +kernel
theorem dX0_init_119 : decode cX0_init 119 = .ok (.return_, 1) := by decide +kernel
theorem dX0_isInUse_0 : decode cX0_isInUse 0 = .ok (.aload_n 0, 1) := by decide +kernel
theorem dX0_isInUse_1 : decode cX0_isInUse 1 = .ok (.getfield 31, 3) := by decide +kernel
theorem dX0_isInUse_4 : decode cX0_isInUse 4 = .ok (.ifCond .gt 21, 3) := by decide +kernel
theorem dX0_isInUse_7 : decode cX0_isInUse 7 = .ok (.aload_n 0, 1) := by decide +kernel
theorem dX0_isInUse_8 : decode cX0_isInUse 8 = .ok (.getfield 35, 3) := by decide +kernel
theorem dX0_isInUse_11 : decode cX0_isInUse 11 = .ok (.ifCond .gt 14, 3) := by decide +kernel
theorem dX0_isInUse_14 : decode cX0_isInUse 14 = .ok (.aload_n 0, 1) := by decide +kernel
theorem dX0_isInUse_15 : decode cX0_isInUse 15 = .ok (.getfield 12, 3) := by decide +kernel
theorem dX0_isInUse_18 : decode cX0_isInUse 18 = .ok (.getfield 60, 3) := by decide +kernel
theorem dX0_isInUse_21 : decode cX0_isInUse 21 = .ok (.iconst (-1), 1) := by decide +kernel
theorem dX0_isInUse_22 : decode cX0_isInUse 22 = .ok (.if_icmp .eq 7, 3) := by decide +kernel
theorem dX0_isInUse_25 : decode cX0_isInUse 25 = .ok (.iconst 1, 1) := by decide +kernel
theorem dX0_isInUse_26 : decode cX0_isInUse 26 = .ok (.goto 4, 3) := by decide +kernel
theorem dX0_isInUse_29 : decode cX0_isInUse 29 = .ok (.iconst 0, 1) := by decide +kernel
theorem dX0_isInUse_30 : decode cX0_isInUse 30 = .ok (.ireturn, 1) := by decide +kernel
theorem dX0_holds_0 : decode cX0_holds 0 = .ok (.aload_n 0, 1) := by decide +kernel
theorem dX0_holds_1 : decode cX0_holds 1 = .ok (.getfield 18, 3) := by decide +kernel
theorem dX0_holds_4 : decode cX0_holds 4 = .ok (.iload_n 1, 1) := by decide +kernel
theorem dX0_holds_5 : decode cX0_holds 5 = .ok (.iaload, 1) := by decide +kernel
theorem dX0_holds_6 : decode cX0_holds 6 = .ok (.ifCond .eq 7, 3) := by decide +kernel
theorem dX0_holds_9 : decode cX0_holds 9 = .ok (.iconst 1, 1) := by decide +kernel
theorem dX0_holds_10 : decode cX0_holds 10 = .ok (.goto 4, 3) := by decide +kernel
theorem dX0_holds_13 : decode cX0_holds 13 = .ok (.iconst 0, 1) := by decide +kernel
theorem dX0_holds_14 : decode cX0_holds 14 = .ok (.ireturn, 1) := by decide +kernel
set_option maxRecDepth 20000 in
theorem ggX0_needsWayFor_X0_holds : GoodIn wsX0_needsWayFor wsX0_holds := goodIn_r _ [7, 8, 9, 10, 11, 12, 13, 14, 15, 16, 17, 18, 19, 20, 21, 22] (by decide +kernel) (by decide +kernel)
set_option maxRecDepth 20000 in
theorem gX0_needsWayFor_X0_holds : GoodIn wsX0_needsWayFor (wsV RX0 63 RX0 yX0_holds wsX0_holds) := goodIn_app (goodIn_of _ (by decide +kernel)) ggX0_needsWayFor_X0_holds
theorem dX0_needsWayFor_0 : decode cX0_needsWayFor 0 = .ok (.aload_n 0, 1) := by decide +kernel
theorem dX0_needsWayFor_1 : decode cX0_needsWayFor 1 = .ok (.iload_n 1, 1) := by decide +kernel
theorem dX0_needsWayFor_2 : decode cX0_needsWayFor 2 = .ok (.invokevirtual 63, 3) := by decide +kernel
theorem dX0_needsWayFor_5 : decode cX0_needsWayFor 5 = .ok (.ifCond .ne 18, 3) := by decide +kernel
theorem dX0_needsWayFor_8 : decode cX0_needsWayFor 8 = .ok (.aload_n 0, 1) := by decide +kernel
theorem dX0_needsWayFor_9 : decode cX0_needsWayFor 9 = .ok (.getfield 31, 3) := by decide +kernel
theorem dX0_needsWayFor_12 : decode cX0_needsWayFor 12 = .ok (.aload_n 0, 1) := by decide +kernel
theorem dX0_needsWayFor_13 : decode cX0_needsWayFor 13 = .ok (.getfield 38, 3) := by decide +kernel
theorem dX0_needsWayFor_16 : decode cX0_needsWayFor 16 = .ok (.if_icmp .lt 7, 3) := by decide +kernel
theorem dX0_needsWayFor_19 : decode cX0_needsWayFor 19 = .ok (.iconst 1, 1) := by decide +kernel
theorem dX0_needsWayFor_20 : decode cX0_needsWayFor 20 = .ok (.goto 4, 3) := by decide +kernel
theorem dX0_needsWayFor_23 : decode cX0_needsWayFor 23 = .ok (.iconst 0, 1) := by decide +kernel
theorem dX0_needsWayFor_24 : decode cX0_needsWayFor 24 = .ok (.ireturn, 1) := by decide +kernel
theorem dX0_lacksVictimRoomFor_0 : decode cX0_lacksVictimRoomFor 0 = .ok (.aload_n 0, 1) := by decide +kernel
theorem dX0_lacksVictimRoomFor_1 : decode cX0_lacksVictimRoomFor 1 = .ok (.getfield 18, 3) := by decide +kernel
theorem dX0_lacksVictimRoomFor_4 : decode cX0_lacksVictimRoomFor 4 = .ok (.iload_n 1, 1) := by decide +kernel
theorem dX0_lacksVictimRoomFor_5 : decode cX0_lacksVictimRoomFor 5 = .ok (.iaload, 1) := by decide +kernel
theorem dX0_lacksVictimRoomFor_6 : decode cX0_lacksVictimRoomFor 6 = .ok (.iconst 1, 1) := by decide +kernel
theorem dX0_lacksVictimRoomFor_7 : decode cX0_lacksVictimRoomFor 7 = .ok (.if_icmp .eq 18, 3) := by decide +kernel
theorem dX0_lacksVictimRoomFor_10 : decode cX0_lacksVictimRoomFor 10 = .ok (.aload_n 0, 1) := by decide +kernel
theorem dX0_lacksVictimRoomFor_11 : decode cX0_lacksVictimRoomFor 11 = .ok (.getfield 35, 3) := by decide +kernel
theorem dX0_lacksVictimRoomFor_14 : decode cX0_lacksVictimRoomFor 14 = .ok (.aload_n 0, 1) := by decide +kernel
theorem dX0_lacksVictimRoomFor_15 : decode cX0_lacksVictimRoomFor 15 = .ok (.getfield 41, 3) := by decide +kernel
theorem dX0_lacksVictimRoomFor_18 : decode cX0_lacksVictimRoomFor 18 = .ok (.if_icmp .lt 7, 3) := by decide +kernel
theorem dX0_lacksVictimRoomFor_21 : decode cX0_lacksVictimRoomFor 21 = .ok (.iconst 1, 1) := by decide +kernel
theorem dX0_lacksVictimRoomFor_22 : decode cX0_lacksVictimRoomFor 22 = .ok (.goto 4, 3) := by decide +kernel
theorem dX0_lacksVictimRoomFor_25 : decode cX0_lacksVictimRoomFor 25 = .ok (.iconst 0, 1) := by decide +kernel
theorem dX0_lacksVictimRoomFor_26 : decode cX0_lacksVictimRoomFor 26 = .ok (.ireturn, 1) := by decide +kernel
set_option maxRecDepth 20000 in
theorem ggX0_startRequest_X0_needsWayFor : GoodIn wsX0_startRequest wsX0_needsWayFor := goodIn_r _ [10, 11, 12, 13, 14, 15, 9, 16, 17, 122, 123, 124, 125, 126, 127, 128, 129, 130, 131, 132, 133, 134, 135] (by decide +kernel) (by decide +kernel)
set_option maxRecDepth 20000 in
theorem gX0_startRequest_X0_needsWayFor : GoodIn wsX0_startRequest (wsV RX0 67 RX0 yX0_needsWayFor wsX0_needsWayFor) := goodIn_app (goodIn_of _ (by decide +kernel)) ggX0_startRequest_X0_needsWayFor
set_option maxRecDepth 20000 in
theorem ggX0_startRequest_X0_moveOut : GoodIn wsX0_startRequest wsX0_moveOut := goodIn_r _ [21, 17, 22, 23, 24, 4, 5, 25, 26, 27, 28, 29, 30, 31, 32, 33, 34, 35, 36, 37, 38, 39, 40, 41, 42, 43, 44, 45, 46, 47, 48, 49, 50, 51, 52, 53, 54, 55, 56, 57, 58, 59, 60, 61, 62, 63, 64, 65, 66, 67, 68, 69, 70, 71, 72, 73, 74, 75, 76, 77, 78, 79, 80, 81, 82, 83, 84, 85, 86, 87, 88, 89, 90, 91, 92, 93, 94, 95, 96, 97, 98, 99, 100, 101, 102, 103, 104, 105, 106, 9, 107, 108, 109, 110, 111, 11, 1, 122, 123, 124, 125, 126, 127, 128, 129, 130, 131, 132, 133, 134, 135, 136, 137, 138, 139, 140, 141, 142, 143, 144, 145, 146] (by decide +kernel) (by decide +kernel)
set_option maxRecDepth 20000 in
theorem gX0_startRequest_X0_moveOut : GoodIn wsX0_startRequest (wsV RX0 70 RX0 yX0_moveOut wsX0_moveOut) := goodIn_app (goodIn_of _ (by decide +kernel)) ggX0_startRequest_X0_moveOut
set_option maxRecDepth 20000 in
theorem ggX0_startRequest_X4_open : GoodIn wsX0_startRequest wsX4_open := goodIn_r _ [116, 117, 118, 119, 120, 121, 147, 148, 149, 150, 151, 152, 153] (by decide +kernel) (by decide +kernel)
set_option maxRecDepth 20000 in
theorem gX0_startRequest_X4_open : GoodIn wsX0_startRequest (wsV RX0 74 RX4 yX4_open wsX4_open) := goodIn_app (goodIn_of _ (by decide +kernel)) ggX0_startRequest_X4_open
set_option maxRecDepth 20000 in
theorem ggX0_startRequest_X3_send : GoodIn wsX0_startRequest wsX3_send := goodIn_r _ [30, 31, 32, 33, 34, 35, 36, 37, 38, 39, 40, 41, 42, 43, 44, 45, 46, 47, 48, 49, 50, 51, 52, 53, 54, 55, 56, 57, 58, 59, 60, 61, 62, 63, 64, 65, 66, 67, 68, 69, 70, 71, 72, 73, 74, 75, 76, 77, 78, 79, 80, 81, 82, 83, 84, 85, 86, 87, 88, 89, 90, 91, 92, 93, 94, 95, 96, 97, 98, 99, 100, 101, 102, 103, 136, 137, 138, 139, 140, 141, 142, 143, 144, 145, 146] (by decide +kernel) (by decide +kernel)
set_option maxRecDepth 20000 in
theorem gX0_startRequest_X3_send : GoodIn wsX0_startRequest (wsV RX0 78 RX3 yX3_send wsX3_send) := goodIn_app (goodIn_of _ (by decide +kernel)) ggX0_startRequest_X3_send
theorem dX0_startRequest_0 : decode cX0_startRequest 0 = .ok (.aload_n 0, 1) := by decide +kernel
theorem dX0_startRequest_1 : decode cX0_startRequest 1 = .ok (.iload_n 1, 1) := by decide +kernel
theorem dX0_startRequest_2 : decode cX0_startRequest 2 = .ok (.invokevirtual 67, 3) := by decide +kernel
theorem dX0_startRequest_5 : decode cX0_startRequest 5 = .ok (.ifCond .eq 13, 3) := by decide +kernel
theorem dX0_startRequest_8 : decode cX0_startRequest 8 = .ok (.aload_n 0, 1) := by decide +kernel
theorem dX0_startRequest_9 : decode cX0_startRequest 9 = .ok (.aload_n 0, 1) := by decide +kernel
theorem dX0_startRequest_10 : decode cX0_startRequest 10 = .ok (.getfield 28, 3) := by decide +kernel
theorem dX0_startRequest_13 : decode cX0_startRequest 13 = .ok (.iconst 0, 1) := by decide +kernel
theorem dX0_startRequest_14 : decode cX0_startRequest 14 = .ok (.iaload, 1) := by decide +kernel
theorem dX0_startRequest_15 : decode cX0_startRequest 15 = .ok (.invokevirtual 70, 3) := by decide +kernel
theorem dX0_startRequest_18 : decode cX0_startRequest 18 = .ok (.aload_n 0, 1) := by decide +kernel
theorem dX0_startRequest_19 : decode cX0_startRequest 19 = .ok (.dup, 1) := by decide +kernel
theorem dX0_startRequest_20 : decode cX0_startRequest 20 = .ok (.getfield 50, 3) := by decide +kernel
theorem dX0_startRequest_23 : decode cX0_startRequest 23 = .ok (.iconst 1, 1) := by decide +kernel
theorem dX0_startRequest_24 : decode cX0_startRequest 24 = .ok (.iadd, 1) := by decide +kernel
theorem dX0_startRequest_25 : decode cX0_startRequest 25 = .ok (.putfield 50, 3) := by decide +kernel
theorem dX0_startRequest_28 : decode cX0_startRequest 28 = .ok (.aload_n 0, 1) := by decide +kernel
theorem dX0_startRequest_29 : decode cX0_startRequest 29 = .ok (.getfield 12, 3) := by decide +kernel
theorem dX0_startRequest_32 : decode cX0_startRequest 32 = .ok (.iload_n 1, 1) := by decide +kernel
theorem dX0_startRequest_33 : decode cX0_startRequest 33 = .ok (.iload_n 2, 1) := by decide +kernel
theorem dX0_startRequest_34 : decode cX0_startRequest 34 = .ok (.iload_n 3, 1) := by decide +kernel
theorem dX0_startRequest_35 : decode cX0_startRequest 35 = .ok (.invokevirtual 74, 3) := by decide +kernel
theorem dX0_startRequest_38 : decode cX0_startRequest 38 = .ok (.aload_n 0, 1) := by decide +kernel
theorem dX0_startRequest_39 : decode cX0_startRequest 39 = .ok (.getfield 56, 3) := by decide +kernel
theorem dX0_startRequest_42 : decode cX0_startRequest 42 = .ok (.iload_n 2, 1) := by decide +kernel
theorem dX0_startRequest_43 : decode cX0_startRequest 43 = .ok (.ifCond .eq 7, 3) := by decide +kernel
theorem dX0_startRequest_46 : decode cX0_startRequest 46 = .ok (.iconst 2, 1) := by decide +kernel
theorem dX0_startRequest_47 : decode cX0_startRequest 47 = .ok (.goto 4, 3) := by decide +kernel
theorem dX0_startRequest_50 : decode cX0_startRequest 50 = .ok (.iconst 1, 1) := by decide +kernel
theorem dX0_startRequest_51 : decode cX0_startRequest 51 = .ok (.iload_n 1, 1) := by decide +kernel
theorem dX0_startRequest_52 : decode cX0_startRequest 52 = .ok (.aload_n 0, 1) := by decide +kernel
theorem dX0_startRequest_53 : decode cX0_startRequest 53 = .ok (.getfield 53, 3) := by decide +kernel
theorem dX0_startRequest_56 : decode cX0_startRequest 56 = .ok (.iconst (-1), 1) := by decide +kernel
theorem dX0_startRequest_57 : decode cX0_startRequest 57 = .ok (.invokevirtual 78, 3) := by decide +kernel
theorem dX0_startRequest_60 : decode cX0_startRequest 60 = .ok (.pop, 1) := by decide +kernel
theorem dX0_startRequest_61 : decode cX0_startRequest 61 = .ok (.return_, 1) := by decide +kernel
set_option maxRecDepth 20000 in
theorem ggX0_moveOut_X3_send : GoodIn wsX0_moveOut wsX3_send := goodIn_r _ [12, 13, 14, 15, 16, 17, 18, 19, 20, 21, 22, 23, 24, 25, 26, 27, 28, 29, 30, 31, 32, 33, 34, 35, 36, 37, 38, 39, 40, 41, 42, 43, 44, 45, 46, 47, 48, 49, 50, 51, 52, 53, 54, 55, 56, 57, 58, 59, 60, 61, 62, 63, 64, 65, 66, 67, 68, 69, 70, 71, 72, 73, 74, 75, 76, 77, 78, 79, 80, 81, 82, 83, 84, 85, 111, 112, 113, 114, 115, 116, 117, 118, 119, 120, 121] (by decide +kernel) (by decide +kernel)
set_option maxRecDepth 20000 in
theorem gX0_moveOut_X3_send : GoodIn wsX0_moveOut (wsV RX0 78 RX3 yX3_send wsX3_send) := goodIn_app (goodIn_of _ (by decide +kernel)) ggX0_moveOut_X3_send
set_option maxRecDepth 20000 in
theorem ggX0_moveOut_X0_drop : GoodIn wsX0_moveOut wsX0_drop := goodIn_r _ [90, 1, 3, 91, 92, 93, 89, 94, 95, 96, 97, 98, 99, 100, 101, 102, 103, 104, 105, 106, 107, 108, 109, 110] (by decide +kernel) (by decide +kernel)
set_option maxRecDepth 20000 in
theorem gX0_moveOut_X0_drop : GoodIn wsX0_moveOut (wsV RX0 89 RX0 yX0_drop wsX0_drop) := goodIn_app (goodIn_of _ (by decide +kernel)) ggX0_moveOut_X0_drop
theorem dX0_moveOut_0 : decode cX0_moveOut 0 = .ok (.aload_n 0, 1) := by decide +kernel
theorem dX0_moveOut_1 : decode cX0_moveOut 1 = .ok (.getfield 18, 3) := by decide +kernel
theorem dX0_moveOut_4 : decode cX0_moveOut 4 = .ok (.iload_n 1, 1) := by decide +kernel
theorem dX0_moveOut_5 : decode cX0_moveOut 5 = .ok (.iaload, 1) := by decide +kernel
theorem dX0_moveOut_6 : decode cX0_moveOut 6 = .ok (.iconst 1, 1) := by decide +kernel
theorem dX0_moveOut_7 : decode cX0_moveOut 7 = .ok (.if_icmp .eq 48, 3) := by decide +kernel
theorem dX0_moveOut_10 : decode cX0_moveOut 10 = .ok (.aload_n 0, 1) := by decide +kernel
theorem dX0_moveOut_11 : decode cX0_moveOut 11 = .ok (.getfield 25, 3) := by decide +kernel
theorem dX0_moveOut_14 : decode cX0_moveOut 14 = .ok (.iload_n 1, 1) := by decide +kernel
theorem dX0_moveOut_15 : decode cX0_moveOut 15 = .ok (.aload_n 0, 1) := by decide +kernel
theorem dX0_moveOut_16 : decode cX0_moveOut 16 = .ok (.getfield 22, 3) := by decide +kernel
theorem dX0_moveOut_19 : decode cX0_moveOut 19 = .ok (.iload_n 1, 1) := by decide +kernel
theorem dX0_moveOut_20 : decode cX0_moveOut 20 = .ok (.iaload, 1) := by decide +kernel
theorem dX0_moveOut_21 : decode cX0_moveOut 21 = .ok (.iastore, 1) := by decide +kernel
theorem dX0_moveOut_22 : decode cX0_moveOut 22 = .ok (.aload_n 0, 1) := by decide +kernel
theorem dX0_moveOut_23 : decode cX0_moveOut 23 = .ok (.dup, 1) := by decide +kernel
theorem dX0_moveOut_24 : decode cX0_moveOut 24 = .ok (.getfield 35, 3) := by decide +kernel
theorem dX0_moveOut_27 : decode cX0_moveOut 27 = .ok (.iconst 1, 1) := by decide +kernel
theorem dX0_moveOut_28 : decode cX0_moveOut 28 = .ok (.iadd, 1) := by decide +kernel
theorem dX0_moveOut_29 : decode cX0_moveOut 29 = .ok (.putfield 35, 3) := by decide +kernel
theorem dX0_moveOut_32 : decode cX0_moveOut 32 = .ok (.aload_n 0, 1) := by decide +kernel
theorem dX0_moveOut_33 : decode cX0_moveOut 33 = .ok (.getfield 56, 3) := by decide +kernel
theorem dX0_moveOut_36 : decode cX0_moveOut 36 = .ok (.iconst 3, 1) := by decide +kernel
theorem dX0_moveOut_37 : decode cX0_moveOut 37 = .ok (.iload_n 1, 1) := by decide +kernel
theorem dX0_moveOut_38 : decode cX0_moveOut 38 = .ok (.aload_n 0, 1) := by decide +kernel
theorem dX0_moveOut_39 : decode cX0_moveOut 39 = .ok (.getfield 53, 3) := by decide +kernel
theorem dX0_moveOut_42 : decode cX0_moveOut 42 = .ok (.iconst (-1), 1) := by decide +kernel
theorem dX0_moveOut_43 : decode cX0_moveOut 43 = .ok (.invokevirtual 78, 3) := by decide +kernel
theorem dX0_moveOut_46 : decode cX0_moveOut 46 = .ok (.aload_n 0, 1) := by decide +kernel
theorem dX0_moveOut_47 : decode cX0_moveOut 47 = .ok (.getfield 22, 3) := by decide +kernel
theorem dX0_moveOut_50 : decode cX0_moveOut 50 = .ok (.iload_n 1, 1) := by decide +kernel
theorem dX0_moveOut_51 : decode cX0_moveOut 51 = .ok (.iaload, 1) := by decide +kernel
theorem dX0_moveOut_52 : decode cX0_moveOut 52 = .ok (.putfield 84, 3) := by decide +kernel
theorem dX0_moveOut_55 : decode cX0_moveOut 55 = .ok (.aload_n 0, 1) := by decide +kernel
theorem dX0_moveOut_56 : decode cX0_moveOut 56 = .ok (.iload_n 1, 1) := by decide +kernel
theorem dX0_moveOut_57 : decode cX0_moveOut 57 = .ok (.invokevirtual 89, 3) := by decide +kernel
theorem dX0_moveOut_60 : decode cX0_moveOut 60 = .ok (.return_, 1) := by decide +kernel
set_option maxRecDepth 20000 in
theorem ggX0_receive_X0_finishIfComplete : GoodIn wsX0_receive wsX0_finishIfComplete := goodIn_r _ [20, 2, 21, 22, 5, 23, 24, 11, 12, 25, 26, 27, 28, 29, 30, 31, 32, 33, 34, 35, 19, 36, 10, 37, 38, 39, 40, 41, 42, 43, 44, 45, 46, 47, 48, 49, 50, 51, 52, 53, 54, 55, 56, 57, 58, 59, 60, 61, 62, 63, 64, 65, 66, 67, 68, 69, 70, 71, 72, 73, 74, 75, 76, 77, 78, 79, 80, 81, 82, 83, 84, 85, 86, 87, 88, 89, 90, 91, 92, 93, 94, 95, 96, 97, 98, 99, 100, 101, 102, 103, 104, 105, 106, 107, 108, 109, 110, 111, 112, 113, 114, 115, 116, 117, 118, 119, 120, 121, 122, 123, 124, 125, 145, 146, 147, 148, 149, 150, 151, 152, 153, 154, 155, 156, 157, 158, 159, 160, 161, 162, 163, 164, 165, 138, 139, 140, 141, 142, 143, 144, 166, 167, 168, 169] (by decide +kernel) (by decide +kernel)
set_option maxRecDepth 20000 in
theorem gX0_receive_X0_finishIfComplete : GoodIn wsX0_receive (wsV RX0 109 RX0 yX0_finishIfComplete wsX0_finishIfComplete) := goodIn_app (goodIn_of _ (by decide +kernel)) ggX0_receive_X0_finishIfComplete
set_option maxRecDepth 20000 in
theorem ggX0_receive_X0_passOn : GoodIn wsX0_receive wsX0_passOn := goodIn_r _ [129, 8, 11, 12, 13, 37, 14, 4, 6, 1, 10, 48, 49, 50, 51, 52, 53, 54, 55, 56, 57, 58, 59, 60, 61, 62, 63, 64, 65, 66, 67, 68, 69, 70, 71, 72, 73, 74, 75, 76, 77, 78, 79, 80, 81, 82, 83, 84, 85, 86, 87, 88, 89, 90, 91, 92, 93, 94, 95, 96, 97, 98, 99, 100, 101, 102, 103, 104, 105, 106, 107, 108, 109, 110, 111, 112, 113, 114, 115, 116, 117, 118, 119, 120, 121, 122, 123, 124, 125, 130, 131, 132, 19, 133, 134, 135, 136, 137, 44, 45, 46, 47, 42, 43, 138, 139, 140, 141, 142, 143, 144, 145, 146, 147, 148, 149, 150, 151, 152, 153, 154, 155, 156, 157, 158, 166, 167, 168, 169] (by decide +kernel) (by decide +kernel)
set_option maxRecDepth 20000 in
theorem gX0_receive_X0_passOn : GoodIn wsX0_receive (wsV RX0 115 RX0 yX0_passOn wsX0_passOn) := goodIn_app (goodIn_of _ (by decide +kernel)) ggX0_receive_X0_passOn
set_option maxRecDepth 20000 in
theorem ggX0_receive_X0_drop : GoodIn wsX0_receive wsX0_drop := goodIn_r _ [137, 10, 37, 44, 45, 46, 19, 47, 42, 43, 145, 146, 147, 148, 149, 150, 151, 152, 153, 154, 155, 156, 157, 158] (by decide +kernel) (by decide +kernel)
set_option maxRecDepth 20000 in
theorem gX0_receive_X0_drop : GoodIn wsX0_receive (wsV RX0 89 RX0 yX0_drop wsX0_drop) := goodIn_app (goodIn_of _ (by decide +kernel)) ggX0_receive_X0_drop
set_option maxRecDepth 20000 in
theorem ggX0_receive_X3_send : GoodIn wsX0_receive wsX3_send := goodIn_r _ [52, 53, 54, 55, 56, 57, 58, 59, 60, 61, 62, 63, 64, 65, 66, 67, 68, 69, 70, 71, 72, 73, 74, 75, 76, 77, 78, 79, 80, 81, 82, 83, 84, 85, 86, 87, 88, 89, 90, 91, 92, 93, 94, 95, 96, 97, 98, 99, 100, 101, 102, 103, 104, 105, 106, 107, 108, 109, 110, 111, 112, 113, 114, 115, 116, 117, 118, 119, 120, 121, 122, 123, 124, 125, 138, 139, 140, 141, 142, 143, 144, 166, 167, 168, 169] (by decide +kernel) (by decide +kernel)
set_option maxRecDepth 20000 in
theorem gX0_receive_X3_send : GoodIn wsX0_receive (wsV RX0 78 RX3 yX3_send wsX3_send) := goodIn_app (goodIn_of _ (by decide +kernel)) ggX0_receive_X3_send
theorem dX0_receive_0 : decode cX0_receive 0 = .ok (.aload_n 1, 1) := by decide +kernel
theorem dX0_receive_1 : decode cX0_receive 1 = .ok (.getfield 92, 3) := by decide +kernel
theorem dX0_receive_4 : decode cX0_receive 4 = .ok (.tableswitch 186 5 11 #[44, 44, 85, 109, 109, 117, 163], 44) := by decide +kernel
theorem dX0_receive_48 : decode cX0_receive 48 = .ok (.aload_n 0, 1) := by decide +kernel
theorem dX0_receive_49 : decode cX0_receive 49 = .ok (.getfield 12, 3) := by decide +kernel
theorem dX0_receive_52 : decode cX0_receive 52 = .ok (.iconst 1, 1) := by decide +kernel
theorem dX0_receive_53 : decode cX0_receive 53 = .ok (.putfield 95, 3) := by decide +kernel
theorem dX0_receive_56 : decode cX0_receive 56 = .ok (.aload_n 0, 1) := by decide +kernel
theorem dX0_receive_57 : decode cX0_receive 57 = .ok (.getfield 12, 3) := by decide +kernel
theorem dX0_receive_60 : decode cX0_receive 60 = .ok (.aload_n 1, 1) := by decide +kernel
theorem dX0_receive_61 : decode cX0_receive 61 = .ok (.getfield 84, 3) := by decide +kernel
theorem dX0_receive_64 : decode cX0_receive 64 = .ok (.putfield 99, 3) := by decide +kernel
theorem dX0_receive_67 : decode cX0_receive 67 = .ok (.aload_n 0, 1) := by decide +kernel
theorem dX0_receive_68 : decode cX0_receive 68 = .ok (.getfield 12, 3) := by decide +kernel
theorem dX0_receive_71 : decode cX0_receive 71 = .ok (.aload_n 1, 1) := by decide +kernel
theorem dX0_receive_72 : decode cX0_receive 72 = .ok (.getfield 102, 3) := by decide +kernel
theorem dX0_receive_75 : decode cX0_receive 75 = .ok (.putfield 105, 3) := by decide +kernel
theorem dX0_receive_78 : decode cX0_receive 78 = .ok (.aload_n 0, 1) := by decide +kernel
theorem dX0_receive_79 : decode cX0_receive 79 = .ok (.aload_n 1, 1) := by decide +kernel
theorem dX0_receive_80 : decode cX0_receive 80 = .ok (.getfield 108, 3) := by decide +kernel
theorem dX0_receive_83 : decode cX0_receive 83 = .ok (.invokevirtual 109, 3) := by decide +kernel
theorem dX0_receive_86 : decode cX0_receive 86 = .ok (.goto 104, 3) := by decide +kernel
theorem dX0_receive_89 : decode cX0_receive 89 = .ok (.aload_n 0, 1) := by decide +kernel
theorem dX0_receive_90 : decode cX0_receive 90 = .ok (.getfield 12, 3) := by decide +kernel
theorem dX0_receive_93 : decode cX0_receive 93 = .ok (.dup, 1) := by decide +kernel
theorem dX0_receive_94 : decode cX0_receive 94 = .ok (.getfield 112, 3) := by decide +kernel
theorem dX0_receive_97 : decode cX0_receive 97 = .ok (.iconst 1, 1) := by decide +kernel
theorem dX0_receive_98 : decode cX0_receive 98 = .ok (.iadd, 1) := by decide +kernel
theorem dX0_receive_99 : decode cX0_receive 99 = .ok (.putfield 112, 3) := by decide +kernel
theorem dX0_receive_102 : decode cX0_receive 102 = .ok (.aload_n 0, 1) := by decide +kernel
theorem dX0_receive_103 : decode cX0_receive 103 = .ok (.aload_n 1, 1) := by decide +kernel
theorem dX0_receive_104 : decode cX0_receive 104 = .ok (.getfield 108, 3) := by decide +kernel
theorem dX0_receive_107 : decode cX0_receive 107 = .ok (.invokevirtual 109, 3) := by decide +kernel
theorem dX0_receive_110 : decode cX0_receive 110 = .ok (.goto 80, 3) := by decide +kernel
theorem dX0_receive_113 : decode cX0_receive 113 = .ok (.aload_n 0, 1) := by decide +kernel
theorem dX0_receive_114 : decode cX0_receive 114 = .ok (.aload_n 1, 1) := by decide +kernel
theorem dX0_receive_115 : decode cX0_receive 115 = .ok (.invokevirtual 115, 3) := by decide +kernel
theorem dX0_receive_118 : decode cX0_receive 118 = .ok (.goto 72, 3) := by decide +kernel
theorem dX0_receive_121 : decode cX0_receive 121 = .ok (.aload_n 0, 1) := by decide +kernel
theorem dX0_receive_122 : decode cX0_receive 122 = .ok (.getfield 18, 3) := by decide +kernel
theorem dX0_receive_125 : decode cX0_receive 125 = .ok (.aload_n 1, 1) := by decide +kernel
theorem dX0_receive_126 : decode cX0_receive 126 = .ok (.getfield 108, 3) := by decide +kernel
theorem dX0_receive_129 : decode cX0_receive 129 = .ok (.iaload, 1) := by decide +kernel
theorem dX0_receive_130 : decode cX0_receive 130 = .ok (.iconst 1, 1) := by decide +kernel
theorem dX0_receive_131 : decode cX0_receive 131 = .ok (.if_icmp .ne 11, 3) := by decide +kernel
theorem dX0_receive_134 : decode cX0_receive 134 = .ok (.aload_n 0, 1) := by decide +kernel
theorem dX0_receive_135 : decode cX0_receive 135 = .ok (.aload_n 1, 1) := by decide +kernel
theorem dX0_receive_136 : decode cX0_receive 136 = .ok (.getfield 108, 3) := by decide +kernel
theorem dX0_receive_139 : decode cX0_receive 139 = .ok (.invokevirtual 89, 3) := by decide +kernel
theorem dX0_receive_142 : decode cX0_receive 142 = .ok (.aload_n 0, 1) := by decide +kernel
theorem dX0_receive_143 : decode cX0_receive 143 = .ok (.getfield 56, 3) := by decide +kernel
theorem dX0_receive_146 : decode cX0_receive 146 = .ok (.bipush 7, 2) := by decide +kernel
theorem dX0_receive_148 : decode cX0_receive 148 = .ok (.aload_n 1, 1) := by decide +kernel
theorem dX0_receive_149 : decode cX0_receive 149 = .ok (.getfield 108, 3) := by decide +kernel
theorem dX0_receive_152 : decode cX0_receive 152 = .ok (.aload_n 0, 1) := by decide +kernel
theorem dX0_receive_153 : decode cX0_receive 153 = .ok (.getfield 53, 3) := by decide +kernel
theorem dX0_receive_156 : decode cX0_receive 156 = .ok (.aload_n 1, 1) := by decide +kernel
theorem dX0_receive_157 : decode cX0_receive 157 = .ok (.getfield 119, 3) := by decide +kernel
theorem dX0_receive_160 : decode cX0_receive 160 = .ok (.invokevirtual 78, 3) := by decide +kernel
theorem dX0_receive_163 : decode cX0_receive 163 = .ok (.pop, 1) := by decide +kernel
theorem dX0_receive_164 : decode cX0_receive 164 = .ok (.goto 26, 3) := by decide +kernel
theorem dX0_receive_167 : decode cX0_receive 167 = .ok (.aload_n 0, 1) := by decide +kernel
theorem dX0_receive_168 : decode cX0_receive 168 = .ok (.getfield 25, 3) := by decide +kernel
theorem dX0_receive_171 : decode cX0_receive 171 = .ok (.aload_n 1, 1) := by decide +kernel
theorem dX0_receive_172 : decode cX0_receive 172 = .ok (.getfield 108, 3) := by decide +kernel
theorem dX0_receive_175 : decode cX0_receive 175 = .ok (.iconst (-1), 1) := by decide +kernel
theorem dX0_receive_176 : decode cX0_receive 176 = .ok (.iastore, 1) := by decide +kernel
theorem dX0_receive_177 : decode cX0_receive 177 = .ok (.aload_n 0, 1) := by decide +kernel
theorem dX0_receive_178 : decode cX0_receive 178 = .ok (.dup, 1) := by decide +kernel
theorem dX0_receive_179 : decode cX0_receive 179 = .ok (.getfield 35, 3) := by decide +kernel
theorem dX0_receive_182 : decode cX0_receive 182 = .ok (.iconst 1, 1) := by decide +kernel
theorem dX0_receive_183 : decode cX0_receive 183 = .ok (.isub, 1) := by decide +kernel
theorem dX0_receive_184 : decode cX0_receive 184 = .ok (.putfield 35, 3) := by decide +kernel
theorem dX0_receive_187 : decode cX0_receive 187 = .ok (.goto 3, 3) := by decide +kernel
theorem dX0_receive_190 : decode cX0_receive 190 = .ok (.return_, 1) := by decide +kernel
set_option maxRecDepth 20000 in
theorem ggX0_finishIfComplete_X4_isComplete : GoodIn wsX0_finishIfComplete wsX4_isComplete := goodIn_r _ [13, 14, 15, 16, 126, 127, 128, 129, 130, 131, 132] (by decide +kernel) (by decide +kernel)
set_option maxRecDepth 20000 in
theorem gX0_finishIfComplete_X4_isComplete : GoodIn wsX0_finishIfComplete (wsV RX0 122 RX4 yX4_isComplete wsX4_isComplete) := goodIn_app (goodIn_of _ (by decide +kernel)) ggX0_finishIfComplete_X4_isComplete
set_option maxRecDepth 20000 in
theorem ggX0_finishIfComplete_X0_store : GoodIn wsX0_finishIfComplete wsX0_store := goodIn_r _ [21, 22, 23, 24, 25, 26, 20, 27, 28, 29, 30, 31, 32, 33, 112, 113, 114, 115, 116, 117, 118, 119, 120, 121, 122, 123, 124, 125] (by decide +kernel) (by decide +kernel)
set_option maxRecDepth 20000 in
theorem gX0_finishIfComplete_X0_store : GoodIn wsX0_finishIfComplete (wsV RX0 132 RX0 yX0_store wsX0_store) := goodIn_app (goodIn_of _ (by decide +kernel)) ggX0_finishIfComplete_X0_store
set_option maxRecDepth 20000 in
theorem ggX0_finishIfComplete_X3_send : GoodIn wsX0_finishIfComplete wsX3_send := goodIn_r _ [38, 39, 40, 41, 42, 43, 44, 45, 46, 47, 48, 49, 50, 51, 52, 53, 54, 55, 56, 57, 58, 59, 60, 61, 62, 63, 64, 65, 66, 67, 68, 69, 70, 71, 72, 73, 74, 75, 76, 77, 78, 79, 80, 81, 82, 83, 84, 85, 86, 87, 88, 89, 90, 91, 92, 93, 94, 95, 96, 97, 98, 99, 100, 101, 102, 103, 104, 105, 106, 107, 108, 109, 110, 111, 133, 134, 135, 136, 137, 138, 139, 140, 141, 142, 143] (by decide +kernel) (by decide +kernel)
set_option maxRecDepth 20000 in
theorem gX0_finishIfComplete_X3_send : GoodIn wsX0_finishIfComplete (wsV RX0 78 RX3 yX3_send wsX3_send) := goodIn_app (goodIn_of _ (by decide +kernel)) ggX0_finishIfComplete_X3_send
theorem dX0_finishIfComplete_0 : decode cX0_finishIfComplete 0 = .ok (.aload_n 0, 1) := by decide +kernel
theorem dX0_finishIfComplete_1 : decode cX0_finishIfComplete 1 = .ok (.getfield 12, 3) := by decide +kernel
theorem dX0_finishIfComplete_4 : decode cX0_finishIfComplete 4 = .ok (.invokevirtual 122, 3) := by decide +kernel
theorem dX0_finishIfComplete_7 : decode cX0_finishIfComplete 7 = .ok (.ifCond .ne 4, 3) := by decide +kernel
theorem dX0_finishIfComplete_10 : decode cX0_finishIfComplete 10 = .ok (.return_, 1) := by decide +kernel
theorem dX0_finishIfComplete_11 : decode cX0_finishIfComplete 11 = .ok (.aload_n 0, 1) := by decide +kernel
theorem dX0_finishIfComplete_12 : decode cX0_finishIfComplete 12 = .ok (.getfield 12, 3) := by decide +kernel
theorem dX0_finishIfComplete_15 : decode cX0_finishIfComplete 15 = .ok (.getfield 126, 3) := by decide +kernel
theorem dX0_finishIfComplete_18 : decode cX0_finishIfComplete 18 = .ok (.ifCond .eq 19, 3) := by decide +kernel
theorem dX0_finishIfComplete_21 : decode cX0_finishIfComplete 21 = .ok (.aload_n 0, 1) := by decide +kernel
theorem dX0_finishIfComplete_22 : decode cX0_finishIfComplete 22 = .ok (.iload_n 1, 1) := by decide +kernel
theorem dX0_finishIfComplete_23 : decode cX0_finishIfComplete 23 = .ok (.iconst 3, 1) := by decide +kernel
theorem dX0_finishIfComplete_24 : decode cX0_finishIfComplete 24 = .ok (.aload_n 0, 1) := by decide +kernel
theorem dX0_finishIfComplete_25 : decode cX0_finishIfComplete 25 = .ok (.getfield 12, 3) := by decide +kernel
theorem dX0_finishIfComplete_28 : decode cX0_finishIfComplete 28 = .ok (.getfield 129, 3) := by decide +kernel
theorem dX0_finishIfComplete_31 : decode cX0_finishIfComplete 31 = .ok (.invokevirtual 132, 3) := by decide +kernel
theorem dX0_finishIfComplete_34 : decode cX0_finishIfComplete 34 = .ok (.goto 27, 3) := by decide +kernel
theorem dX0_finishIfComplete_37 : decode cX0_finishIfComplete 37 = .ok (.aload_n 0, 1) := by decide +kernel
theorem dX0_finishIfComplete_38 : decode cX0_finishIfComplete 38 = .ok (.iload_n 1, 1) := by decide +kernel
theorem dX0_finishIfComplete_39 : decode cX0_finishIfComplete 39 = .ok (.iconst 1, 1) := by decide +kernel
theorem dX0_finishIfComplete_40 : decode cX0_finishIfComplete 40 = .ok (.aload_n 0, 1) := by decide +kernel
theorem dX0_finishIfComplete_41 : decode cX0_finishIfComplete 41 = .ok (.getfield 12, 3) := by decide +kernel
theorem dX0_finishIfComplete_44 : decode cX0_finishIfComplete 44 = .ok (.getfield 99, 3) := by decide +kernel
theorem dX0_finishIfComplete_47 : decode cX0_finishIfComplete 47 = .ok (.invokevirtual 132, 3) := by decide +kernel
theorem dX0_finishIfComplete_50 : decode cX0_finishIfComplete 50 = .ok (.aload_n 0, 1) := by decide +kernel
theorem dX0_finishIfComplete_51 : decode cX0_finishIfComplete 51 = .ok (.aload_n 0, 1) := by decide +kernel
theorem dX0_finishIfComplete_52 : decode cX0_finishIfComplete 52 = .ok (.getfield 12, 3) := by decide +kernel
theorem dX0_finishIfComplete_55 : decode cX0_finishIfComplete 55 = .ok (.getfield 99, 3) := by decide +kernel
theorem dX0_finishIfComplete_58 : decode cX0_finishIfComplete 58 = .ok (.putfield 44, 3) := by decide +kernel
theorem dX0_finishIfComplete_61 : decode cX0_finishIfComplete 61 = .ok (.aload_n 0, 1) := by decide +kernel
theorem dX0_finishIfComplete_62 : decode cX0_finishIfComplete 62 = .ok (.getfield 12, 3) := by decide +kernel
theorem dX0_finishIfComplete_65 : decode cX0_finishIfComplete 65 = .ok (.iconst (-1), 1) := by decide +kernel
theorem dX0_finishIfComplete_66 : decode cX0_finishIfComplete 66 = .ok (.putfield 60, 3) := by decide +kernel
theorem dX0_finishIfComplete_69 : decode cX0_finishIfComplete 69 = .ok (.aload_n 0, 1) := by decide +kernel
theorem dX0_finishIfComplete_70 : decode cX0_finishIfComplete 70 = .ok (.getfield 56, 3) := by decide +kernel
theorem dX0_finishIfComplete_73 : decode cX0_finishIfComplete 73 = .ok (.iconst 4, 1) := by decide +kernel
theorem dX0_finishIfComplete_74 : decode cX0_finishIfComplete 74 = .ok (.iload_n 1, 1) := by decide +kernel
theorem dX0_finishIfComplete_75 : decode cX0_finishIfComplete 75 = .ok (.aload_n 0, 1) := by decide +kernel
theorem dX0_finishIfComplete_76 : decode cX0_finishIfComplete 76 = .ok (.getfield 53, 3) := by decide +kernel
theorem dX0_finishIfComplete_79 : decode cX0_finishIfComplete 79 = .ok (.iconst (-1), 1) := by decide +kernel
theorem dX0_finishIfComplete_80 : decode cX0_finishIfComplete 80 = .ok (.invokevirtual 78, 3) := by decide +kernel
theorem dX0_finishIfComplete_83 : decode cX0_finishIfComplete 83 = .ok (.pop, 1) := by decide +kernel
theorem dX0_finishIfComplete_84 : decode cX0_finishIfComplete 84 = .ok (.return_, 1) := by decide +kernel
set_option maxRecDepth 20000 in
theorem ggX0_passOn_X3_send : GoodIn wsX0_passOn wsX3_send := goodIn_r _ [15, 16, 17, 18, 19, 20, 21, 22, 23, 24, 25, 26, 27, 28, 29, 30, 31, 32, 33, 34, 35, 36, 37, 38, 39, 40, 41, 42, 43, 44, 45, 46, 47, 48, 49, 50, 51, 52, 53, 54, 55, 56, 57, 58, 59, 60, 61, 62, 63, 64, 65, 66, 67, 68, 69, 70, 71, 72, 73, 74, 75, 76, 77, 78, 79, 80, 81, 82, 83, 84, 85, 86, 87, 88, 104, 105, 106, 107, 108, 109, 110, 125, 126, 127, 128] (by decide +kernel) (by decide +kernel)
set_option maxRecDepth 20000 in
theorem gX0_passOn_X3_send : GoodIn wsX0_passOn (wsV RX0 78 RX3 yX3_send wsX3_send) := goodIn_app (goodIn_of _ (by decide +kernel)) ggX0_passOn_X3_send
set_option maxRecDepth 20000 in
theorem ggX0_passOn_X0_holds : GoodIn wsX0_passOn wsX0_holds := goodIn_r _ [93, 10, 111, 112, 113, 114, 115, 116, 117, 118, 119, 120, 121, 122, 123, 124] (by decide +kernel) (by decide +kernel)
set_option maxRecDepth 20000 in
theorem gX0_passOn_X0_holds : GoodIn wsX0_passOn (wsV RX0 63 RX0 yX0_holds wsX0_holds) := goodIn_app (goodIn_of _ (by decide +kernel)) ggX0_passOn_X0_holds
set_option maxRecDepth 20000 in
theorem ggX0_passOn_X0_drop : GoodIn wsX0_passOn wsX0_drop := goodIn_r _ [97, 10, 5, 98, 99, 100, 92, 101, 102, 103, 111, 112, 113, 114, 115, 116, 117, 118, 119, 120, 121, 122, 123, 124] (by decide +kernel) (by decide +kernel)
set_option maxRecDepth 20000 in
theorem gX0_passOn_X0_drop : GoodIn wsX0_passOn (wsV RX0 89 RX0 yX0_drop wsX0_drop) := goodIn_app (goodIn_of _ (by decide +kernel)) ggX0_passOn_X0_drop
theorem dX0_passOn_0 : decode cX0_passOn 0 = .ok (.aload_n 1, 1) := by decide +kernel
theorem dX0_passOn_1 : decode cX0_passOn 1 = .ok (.getfield 108, 3) := by decide +kernel
theorem dX0_passOn_4 : decode cX0_passOn 4 = .ok (.istore_n 2, 1) := by decide +kernel
theorem dX0_passOn_5 : decode cX0_passOn 5 = .ok (.aload_n 0, 1) := by decide +kernel
theorem dX0_passOn_6 : decode cX0_passOn 6 = .ok (.getfield 56, 3) := by decide +kernel
theorem dX0_passOn_9 : decode cX0_passOn 9 = .ok (.iconst 5, 1) := by decide +kernel
theorem dX0_passOn_10 : decode cX0_passOn 10 = .ok (.iload_n 2, 1) := by decide +kernel
theorem dX0_passOn_11 : decode cX0_passOn 11 = .ok (.aload_n 0, 1) := by decide +kernel
theorem dX0_passOn_12 : decode cX0_passOn 12 = .ok (.getfield 53, 3) := by decide +kernel
theorem dX0_passOn_15 : decode cX0_passOn 15 = .ok (.aload_n 1, 1) := by decide +kernel
theorem dX0_passOn_16 : decode cX0_passOn 16 = .ok (.getfield 119, 3) := by decide +kernel
theorem dX0_passOn_19 : decode cX0_passOn 19 = .ok (.invokevirtual 78, 3) := by decide +kernel
theorem dX0_passOn_22 : decode cX0_passOn 22 = .ok (.astore_n 3, 1) := by decide +kernel
theorem dX0_passOn_23 : decode cX0_passOn 23 = .ok (.aload_n 3, 1) := by decide +kernel
theorem dX0_passOn_24 : decode cX0_passOn 24 = .ok (.aload_n 0, 1) := by decide +kernel
theorem dX0_passOn_25 : decode cX0_passOn 25 = .ok (.iload_n 2, 1) := by decide +kernel
theorem dX0_passOn_26 : decode cX0_passOn 26 = .ok (.invokevirtual 63, 3) := by decide +kernel
theorem dX0_passOn_29 : decode cX0_passOn 29 = .ok (.ifCond .eq 12, 3) := by decide +kernel
theorem dX0_passOn_32 : decode cX0_passOn 32 = .ok (.aload_n 0, 1) := by decide +kernel
theorem dX0_passOn_33 : decode cX0_passOn 33 = .ok (.getfield 22, 3) := by decide +kernel
theorem dX0_passOn_36 : decode cX0_passOn 36 = .ok (.iload_n 2, 1) := by decide +kernel
theorem dX0_passOn_37 : decode cX0_passOn 37 = .ok (.iaload, 1) := by decide +kernel
theorem dX0_passOn_38 : decode cX0_passOn 38 = .ok (.goto 9, 3) := by decide +kernel
theorem dX0_passOn_41 : decode cX0_passOn 41 = .ok (.aload_n 0, 1) := by decide +kernel
theorem dX0_passOn_42 : decode cX0_passOn 42 = .ok (.getfield 25, 3) := by decide +kernel
theorem dX0_passOn_45 : decode cX0_passOn 45 = .ok (.iload_n 2, 1) := by decide +kernel
theorem dX0_passOn_46 : decode cX0_passOn 46 = .ok (.iaload, 1) := by decide +kernel
theorem dX0_passOn_47 : decode cX0_passOn 47 = .ok (.putfield 84, 3) := by decide +kernel
theorem dX0_passOn_50 : decode cX0_passOn 50 = .ok (.aload_n 3, 1) := by decide +kernel
theorem dX0_passOn_51 : decode cX0_passOn 51 = .ok (.aload_n 1, 1) := by decide +kernel
theorem dX0_passOn_52 : decode cX0_passOn 52 = .ok (.getfield 102, 3) := by decide +kernel
theorem dX0_passOn_55 : decode cX0_passOn 55 = .ok (.putfield 102, 3) := by decide +kernel
theorem dX0_passOn_58 : decode cX0_passOn 58 = .ok (.aload_n 1, 1) := by decide +kernel
theorem dX0_passOn_59 : decode cX0_passOn 59 = .ok (.getfield 92, 3) := by decide +kernel
theorem dX0_passOn_62 : decode cX0_passOn 62 = .ok (.bipush 9, 2) := by decide +kernel
theorem dX0_passOn_64 : decode cX0_passOn 64 = .ok (.if_icmp .ne 11, 3) := by decide +kernel
theorem dX0_passOn_67 : decode cX0_passOn 67 = .ok (.aload_n 0, 1) := by decide +kernel
theorem dX0_passOn_68 : decode cX0_passOn 68 = .ok (.iload_n 2, 1) := by decide +kernel
theorem dX0_passOn_69 : decode cX0_passOn 69 = .ok (.invokevirtual 89, 3) := by decide +kernel
theorem dX0_passOn_72 : decode cX0_passOn 72 = .ok (.goto 20, 3) := by decide +kernel
theorem dX0_passOn_75 : decode cX0_passOn 75 = .ok (.aload_n 0, 1) := by decide +kernel
theorem dX0_passOn_76 : decode cX0_passOn 76 = .ok (.getfield 18, 3) := by decide +kernel
theorem dX0_passOn_79 : decode cX0_passOn 79 = .ok (.iload_n 2, 1) := by decide +kernel
theorem dX0_passOn_80 : decode cX0_passOn 80 = .ok (.iaload, 1) := by decide +kernel
theorem dX0_passOn_81 : decode cX0_passOn 81 = .ok (.iconst 3, 1) := by decide +kernel
theorem dX0_passOn_82 : decode cX0_passOn 82 = .ok (.if_icmp .ne 10, 3) := by decide +kernel
theorem dX0_passOn_85 : decode cX0_passOn 85 = .ok (.aload_n 0, 1) := by decide +kernel
theorem dX0_passOn_86 : decode cX0_passOn 86 = .ok (.getfield 18, 3) := by decide +kernel
theorem dX0_passOn_89 : decode cX0_passOn 89 = .ok (.iload_n 2, 1) := by decide +kernel
theorem dX0_passOn_90 : decode cX0_passOn 90 = .ok (.iconst 2, 1) := by decide +kernel
theorem dX0_passOn_91 : decode cX0_passOn 91 = .ok (.iastore, 1) := by decide +kernel
theorem dX0_passOn_92 : decode cX0_passOn 92 = .ok (.return_, 1) := by decide +kernel
set_option maxRecDepth 20000 in
theorem ggX0_store_X0_markUsed : GoodIn wsX0_store wsX0_markUsed := goodIn_r _ [7, 8, 9, 10, 11, 12, 6, 13, 14, 15, 16, 17, 18, 19, 20, 21, 22, 23, 24, 25, 26, 27] (by decide +kernel) (by decide +kernel)
set_option maxRecDepth 20000 in
theorem gX0_store_X0_markUsed : GoodIn wsX0_store (wsV RX0 136 RX0 yX0_markUsed wsX0_markUsed) := goodIn_app (goodIn_of _ (by decide +kernel)) ggX0_store_X0_markUsed
theorem dX0_store_0 : decode cX0_store 0 = .ok (.aload_n 0, 1) := by decide +kernel
theorem dX0_store_1 : decode cX0_store 1 = .ok (.getfield 18, 3) := by decide +kernel
theorem dX0_store_4 : decode cX0_store 4 = .ok (.iload_n 1, 1) := by decide +kernel
theorem dX0_store_5 : decode cX0_store 5 = .ok (.iload_n 2, 1) := by decide +kernel
theorem dX0_store_6 : decode cX0_store 6 = .ok (.iastore, 1) := by decide +kernel
theorem dX0_store_7 : decode cX0_store 7 = .ok (.aload_n 0, 1) := by decide +kernel
theorem dX0_store_8 : decode cX0_store 8 = .ok (.getfield 22, 3) := by decide +kernel
theorem dX0_store_11 : decode cX0_store 11 = .ok (.iload_n 1, 1) := by decide +kernel
theorem dX0_store_12 : decode cX0_store 12 = .ok (.iload_n 3, 1) := by decide +kernel
theorem dX0_store_13 : decode cX0_store 13 = .ok (.iastore, 1) := by decide +kernel
theorem dX0_store_14 : decode cX0_store 14 = .ok (.aload_n 0, 1) := by decide +kernel
theorem dX0_store_15 : decode cX0_store 15 = .ok (.iload_n 1, 1) := by decide +kernel
theorem dX0_store_16 : decode cX0_store 16 = .ok (.invokevirtual 136, 3) := by decide +kernel
theorem dX0_store_19 : decode cX0_store 19 = .ok (.return_, 1) := by decide +kernel
set_option maxRecDepth 20000 in
theorem ggX0_drop_X0_leaveUseOrder : GoodIn wsX0_drop wsX0_leaveUseOrder := goodIn_r _ [7, 8, 9, 10, 11, 12, 13, 14, 15, 16, 17, 18, 19, 20, 21, 22, 23] (by decide +kernel) (by decide +kernel)
set_option maxRecDepth 20000 in
theorem gX0_drop_X0_leaveUseOrder : GoodIn wsX0_drop (wsV RX0 139 RX0 yX0_leaveUseOrder wsX0_leaveUseOrder) := goodIn_app (goodIn_of _ (by decide +kernel)) ggX0_drop_X0_leaveUseOrder
theorem dX0_drop_0 : decode cX0_drop 0 = .ok (.aload_n 0, 1) := by decide +kernel
theorem dX0_drop_1 : decode cX0_drop 1 = .ok (.getfield 18, 3) := by decide +kernel
theorem dX0_drop_4 : decode cX0_drop 4 = .ok (.iload_n 1, 1) := by decide +kernel
theorem dX0_drop_5 : decode cX0_drop 5 = .ok (.iconst 0, 1) := by decide +kernel
theorem dX0_drop_6 : decode cX0_drop 6 = .ok (.iastore, 1) := by decide +kernel
theorem dX0_drop_7 : decode cX0_drop 7 = .ok (.aload_n 0, 1) := by decide +kernel
theorem dX0_drop_8 : decode cX0_drop 8 = .ok (.getfield 22, 3) := by decide +kernel
theorem dX0_drop_11 : decode cX0_drop 11 = .ok (.iload_n 1, 1) := by decide +kernel
theorem dX0_drop_12 : decode cX0_drop 12 = .ok (.iconst (-1), 1) := by decide +kernel
theorem dX0_drop_13 : decode cX0_drop 13 = .ok (.iastore, 1) := by decide +kernel
theorem dX0_drop_14 : decode cX0_drop 14 = .ok (.aload_n 0, 1) := by decide +kernel
theorem dX0_drop_15 : decode cX0_drop 15 = .ok (.iload_n 1, 1) := by decide +kernel
theorem dX0_drop_16 : decode cX0_drop 16 = .ok (.invokevirtual 139, 3) := by decide +kernel
theorem dX0_drop_19 : decode cX0_drop 19 = .ok (.return_, 1) := by decide +kernel
set_option maxRecDepth 20000 in
theorem ggX0_markUsed_X0_leaveUseOrder : GoodIn wsX0_markUsed wsX0_leaveUseOrder := goodIn_r _ [7, 1, 2, 8, 9, 10, 11, 12, 13, 14, 15, 16, 17, 18, 19, 20, 21] (by decide +kernel) (by decide +kernel)
set_option maxRecDepth 20000 in
theorem gX0_markUsed_X0_leaveUseOrder : GoodIn wsX0_markUsed (wsV RX0 139 RX0 yX0_leaveUseOrder wsX0_leaveUseOrder) := goodIn_app (goodIn_of _ (by decide +kernel)) ggX0_markUsed_X0_leaveUseOrder
theorem dX0_markUsed_0 : decode cX0_markUsed 0 = .ok (.aload_n 0, 1) := by decide +kernel
theorem dX0_markUsed_1 : decode cX0_markUsed 1 = .ok (.iload_n 1, 1) := by decide +kernel
theorem dX0_markUsed_2 : decode cX0_markUsed 2 = .ok (.invokevirtual 139, 3) := by decide +kernel
theorem dX0_markUsed_5 : decode cX0_markUsed 5 = .ok (.aload_n 0, 1) := by decide +kernel
theorem dX0_markUsed_6 : decode cX0_markUsed 6 = .ok (.getfield 31, 3) := by decide +kernel
theorem dX0_markUsed_9 : decode cX0_markUsed 9 = .ok (.iconst 4, 1) := by decide +kernel
theorem dX0_markUsed_10 : decode cX0_markUsed 10 = .ok (.if_icmp .ge 23, 3) := by decide +kernel
theorem dX0_markUsed_13 : decode cX0_markUsed 13 = .ok (.aload_n 0, 1) := by decide +kernel
theorem dX0_markUsed_14 : decode cX0_markUsed 14 = .ok (.getfield 28, 3) := by decide +kernel
theorem dX0_markUsed_17 : decode cX0_markUsed 17 = .ok (.aload_n 0, 1) := by decide +kernel
theorem dX0_markUsed_18 : decode cX0_markUsed 18 = .ok (.getfield 31, 3) := by decide +kernel
theorem dX0_markUsed_21 : decode cX0_markUsed 21 = .ok (.iload_n 1, 1) := by decide +kernel
theorem dX0_markUsed_22 : decode cX0_markUsed 22 = .ok (.iastore, 1) := by decide +kernel
theorem dX0_markUsed_23 : decode cX0_markUsed 23 = .ok (.aload_n 0, 1) := by decide +kernel
theorem dX0_markUsed_24 : decode cX0_markUsed 24 = .ok (.dup, 1) := by decide +kernel
theorem dX0_markUsed_25 : decode cX0_markUsed 25 = .ok (.getfield 31, 3) := by decide +kernel
theorem dX0_markUsed_28 : decode cX0_markUsed 28 = .ok (.iconst 1, 1) := by decide +kernel
theorem dX0_markUsed_29 : decode cX0_markUsed 29 = .ok (.iadd, 1) := by decide +kernel
theorem dX0_markUsed_30 : decode cX0_markUsed 30 = .ok (.putfield 31, 3) := by decide +kernel
theorem dX0_markUsed_33 : decode cX0_markUsed 33 = .ok (.return_, 1) := by decide +kernel
theorem dX0_leaveUseOrder_0 : decode cX0_leaveUseOrder 0 = .ok (.iconst 0, 1) := by decide +kernel
theorem dX0_leaveUseOrder_1 : decode cX0_leaveUseOrder 1 = .ok (.istore_n 2, 1) := by decide +kernel
theorem dX0_leaveUseOrder_2 : decode cX0_leaveUseOrder 2 = .ok (.iconst 0, 1) := by decide +kernel
theorem dX0_leaveUseOrder_3 : decode cX0_leaveUseOrder 3 = .ok (.istore_n 3, 1) := by decide +kernel
theorem dX0_leaveUseOrder_4 : decode cX0_leaveUseOrder 4 = .ok (.iload_n 3, 1) := by decide +kernel
theorem dX0_leaveUseOrder_5 : decode cX0_leaveUseOrder 5 = .ok (.aload_n 0, 1) := by decide +kernel
theorem dX0_leaveUseOrder_6 : decode cX0_leaveUseOrder 6 = .ok (.getfield 31, 3) := by decide +kernel
theorem dX0_leaveUseOrder_9 : decode cX0_leaveUseOrder 9 = .ok (.if_icmp .ge 34, 3) := by decide +kernel
theorem dX0_leaveUseOrder_12 : decode cX0_leaveUseOrder 12 = .ok (.aload_n 0, 1) := by decide +kernel
theorem dX0_leaveUseOrder_13 : decode cX0_leaveUseOrder 13 = .ok (.getfield 28, 3) := by decide +kernel
theorem dX0_leaveUseOrder_16 : decode cX0_leaveUseOrder 16 = .ok (.iload_n 3, 1) := by decide +kernel
theorem dX0_leaveUseOrder_17 : decode cX0_leaveUseOrder 17 = .ok (.iaload, 1) := by decide +kernel
theorem dX0_leaveUseOrder_18 : decode cX0_leaveUseOrder 18 = .ok (.iload_n 1, 1) := by decide +kernel
theorem dX0_leaveUseOrder_19 : decode cX0_leaveUseOrder 19 = .ok (.if_icmp .eq 18, 3) := by decide +kernel
theorem dX0_leaveUseOrder_22 : decode cX0_leaveUseOrder 22 = .ok (.aload_n 0, 1) := by decide +kernel
theorem dX0_leaveUseOrder_23 : decode cX0_leaveUseOrder 23 = .ok (.getfield 28, 3) := by decide +kernel
theorem dX0_leaveUseOrder_26 : decode cX0_leaveUseOrder 26 = .ok (.iload_n 2, 1) := by decide +kernel
theorem dX0_leaveUseOrder_27 : decode cX0_leaveUseOrder 27 = .ok (.aload_n 0, 1) := by decide +kernel
theorem dX0_leaveUseOrder_28 : decode cX0_leaveUseOrder 28 = .ok (.getfield 28, 3) := by decide +kernel
theorem dX0_leaveUseOrder_31 : decode cX0_leaveUseOrder 31 = .ok (.iload_n 3, 1) := by decide +kernel
theorem dX0_leaveUseOrder_32 : decode cX0_leaveUseOrder 32 = .ok (.iaload, 1) := by decide +kernel
theorem dX0_leaveUseOrder_33 : decode cX0_leaveUseOrder 33 = .ok (.iastore, 1) := by decide +kernel
theorem dX0_leaveUseOrder_34 : decode cX0_leaveUseOrder 34 = .ok (.iinc 2 1, 3) := by decide +kernel
theorem dX0_leaveUseOrder_37 : decode cX0_leaveUseOrder 37 = .ok (.iinc 3 1, 3) := by decide +kernel
theorem dX0_leaveUseOrder_40 : decode cX0_leaveUseOrder 40 = .ok (.goto (-36), 3) := by decide +kernel
theorem dX0_leaveUseOrder_43 : decode cX0_leaveUseOrder 43 = .ok (.aload_n 0, 1) := by decide +kernel
theorem dX0_leaveUseOrder_44 : decode cX0_leaveUseOrder 44 = .ok (.iload_n 2, 1) := by decide +kernel
theorem dX0_leaveUseOrder_45 : decode cX0_leaveUseOrder 45 = .ok (.putfield 31, 3) := by decide +kernel
theorem dX0_leaveUseOrder_48 : decode cX0_leaveUseOrder 48 = .ok (.return_, 1) := by decide +kernel
set_option maxRecDepth 20000 in
theorem ggX1_init_Jx4a65c_init_da8c8 : GoodIn wsX1_init wsJx4a65c_init_da8c8 := goodIn_r _ [18, 19, 20, 21, 22, 23, 24, 25, 26, 27, 28, 29, 30, 2, 3, 31, 32, 33] (by decide +kernel) (by decide +kernel)
set_option maxRecDepth 20000 in
theorem gX1_init_Jx4a65c_init_da8c8 : GoodIn wsX1_init (wsJx4a65c_init_da8c8) := ggX1_init_Jx4a65c_init_da8c8
theorem dX1_init_0 : decode cX1_init 0 = .ok (.aload_n 0, 1) := by decide +kernel
theorem dX1_init_1 : decode cX1_init 1 = .ok (.invokespecial 3, 3) := by decide +kernel
theorem dX1_init_4 : decode cX1_init 4 = .ok (.aload_n 0, 1) := by decide +kernel
theorem dX1_init_5 : decode cX1_init 5 = .ok (.new 9, 3) := by decide +kernel
theorem dX1_init_8 : decode cX1_init 8 = .ok (.dup, 1) := by decide +kernel
theorem dX1_init_9 : decode cX1_init 9 = .ok (.invokespecial 11, 3) := by decide +kernel
theorem dX1_init_12 : decode cX1_init 12 = .ok (.putfield 12, 3) := by decide +kernel
theorem dX1_init_15 : decode cX1_init 15 = .ok (.aload_n 0, 1) := by decide +kernel
theorem dX1_init_16 : decode cX1_init 16 = .ok (.iconst 0, 1) := by decide +kernel
theorem dX1_init_17 : decode cX1_init 17 = .ok (.putfield 18, 3) := by decide +kernel
theorem dX1_init_20 : decode cX1_init 20 = .ok (.aload_n 0, 1) := by decide +kernel
theorem dX1_init_21 : decode cX1_init 21 = .ok (.iconst (-1), 1) := by decide +kernel
theorem dX1_init_22 : decode cX1_init 22 = .ok (.putfield 22, 3) := by decide +kernel
theorem dX1_init_25 : decode cX1_init 25 = .ok (.aload_n 0, 1) := by decide +kernel
theorem dX1_init_26 : decode cX1_init 26 = .ok (.iconst 0, 1) := by decide +kernel
theorem dX1_init_27 : decode cX1_init 27 = .ok (.putfield 25, 3) := by decide +kernel
theorem dX1_init_30 : decode cX1_init 30 = .ok (.aload_n 0, 1) := by decide +kernel
theorem dX1_init_31 : decode cX1_init 31 = .ok (.iconst 0, 1) := by decide +kernel
theorem dX1_init_32 : decode cX1_init 32 = .ok (.putfield 28, 3) := by decide +kernel
theorem dX1_init_35 : decode cX1_init 35 = .ok (.aload_n 0, 1) := by decide +kernel
theorem dX1_init_36 : decode cX1_init 36 = .ok (.iconst 0, 1) := by decide +kernel
theorem dX1_init_37 : decode cX1_init 37 = .ok (.putfield 32, 3) := by decide +kernel
theorem dX1_init_40 : decode cX1_init 40 = .ok (.aload_n 0, 1) := by decide +kernel
theorem dX1_init_41 : decode cX1_init 41 = .ok (.iconst 0, 1) := by decide +kernel
theorem dX1_init_42 : decode cX1_init 42 = .ok (.putfield 35, 3) := by decide +kernel
theorem dX1_init_45 : decode cX1_init 45 = .ok (.aload_n 0, 1) := by decide +kernel
theorem dX1_init_46 : decode cX1_init 46 = .ok (.iload_n 1, 1) := by decide +kernel
theorem dX1_init_47 : decode cX1_init 47 = .ok (.putfield 38, 3) := by decide +kernel
theorem dX1_init_50 : decode cX1_init 50 = .ok (.aload_n 0, 1) := by decide +kernel
theorem dX1_init_51 : decode cX1_init 51 = .ok (.aload_n 2, 1) := by decide +kernel
theorem dX1_init_52 : decode cX1_init 52 = .ok (.putfield 41, 3) := by decide +kernel
theorem dX1_init_55 : decode cX1_init 55 = .ok (.return_, 1) := by decide +kernel
set_option maxRecDepth 20000 in
theorem ggX1_receive_Jx4a65c_size_8abf5 : GoodIn wsX1_receive wsJx4a65c_size_8abf5 := goodIn_r _ [9, 10, 160, 161, 162] (by decide +kernel) (by decide +kernel)
set_option maxRecDepth 20000 in
theorem gX1_receive_Jx4a65c_size_8abf5 : GoodIn wsX1_receive (wsV RX1 50 RJx4a65c yJx4a65c_size_8abf5 wsJx4a65c_size_8abf5) := goodIn_app (goodIn_of _ (by decide +kernel)) ggX1_receive_Jx4a65c_size_8abf5
set_option maxRecDepth 20000 in
theorem ggX1_receive_Jx4a65c_isEmpty_aae02 : GoodIn wsX1_receive wsJx4a65c_isEmpty_aae02 := goodIn_r _ [14, 10, 160, 161, 162] (by decide +kernel) (by decide +kernel)
set_option maxRecDepth 20000 in
theorem gX1_receive_Jx4a65c_isEmpty_aae02 : GoodIn wsX1_receive (wsV RX1 54 RJx4a65c yJx4a65c_isEmpty_aae02 wsJx4a65c_isEmpty_aae02) := goodIn_app (goodIn_of _ (by decide +kernel)) ggX1_receive_Jx4a65c_isEmpty_aae02
set_option maxRecDepth 20000 in
theorem ggX1_receive_Jx4a65c_remove_915e3 : GoodIn wsX1_receive wsJx4a65c_remove_915e3 := goodIn_r _ [18, 10, 19, 20, 21, 22, 23, 24, 25, 26, 27, 28, 29, 30, 8, 31, 32, 33, 34, 35, 36, 37, 160, 161, 162] (by decide +kernel) (by decide +kernel)
set_option maxRecDepth 20000 in
theorem gX1_receive_Jx4a65c_remove_915e3 : GoodIn wsX1_receive (wsV RX1 58 RJx4a65c yJx4a65c_remove_915e3 wsJx4a65c_remove_915e3) := goodIn_app (goodIn_of _ (by decide +kernel)) ggX1_receive_Jx4a65c_remove_915e3
set_option maxRecDepth 20000 in
theorem ggX1_receive_X1_process : GoodIn wsX1_receive wsX1_process := goodIn_r _ [42, 1, 43, 44, 45, 46, 41, 47, 48, 49, 50, 51, 52, 53, 54, 2, 55, 56, 57, 58, 59, 60, 61, 62, 63, 64, 65, 66, 67, 68, 69, 70, 71, 72, 73, 74, 75, 76, 77, 78, 79, 8, 80, 32, 33, 19, 10, 81, 82, 83, 84, 85, 86, 87, 88, 89, 90, 91, 92, 93, 94, 95, 96, 97, 98, 99, 100, 101, 102, 103, 104, 105, 106, 107, 108, 109, 110, 111, 112, 113, 114, 115, 116, 117, 118, 119, 120, 121, 122, 123, 124, 35, 36, 37, 125, 126, 127, 128, 129, 130, 131, 132, 133, 134, 135, 136, 137, 138, 139, 140, 141, 142, 144, 145, 146, 147, 148, 149, 150, 151, 152, 153, 154, 155, 156, 157, 158, 159, 163, 160, 161, 162] (by decide +kernel) (by decide +kernel)
set_option maxRecDepth 20000 in
theorem gX1_receive_X1_process : GoodIn wsX1_receive (wsV RX1 62 RX1 yX1_process wsX1_process) := goodIn_app (goodIn_of _ (by decide +kernel)) ggX1_receive_X1_process
set_option maxRecDepth 20000 in
theorem ggX1_receive_Jx4a65c_add_9ea2d : GoodIn wsX1_receive wsJx4a65c_add_9ea2d := goodIn_r _ [80, 32, 33, 19, 10, 81, 82, 83, 8, 84, 85, 86, 87, 88, 89, 90, 91, 92, 93, 94, 95, 96, 97, 98, 99, 100, 101, 102, 103, 104, 105, 106, 107, 108, 109, 110, 111, 112, 113, 114, 115, 116, 117, 118, 119, 120, 121, 122, 123, 124, 35, 36, 37, 160, 161, 162] (by decide +kernel) (by decide +kernel)
set_option maxRecDepth 20000 in
theorem gX1_receive_Jx4a65c_add_9ea2d : GoodIn wsX1_receive (wsV RX1 66 RJx4a65c yJx4a65c_add_9ea2d wsJx4a65c_add_9ea2d) := goodIn_app (goodIn_of _ (by decide +kernel)) ggX1_receive_Jx4a65c_add_9ea2d
theorem dX1_receive_0 : decode cX1_receive 0 = .ok (.aload_n 1, 1) := by decide +kernel
theorem dX1_receive_1 : decode cX1_receive 1 = .ok (.getfield 45, 3) := by decide +kernel
theorem dX1_receive_4 : decode cX1_receive 4 = .ok (.iconst 4, 1) := by decide +kernel
theorem dX1_receive_5 : decode cX1_receive 5 = .ok (.if_icmp .ne 61, 3) := by decide +kernel
theorem dX1_receive_8 : decode cX1_receive 8 = .ok (.aload_n 0, 1) := by decide +kernel
theorem dX1_receive_9 : decode cX1_receive 9 = .ok (.iconst 0, 1) := by decide +kernel
theorem dX1_receive_10 : decode cX1_receive 10 = .ok (.putfield 28, 3) := by decide +kernel
theorem dX1_receive_13 : decode cX1_receive 13 = .ok (.aload_n 0, 1) := by decide +kernel
theorem dX1_receive_14 : decode cX1_receive 14 = .ok (.getfield 12, 3) := by decide +kernel
theorem dX1_receive_17 : decode cX1_receive 17 = .ok (.invokevirtual 50, 3) := by decide +kernel
theorem dX1_receive_20 : decode cX1_receive 20 = .ok (.istore_n 2, 1) := by decide +kernel
theorem dX1_receive_21 : decode cX1_receive 21 = .ok (.iload_n 2, 1) := by decide +kernel
theorem dX1_receive_22 : decode cX1_receive 22 = .ok (.ifCond .le 41, 3) := by decide +kernel
theorem dX1_receive_25 : decode cX1_receive 25 = .ok (.aload_n 0, 1) := by decide +kernel
theorem dX1_receive_26 : decode cX1_receive 26 = .ok (.getfield 28, 3) := by decide +kernel
theorem dX1_receive_29 : decode cX1_receive 29 = .ok (.ifCond .ne 34, 3) := by decide +kernel
theorem dX1_receive_32 : decode cX1_receive 32 = .ok (.aload_n 0, 1) := by decide +kernel
theorem dX1_receive_33 : decode cX1_receive 33 = .ok (.getfield 12, 3) := by decide +kernel
theorem dX1_receive_36 : decode cX1_receive 36 = .ok (.invokevirtual 54, 3) := by decide +kernel
theorem dX1_receive_39 : decode cX1_receive 39 = .ok (.ifCond .ne 24, 3) := by decide +kernel
theorem dX1_receive_42 : decode cX1_receive 42 = .ok (.aload_n 0, 1) := by decide +kernel
theorem dX1_receive_43 : decode cX1_receive 43 = .ok (.aload_n 0, 1) := by decide +kernel
theorem dX1_receive_44 : decode cX1_receive 44 = .ok (.getfield 12, 3) := by decide +kernel
theorem dX1_receive_47 : decode cX1_receive 47 = .ok (.iconst 0, 1) := by decide +kernel
theorem dX1_receive_48 : decode cX1_receive 48 = .ok (.invokevirtual 58, 3) := by decide +kernel
theorem dX1_receive_51 : decode cX1_receive 51 = .ok (.checkcast 46, 3) := by decide +kernel
theorem dX1_receive_54 : decode cX1_receive 54 = .ok (.invokevirtual 62, 3) := by decide +kernel
theorem dX1_receive_57 : decode cX1_receive 57 = .ok (.iinc 2 (-1), 3) := by decide +kernel
theorem dX1_receive_60 : decode cX1_receive 60 = .ok (.goto (-39), 3) := by decide +kernel
theorem dX1_receive_63 : decode cX1_receive 63 = .ok (.goto 27, 3) := by decide +kernel
theorem dX1_receive_66 : decode cX1_receive 66 = .ok (.aload_n 0, 1) := by decide +kernel
theorem dX1_receive_67 : decode cX1_receive 67 = .ok (.getfield 28, 3) := by decide +kernel
theorem dX1_receive_70 : decode cX1_receive 70 = .ok (.ifCond .eq 15, 3) := by decide +kernel
theorem dX1_receive_73 : decode cX1_receive 73 = .ok (.aload_n 0, 1) := by decide +kernel
theorem dX1_receive_74 : decode cX1_receive 74 = .ok (.getfield 12, 3) := by decide +kernel
theorem dX1_receive_77 : decode cX1_receive 77 = .ok (.aload_n 1, 1) := by decide +kernel
theorem dX1_receive_78 : decode cX1_receive 78 = .ok (.invokevirtual 66, 3) := by decide +kernel
theorem dX1_receive_81 : decode cX1_receive 81 = .ok (.pop, 1) := by decide +kernel
theorem dX1_receive_82 : decode cX1_receive 82 = .ok (.goto 8, 3) := by decide +kernel
theorem dX1_receive_85 : decode cX1_receive 85 = .ok (.aload_n 0, 1) := by decide +kernel
theorem dX1_receive_86 : decode cX1_receive 86 = .ok (.aload_n 1, 1) := by decide +kernel
theorem dX1_receive_87 : decode cX1_receive 87 = .ok (.invokevirtual 62, 3) := by decide +kernel
theorem dX1_receive_90 : decode cX1_receive 90 = .ok (.return_, 1) := by decide +kernel
set_option maxRecDepth 20000 in
theorem ggX1_process_X1_processRead : GoodIn wsX1_process wsX1_processRead := goodIn_r _ [7, 8, 9, 10, 11, 12, 13, 14, 15, 16, 17, 18, 19, 20, 21, 22, 23, 24, 25, 26, 27, 28, 29, 30, 31, 32, 33, 34, 35, 36, 37, 38, 39, 40, 41, 42, 43, 44, 45, 46, 47, 48, 49, 50, 51, 52, 53, 54, 55, 56, 57, 58, 59, 60, 61, 62, 63, 64, 65, 66, 67, 68, 69, 70, 71, 72, 73, 74, 75, 76, 77, 78, 79, 80, 81, 82, 83, 84, 85, 86, 87, 88, 89, 90, 91, 92, 93, 119, 120, 121, 122, 123, 124, 125, 126, 127, 112, 113, 114, 115, 116, 117, 118, 128, 129, 130, 131] (by decide +kernel) (by decide +kernel)
set_option maxRecDepth 20000 in
theorem gX1_process_X1_processRead : GoodIn wsX1_process (wsV RX1 73 RX1 yX1_processRead wsX1_processRead) := goodIn_app (goodIn_of _ (by decide +kernel)) ggX1_process_X1_processRead
set_option maxRecDepth 20000 in
theorem ggX1_process_X1_processWrite : GoodIn wsX1_process wsX1_processWrite := goodIn_r _ [97, 14, 8, 9, 10, 13, 11, 12, 98, 15, 16, 17, 18, 19, 20, 21, 22, 23, 24, 25, 26, 27, 28, 29, 30, 31, 32, 33, 34, 35, 36, 37, 38, 39, 40, 41, 42, 43, 44, 45, 46, 47, 48, 49, 50, 51, 52, 53, 54, 55, 56, 57, 58, 59, 60, 61, 62, 63, 64, 65, 66, 67, 68, 69, 70, 71, 72, 73, 74, 75, 76, 77, 78, 79, 80, 81, 82, 83, 84, 85, 86, 87, 88, 89, 90, 91, 92, 93, 99, 100, 101, 102, 103, 104, 105, 119, 120, 121, 122, 123, 124, 125, 126, 127, 112, 113, 114, 115, 116, 117, 118, 128, 129, 130, 131] (by decide +kernel) (by decide +kernel)
set_option maxRecDepth 20000 in
theorem gX1_process_X1_processWrite : GoodIn wsX1_process (wsV RX1 77 RX1 yX1_processWrite wsX1_processWrite) := goodIn_app (goodIn_of _ (by decide +kernel)) ggX1_process_X1_processWrite
set_option maxRecDepth 20000 in
theorem ggX1_process_X1_processPut : GoodIn wsX1_process wsX1_processPut := goodIn_r _ [109, 8, 2, 12, 11, 14, 110, 111, 9, 10, 16, 17, 18, 19, 20, 21, 22, 23, 24, 25, 26, 27, 28, 29, 30, 31, 32, 33, 34, 35, 36, 37, 38, 39, 40, 41, 42, 43, 44, 45, 46, 47, 48, 49, 50, 51, 52, 53, 54, 55, 56, 57, 58, 59, 60, 61, 62, 63, 64, 65, 66, 67, 68, 69, 70, 71, 72, 73, 74, 75, 76, 77, 78, 79, 80, 81, 82, 83, 84, 85, 86, 87, 88, 89, 90, 91, 92, 93, 119, 120, 121, 122, 123, 124, 125, 126, 127, 112, 113, 114, 115, 116, 117, 118, 128, 129, 130, 131] (by decide +kernel) (by decide +kernel)
set_option maxRecDepth 20000 in
theorem gX1_process_X1_processPut : GoodIn wsX1_process (wsV RX1 80 RX1 yX1_processPut wsX1_processPut) := goodIn_app (goodIn_of _ (by decide +kernel)) ggX1_process_X1_processPut
theorem dX1_process_0 : decode cX1_process 0 = .ok (.aload_n 1, 1) := by decide +kernel
theorem dX1_process_1 : decode cX1_process 1 = .ok (.getfield 45, 3) := by decide +kernel
theorem dX1_process_4 : decode cX1_process 4 = .ok (.tableswitch 58 1 3 #[28, 39, 50], 28) := by decide +kernel
theorem dX1_process_32 : decode cX1_process 32 = .ok (.aload_n 0, 1) := by decide +kernel
theorem dX1_process_33 : decode cX1_process 33 = .ok (.aload_n 1, 1) := by decide +kernel
theorem dX1_process_34 : decode cX1_process 34 = .ok (.getfield 70, 3) := by decide +kernel
theorem dX1_process_37 : decode cX1_process 37 = .ok (.invokevirtual 73, 3) := by decide +kernel
theorem dX1_process_40 : decode cX1_process 40 = .ok (.goto 22, 3) := by decide +kernel
theorem dX1_process_43 : decode cX1_process 43 = .ok (.aload_n 0, 1) := by decide +kernel
theorem dX1_process_44 : decode cX1_process 44 = .ok (.aload_n 1, 1) := by decide +kernel
theorem dX1_process_45 : decode cX1_process 45 = .ok (.getfield 70, 3) := by decide +kernel
theorem dX1_process_48 : decode cX1_process 48 = .ok (.invokevirtual 77, 3) := by decide +kernel
theorem dX1_process_51 : decode cX1_process 51 = .ok (.goto 11, 3) := by decide +kernel
theorem dX1_process_54 : decode cX1_process 54 = .ok (.aload_n 0, 1) := by decide +kernel
theorem dX1_process_55 : decode cX1_process 55 = .ok (.aload_n 1, 1) := by decide +kernel
theorem dX1_process_56 : decode cX1_process 56 = .ok (.invokevirtual 80, 3) := by decide +kernel
theorem dX1_process_59 : decode cX1_process 59 = .ok (.goto 3, 3) := by decide +kernel
theorem dX1_process_62 : decode cX1_process 62 = .ok (.return_, 1) := by decide +kernel
set_option maxRecDepth 20000 in
theorem ggX1_processRead_X3_send : GoodIn wsX1_processRead wsX3_send := goodIn_r _ [13, 14, 15, 16, 17, 18, 19, 20, 21, 22, 23, 24, 25, 26, 27, 28, 29, 30, 31, 32, 33, 34, 35, 36, 37, 38, 39, 40, 41, 42, 43, 44, 45, 46, 47, 48, 49, 50, 51, 52, 53, 54, 55, 56, 57, 58, 59, 60, 61, 62, 63, 64, 65, 66, 67, 68, 69, 70, 71, 72, 73, 74, 75, 76, 77, 78, 79, 80, 81, 82, 83, 84, 85, 86, 96, 97, 98, 99, 100, 101, 102, 103, 104, 105, 106] (by decide +kernel) (by decide +kernel)
set_option maxRecDepth 20000 in
theorem gX1_processRead_X3_send : GoodIn wsX1_processRead (wsV RX1 83 RX3 yX3_send wsX3_send) := goodIn_app (goodIn_of _ (by decide +kernel)) ggX1_processRead_X3_send
theorem dX1_processRead_0 : decode cX1_processRead 0 = .ok (.aload_n 0, 1) := by decide +kernel
theorem dX1_processRead_1 : decode cX1_processRead 1 = .ok (.getfield 22, 3) := by decide +kernel
theorem dX1_processRead_4 : decode cX1_processRead 4 = .ok (.iconst (-1), 1) := by decide +kernel
theorem dX1_processRead_5 : decode cX1_processRead 5 = .ok (.if_icmp .ne 27, 3) := by decide +kernel
theorem dX1_processRead_8 : decode cX1_processRead 8 = .ok (.aload_n 0, 1) := by decide +kernel
theorem dX1_processRead_9 : decode cX1_processRead 9 = .ok (.getfield 41, 3) := by decide +kernel
theorem dX1_processRead_12 : decode cX1_processRead 12 = .ok (.iconst 5, 1) := by decide +kernel
theorem dX1_processRead_13 : decode cX1_processRead 13 = .ok (.aload_n 0, 1) := by decide +kernel
theorem dX1_processRead_14 : decode cX1_processRead 14 = .ok (.getfield 38, 3) := by decide +kernel
theorem dX1_processRead_17 : decode cX1_processRead 17 = .ok (.iconst (-1), 1) := by decide +kernel
theorem dX1_processRead_18 : decode cX1_processRead 18 = .ok (.iload_n 1, 1) := by decide +kernel
theorem dX1_processRead_19 : decode cX1_processRead 19 = .ok (.invokevirtual 83, 3) := by decide +kernel
theorem dX1_processRead_22 : decode cX1_processRead 22 = .ok (.aload_n 0, 1) := by decide +kernel
theorem dX1_processRead_23 : decode cX1_processRead 23 = .ok (.getfield 18, 3) := by decide +kernel
theorem dX1_processRead_26 : decode cX1_processRead 26 = .ok (.putfield 89, 3) := by decide +kernel
theorem dX1_processRead_29 : decode cX1_processRead 29 = .ok (.goto 25, 3) := by decide +kernel
theorem dX1_processRead_32 : decode cX1_processRead 32 = .ok (.aload_n 0, 1) := by decide +kernel
theorem dX1_processRead_33 : decode cX1_processRead 33 = .ok (.getfield 41, 3) := by decide +kernel
theorem dX1_processRead_36 : decode cX1_processRead 36 = .ok (.bipush 8, 2) := by decide +kernel
theorem dX1_processRead_38 : decode cX1_processRead 38 = .ok (.aload_n 0, 1) := by decide +kernel
theorem dX1_processRead_39 : decode cX1_processRead 39 = .ok (.getfield 38, 3) := by decide +kernel
theorem dX1_processRead_42 : decode cX1_processRead 42 = .ok (.iconst (-1), 1) := by decide +kernel
theorem dX1_processRead_43 : decode cX1_processRead 43 = .ok (.aload_n 0, 1) := by decide +kernel
theorem dX1_processRead_44 : decode cX1_processRead 44 = .ok (.getfield 22, 3) := by decide +kernel
theorem dX1_processRead_47 : decode cX1_processRead 47 = .ok (.invokevirtual 83, 3) := by decide +kernel
theorem dX1_processRead_50 : decode cX1_processRead 50 = .ok (.iload_n 1, 1) := by decide +kernel
theorem dX1_processRead_51 : decode cX1_processRead 51 = .ok (.putfield 92, 3) := by decide +kernel
theorem dX1_processRead_54 : decode cX1_processRead 54 = .ok (.aload_n 0, 1) := by decide +kernel
theorem dX1_processRead_55 : decode cX1_processRead 55 = .ok (.dup, 1) := by decide +kernel
theorem dX1_processRead_56 : decode cX1_processRead 56 = .ok (.getfield 25, 3) := by decide +kernel
theorem dX1_processRead_59 : decode cX1_processRead 59 = .ok (.iconst 1, 1) := by decide +kernel
theorem dX1_processRead_60 : decode cX1_processRead 60 = .ok (.iload_n 1, 1) := by decide +kernel
theorem dX1_processRead_61 : decode cX1_processRead 61 = .ok (.ishl, 1) := by decide +kernel
theorem dX1_processRead_62 : decode cX1_processRead 62 = .ok (.ior, 1) := by decide +kernel
theorem dX1_processRead_63 : decode cX1_processRead 63 = .ok (.putfield 25, 3) := by decide +kernel
theorem dX1_processRead_66 : decode cX1_processRead 66 = .ok (.aload_n 0, 1) := by decide +kernel
theorem dX1_processRead_67 : decode cX1_processRead 67 = .ok (.iconst 1, 1) := by decide +kernel
theorem dX1_processRead_68 : decode cX1_processRead 68 = .ok (.putfield 28, 3) := by decide +kernel
theorem dX1_processRead_71 : decode cX1_processRead 71 = .ok (.return_, 1) := by decide +kernel
set_option maxRecDepth 20000 in
theorem ggX1_processWrite_X3_send : GoodIn wsX1_processWrite wsX3_send := goodIn_r _ [14, 15, 16, 17, 18, 19, 20, 21, 22, 23, 24, 25, 26, 27, 28, 29, 30, 31, 32, 33, 34, 35, 36, 37, 38, 39, 40, 41, 42, 43, 44, 45, 46, 47, 48, 49, 50, 51, 52, 53, 54, 55, 56, 57, 58, 59, 60, 61, 62, 63, 64, 65, 66, 67, 68, 69, 70, 71, 72, 73, 74, 75, 76, 77, 78, 79, 80, 81, 82, 83, 84, 85, 86, 87, 104, 105, 106, 107, 108, 109, 110, 111, 112, 113, 114] (by decide +kernel) (by decide +kernel)
set_option maxRecDepth 20000 in
theorem gX1_processWrite_X3_send : GoodIn wsX1_processWrite (wsV RX1 83 RX3 yX3_send wsX3_send) := goodIn_app (goodIn_of _ (by decide +kernel)) ggX1_processWrite_X3_send
set_option maxRecDepth 20000 in
theorem ggX1_processWrite_J6_bitCount_0f7a4 : GoodIn wsX1_processWrite wsJ6_bitCount_0f7a4 := goodIn_r _ [91, 92, 93, 94] (by decide +kernel) (by decide +kernel)
set_option maxRecDepth 20000 in
theorem gX1_processWrite_J6_bitCount_0f7a4 : GoodIn wsX1_processWrite (va_wsS RX1 95 yJ6_bitCount_0f7a4 wsJ6_bitCount_0f7a4) := goodIn_app (goodIn_of _ (by decide +kernel)) ggX1_processWrite_J6_bitCount_0f7a4
theorem dX1_processWrite_0 : decode cX1_processWrite 0 = .ok (.aload_n 0, 1) := by decide +kernel
theorem dX1_processWrite_1 : decode cX1_processWrite 1 = .ok (.getfield 25, 3) := by decide +kernel
theorem dX1_processWrite_4 : decode cX1_processWrite 4 = .ok (.iconst 1, 1) := by decide +kernel
theorem dX1_processWrite_5 : decode cX1_processWrite 5 = .ok (.iload_n 1, 1) := by decide +kernel
theorem dX1_processWrite_6 : decode cX1_processWrite 6 = .ok (.ishl, 1) := by decide +kernel
theorem dX1_processWrite_7 : decode cX1_processWrite 7 = .ok (.iconst (-1), 1) := by decide +kernel
theorem dX1_processWrite_8 : decode cX1_processWrite 8 = .ok (.ixor, 1) := by decide +kernel
theorem dX1_processWrite_9 : decode cX1_processWrite 9 = .ok (.iand, 1) := by decide +kernel
theorem dX1_processWrite_10 : decode cX1_processWrite 10 = .ok (.istore_n 2, 1) := by decide +kernel
theorem dX1_processWrite_11 : decode cX1_processWrite 11 = .ok (.aload_n 0, 1) := by decide +kernel
theorem dX1_processWrite_12 : decode cX1_processWrite 12 = .ok (.getfield 22, 3) := by decide +kernel
theorem dX1_processWrite_15 : decode cX1_processWrite 15 = .ok (.iconst (-1), 1) := by decide +kernel
theorem dX1_processWrite_16 : decode cX1_processWrite 16 = .ok (.if_icmp .eq 14, 3) := by decide +kernel
theorem dX1_processWrite_19 : decode cX1_processWrite 19 = .ok (.iload_n 2, 1) := by decide +kernel
theorem dX1_processWrite_20 : decode cX1_processWrite 20 = .ok (.iconst 1, 1) := by decide +kernel
theorem dX1_processWrite_21 : decode cX1_processWrite 21 = .ok (.aload_n 0, 1) := by decide +kernel
theorem dX1_processWrite_22 : decode cX1_processWrite 22 = .ok (.getfield 22, 3) := by decide +kernel
theorem dX1_processWrite_25 : decode cX1_processWrite 25 = .ok (.ishl, 1) := by decide +kernel
theorem dX1_processWrite_26 : decode cX1_processWrite 26 = .ok (.iconst (-1), 1) := by decide +kernel
theorem dX1_processWrite_27 : decode cX1_processWrite 27 = .ok (.ixor, 1) := by decide +kernel
theorem dX1_processWrite_28 : decode cX1_processWrite 28 = .ok (.iand, 1) := by decide +kernel
theorem dX1_processWrite_29 : decode cX1_processWrite 29 = .ok (.istore_n 2, 1) := by decide +kernel
theorem dX1_processWrite_30 : decode cX1_processWrite 30 = .ok (.iconst 0, 1) := by decide +kernel
theorem dX1_processWrite_31 : decode cX1_processWrite 31 = .ok (.istore_n 3, 1) := by decide +kernel
theorem dX1_processWrite_32 : decode cX1_processWrite 32 = .ok (.iload_n 3, 1) := by decide +kernel
theorem dX1_processWrite_33 : decode cX1_processWrite 33 = .ok (.iconst 4, 1) := by decide +kernel
theorem dX1_processWrite_34 : decode cX1_processWrite 34 = .ok (.if_icmp .ge 37, 3) := by decide +kernel
theorem dX1_processWrite_37 : decode cX1_processWrite 37 = .ok (.iload_n 2, 1) := by decide +kernel
theorem dX1_processWrite_38 : decode cX1_processWrite 38 = .ok (.iload_n 3, 1) := by decide +kernel
theorem dX1_processWrite_39 : decode cX1_processWrite 39 = .ok (.ishr, 1) := by decide +kernel
theorem dX1_processWrite_40 : decode cX1_processWrite 40 = .ok (.iconst 1, 1) := by decide +kernel
theorem dX1_processWrite_41 : decode cX1_processWrite 41 = .ok (.iand, 1) := by decide +kernel
theorem dX1_processWrite_42 : decode cX1_processWrite 42 = .ok (.iconst 1, 1) := by decide +kernel
theorem dX1_processWrite_43 : decode cX1_processWrite 43 = .ok (.if_icmp .ne 22, 3) := by decide +kernel
theorem dX1_processWrite_46 : decode cX1_processWrite 46 = .ok (.aload_n 0, 1) := by decide +kernel
theorem dX1_processWrite_47 : decode cX1_processWrite 47 = .ok (.getfield 41, 3) := by decide +kernel
theorem dX1_processWrite_50 : decode cX1_processWrite 50 = .ok (.bipush 10, 2) := by decide +kernel
theorem dX1_processWrite_52 : decode cX1_processWrite 52 = .ok (.aload_n 0, 1) := by decide +kernel
theorem dX1_processWrite_53 : decode cX1_processWrite 53 = .ok (.getfield 38, 3) := by decide +kernel
theorem dX1_processWrite_56 : decode cX1_processWrite 56 = .ok (.iconst (-1), 1) := by decide +kernel
theorem dX1_processWrite_57 : decode cX1_processWrite 57 = .ok (.iload_n 3, 1) := by decide +kernel
theorem dX1_processWrite_58 : decode cX1_processWrite 58 = .ok (.invokevirtual 83, 3) := by decide +kernel
theorem dX1_processWrite_61 : decode cX1_processWrite 61 = .ok (.iload_n 1, 1) := by decide +kernel
theorem dX1_processWrite_62 : decode cX1_processWrite 62 = .ok (.putfield 92, 3) := by decide +kernel
theorem dX1_processWrite_65 : decode cX1_processWrite 65 = .ok (.iinc 3 1, 3) := by decide +kernel
theorem dX1_processWrite_68 : decode cX1_processWrite 68 = .ok (.goto (-36), 3) := by decide +kernel
theorem dX1_processWrite_71 : decode cX1_processWrite 71 = .ok (.aload_n 0, 1) := by decide +kernel
theorem dX1_processWrite_72 : decode cX1_processWrite 72 = .ok (.getfield 22, 3) := by decide +kernel
theorem dX1_processWrite_75 : decode cX1_processWrite 75 = .ok (.iconst (-1), 1) := by decide +kernel
theorem dX1_processWrite_76 : decode cX1_processWrite 76 = .ok (.if_icmp .ne 29, 3) := by decide +kernel
theorem dX1_processWrite_79 : decode cX1_processWrite 79 = .ok (.aload_n 0, 1) := by decide +kernel
theorem dX1_processWrite_80 : decode cX1_processWrite 80 = .ok (.getfield 41, 3) := by decide +kernel
theorem dX1_processWrite_83 : decode cX1_processWrite 83 = .ok (.iconst 5, 1) := by decide +kernel
theorem dX1_processWrite_84 : decode cX1_processWrite 84 = .ok (.aload_n 0, 1) := by decide +kernel
theorem dX1_processWrite_85 : decode cX1_processWrite 85 = .ok (.getfield 38, 3) := by decide +kernel
theorem dX1_processWrite_88 : decode cX1_processWrite 88 = .ok (.iconst (-1), 1) := by decide +kernel
theorem dX1_processWrite_89 : decode cX1_processWrite 89 = .ok (.iload_n 1, 1) := by decide +kernel
theorem dX1_processWrite_90 : decode cX1_processWrite 90 = .ok (.invokevirtual 83, 3) := by decide +kernel
theorem dX1_processWrite_93 : decode cX1_processWrite 93 = .ok (.astore_n 3, 1) := by decide +kernel
theorem dX1_processWrite_94 : decode cX1_processWrite 94 = .ok (.aload_n 3, 1) := by decide +kernel
theorem dX1_processWrite_95 : decode cX1_processWrite 95 = .ok (.aload_n 0, 1) := by decide +kernel
theorem dX1_processWrite_96 : decode cX1_processWrite 96 = .ok (.getfield 18, 3) := by decide +kernel
theorem dX1_processWrite_99 : decode cX1_processWrite 99 = .ok (.putfield 89, 3) := by decide +kernel
theorem dX1_processWrite_102 : decode cX1_processWrite 102 = .ok (.goto 54, 3) := by decide +kernel
theorem dX1_processWrite_105 : decode cX1_processWrite 105 = .ok (.aload_n 0, 1) := by decide +kernel
theorem dX1_processWrite_106 : decode cX1_processWrite 106 = .ok (.getfield 22, 3) := by decide +kernel
theorem dX1_processWrite_109 : decode cX1_processWrite 109 = .ok (.iload_n 1, 1) := by decide +kernel
theorem dX1_processWrite_110 : decode cX1_processWrite 110 = .ok (.if_icmp .ne 22, 3) := by decide +kernel
theorem dX1_processWrite_113 : decode cX1_processWrite 113 = .ok (.aload_n 0, 1) := by decide +kernel
theorem dX1_processWrite_114 : decode cX1_processWrite 114 = .ok (.getfield 41, 3) := by decide +kernel
theorem dX1_processWrite_117 : decode cX1_processWrite 117 = .ok (.bipush 6, 2) := by decide +kernel
theorem dX1_processWrite_119 : decode cX1_processWrite 119 = .ok (.aload_n 0, 1) := by decide +kernel
theorem dX1_processWrite_120 : decode cX1_processWrite 120 = .ok (.getfield 38, 3) := by decide +kernel
theorem dX1_processWrite_123 : decode cX1_processWrite 123 = .ok (.iconst (-1), 1) := by decide +kernel
theorem dX1_processWrite_124 : decode cX1_processWrite 124 = .ok (.iload_n 1, 1) := by decide +kernel
theorem dX1_processWrite_125 : decode cX1_processWrite 125 = .ok (.invokevirtual 83, 3) := by decide +kernel
theorem dX1_processWrite_128 : decode cX1_processWrite 128 = .ok (.astore_n 3, 1) := by decide +kernel
theorem dX1_processWrite_129 : decode cX1_processWrite 129 = .ok (.goto 27, 3) := by decide +kernel
theorem dX1_processWrite_132 : decode cX1_processWrite 132 = .ok (.aload_n 0, 1) := by decide +kernel
theorem dX1_processWrite_133 : decode cX1_processWrite 133 = .ok (.getfield 41, 3) := by decide +kernel
theorem dX1_processWrite_136 : decode cX1_processWrite 136 = .ok (.bipush 9, 2) := by decide +kernel
theorem dX1_processWrite_138 : decode cX1_processWrite 138 = .ok (.aload_n 0, 1) := by decide +kernel
theorem dX1_processWrite_139 : decode cX1_processWrite 139 = .ok (.getfield 38, 3) := by decide +kernel
theorem dX1_processWrite_142 : decode cX1_processWrite 142 = .ok (.iconst (-1), 1) := by decide +kernel
theorem dX1_processWrite_143 : decode cX1_processWrite 143 = .ok (.aload_n 0, 1) := by decide +kernel
theorem dX1_processWrite_144 : decode cX1_processWrite 144 = .ok (.getfield 22, 3) := by decide +kernel
theorem dX1_processWrite_147 : decode cX1_processWrite 147 = .ok (.invokevirtual 83, 3) := by decide +kernel
theorem dX1_processWrite_150 : decode cX1_processWrite 150 = .ok (.astore_n 3, 1) := by decide +kernel
theorem dX1_processWrite_151 : decode cX1_processWrite 151 = .ok (.aload_n 3, 1) := by decide +kernel
theorem dX1_processWrite_152 : decode cX1_processWrite 152 = .ok (.iload_n 1, 1) := by decide +kernel
theorem dX1_processWrite_153 : decode cX1_processWrite 153 = .ok (.putfield 92, 3) := by decide +kernel
theorem dX1_processWrite_156 : decode cX1_processWrite 156 = .ok (.aload_n 3, 1) := by decide +kernel
theorem dX1_processWrite_157 : decode cX1_processWrite 157 = .ok (.iload_n 2, 1) := by decide +kernel
theorem dX1_processWrite_158 : decode cX1_processWrite 158 = .ok (.invokestatic 95, 3) := by decide +kernel
theorem dX1_processWrite_161 : decode cX1_processWrite 161 = .ok (.putfield 101, 3) := by decide +kernel
theorem dX1_processWrite_164 : decode cX1_processWrite 164 = .ok (.aload_n 0, 1) := by decide +kernel
theorem dX1_processWrite_165 : decode cX1_processWrite 165 = .ok (.iload_n 1, 1) := by decide +kernel
theorem dX1_processWrite_166 : decode cX1_processWrite 166 = .ok (.putfield 22, 3) := by decide +kernel
theorem dX1_processWrite_169 : decode cX1_processWrite 169 = .ok (.aload_n 0, 1) := by decide +kernel
theorem dX1_processWrite_170 : decode cX1_processWrite 170 = .ok (.iconst 0, 1) := by decide +kernel
theorem dX1_processWrite_171 : decode cX1_processWrite 171 = .ok (.putfield 25, 3) := by decide +kernel
theorem dX1_processWrite_174 : decode cX1_processWrite 174 = .ok (.aload_n 0, 1) := by decide +kernel
theorem dX1_processWrite_175 : decode cX1_processWrite 175 = .ok (.iconst 1, 1) := by decide +kernel
theorem dX1_processWrite_176 : decode cX1_processWrite 176 = .ok (.putfield 28, 3) := by decide +kernel
theorem dX1_processWrite_179 : decode cX1_processWrite 179 = .ok (.return_, 1) := by decide +kernel
set_option maxRecDepth 20000 in
theorem ggX1_processPut_X3_send : GoodIn wsX1_processPut wsX3_send := goodIn_r _ [14, 15, 16, 17, 18, 19, 20, 21, 22, 23, 24, 25, 26, 27, 28, 29, 30, 31, 32, 33, 34, 35, 36, 37, 38, 39, 40, 41, 42, 43, 44, 45, 46, 47, 48, 49, 50, 51, 52, 53, 54, 55, 56, 57, 58, 59, 60, 61, 62, 63, 64, 65, 66, 67, 68, 69, 70, 71, 72, 73, 74, 75, 76, 77, 78, 79, 80, 81, 82, 83, 84, 85, 86, 87, 97, 98, 99, 100, 101, 102, 103, 104, 105, 106, 107] (by decide +kernel) (by decide +kernel)
set_option maxRecDepth 20000 in
theorem gX1_processPut_X3_send : GoodIn wsX1_processPut (wsV RX1 83 RX3 yX3_send wsX3_send) := goodIn_app (goodIn_of _ (by decide +kernel)) ggX1_processPut_X3_send
theorem dX1_processPut_0 : decode cX1_processPut 0 = .ok (.aload_n 0, 1) := by decide +kernel
theorem dX1_processPut_1 : decode cX1_processPut 1 = .ok (.getfield 22, 3) := by decide +kernel
theorem dX1_processPut_4 : decode cX1_processPut 4 = .ok (.aload_n 1, 1) := by decide +kernel
theorem dX1_processPut_5 : decode cX1_processPut 5 = .ok (.getfield 70, 3) := by decide +kernel
theorem dX1_processPut_8 : decode cX1_processPut 8 = .ok (.if_icmp .ne 46, 3) := by decide +kernel
theorem dX1_processPut_11 : decode cX1_processPut 11 = .ok (.aload_n 0, 1) := by decide +kernel
theorem dX1_processPut_12 : decode cX1_processPut 12 = .ok (.aload_n 1, 1) := by decide +kernel
theorem dX1_processPut_13 : decode cX1_processPut 13 = .ok (.getfield 89, 3) := by decide +kernel
theorem dX1_processPut_16 : decode cX1_processPut 16 = .ok (.putfield 18, 3) := by decide +kernel
theorem dX1_processPut_19 : decode cX1_processPut 19 = .ok (.aload_n 0, 1) := by decide +kernel
theorem dX1_processPut_20 : decode cX1_processPut 20 = .ok (.iconst (-1), 1) := by decide +kernel
theorem dX1_processPut_21 : decode cX1_processPut 21 = .ok (.putfield 22, 3) := by decide +kernel
theorem dX1_processPut_24 : decode cX1_processPut 24 = .ok (.aload_n 0, 1) := by decide +kernel
theorem dX1_processPut_25 : decode cX1_processPut 25 = .ok (.dup, 1) := by decide +kernel
theorem dX1_processPut_26 : decode cX1_processPut 26 = .ok (.getfield 25, 3) := by decide +kernel
theorem dX1_processPut_29 : decode cX1_processPut 29 = .ok (.iconst 1, 1) := by decide +kernel
theorem dX1_processPut_30 : decode cX1_processPut 30 = .ok (.aload_n 1, 1) := by decide +kernel
theorem dX1_processPut_31 : decode cX1_processPut 31 = .ok (.getfield 70, 3) := by decide +kernel
theorem dX1_processPut_34 : decode cX1_processPut 34 = .ok (.ishl, 1) := by decide +kernel
theorem dX1_processPut_35 : decode cX1_processPut 35 = .ok (.iconst (-1), 1) := by decide +kernel
theorem dX1_processPut_36 : decode cX1_processPut 36 = .ok (.ixor, 1) := by decide +kernel
theorem dX1_processPut_37 : decode cX1_processPut 37 = .ok (.iand, 1) := by decide +kernel
theorem dX1_processPut_38 : decode cX1_processPut 38 = .ok (.putfield 25, 3) := by decide +kernel
theorem dX1_processPut_41 : decode cX1_processPut 41 = .ok (.aload_n 0, 1) := by decide +kernel
theorem dX1_processPut_42 : decode cX1_processPut 42 = .ok (.dup, 1) := by decide +kernel
theorem dX1_processPut_43 : decode cX1_processPut 43 = .ok (.getfield 32, 3) := by decide +kernel
theorem dX1_processPut_46 : decode cX1_processPut 46 = .ok (.iconst 1, 1) := by decide +kernel
theorem dX1_processPut_47 : decode cX1_processPut 47 = .ok (.iadd, 1) := by decide +kernel
theorem dX1_processPut_48 : decode cX1_processPut 48 = .ok (.putfield 32, 3) := by decide +kernel
theorem dX1_processPut_51 : decode cX1_processPut 51 = .ok (.goto 13, 3) := by decide +kernel
theorem dX1_processPut_54 : decode cX1_processPut 54 = .ok (.aload_n 0, 1) := by decide +kernel
theorem dX1_processPut_55 : decode cX1_processPut 55 = .ok (.dup, 1) := by decide +kernel
theorem dX1_processPut_56 : decode cX1_processPut 56 = .ok (.getfield 35, 3) := by decide +kernel
theorem dX1_processPut_59 : decode cX1_processPut 59 = .ok (.iconst 1, 1) := by decide +kernel
theorem dX1_processPut_60 : decode cX1_processPut 60 = .ok (.iadd, 1) := by decide +kernel
theorem dX1_processPut_61 : decode cX1_processPut 61 = .ok (.putfield 35, 3) := by decide +kernel
theorem dX1_processPut_64 : decode cX1_processPut 64 = .ok (.aload_n 0, 1) := by decide +kernel
theorem dX1_processPut_65 : decode cX1_processPut 65 = .ok (.getfield 41, 3) := by decide +kernel
theorem dX1_processPut_68 : decode cX1_processPut 68 = .ok (.bipush 11, 2) := by decide +kernel
theorem dX1_processPut_70 : decode cX1_processPut 70 = .ok (.aload_n 0, 1) := by decide +kernel
theorem dX1_processPut_71 : decode cX1_processPut 71 = .ok (.getfield 38, 3) := by decide +kernel
theorem dX1_processPut_74 : decode cX1_processPut 74 = .ok (.iconst (-1), 1) := by decide +kernel
theorem dX1_processPut_75 : decode cX1_processPut 75 = .ok (.aload_n 1, 1) := by decide +kernel
theorem dX1_processPut_76 : decode cX1_processPut 76 = .ok (.getfield 70, 3) := by decide +kernel
theorem dX1_processPut_79 : decode cX1_processPut 79 = .ok (.invokevirtual 83, 3) := by decide +kernel
theorem dX1_processPut_82 : decode cX1_processPut 82 = .ok (.pop, 1) := by decide +kernel
theorem dX1_processPut_83 : decode cX1_processPut 83 = .ok (.return_, 1) := by decide +kernel
theorem dX2_init_0 : decode cX2_init 0 = .ok (.aload_n 0, 1) := by decide +kernel
theorem dX2_init_1 : decode cX2_init 1 = .ok (.invokespecial 3, 3) := by decide +kernel
theorem dX2_init_4 : decode cX2_init 4 = .ok (.aload_n 0, 1) := by decide +kernel
theorem dX2_init_5 : decode cX2_init 5 = .ok (.iconst (-1), 1) := by decide +kernel
theorem dX2_init_6 : decode cX2_init 6 = .ok (.putfield 9, 3) := by decide +kernel
theorem dX2_init_9 : decode cX2_init 9 = .ok (.aload_n 0, 1) := by decide +kernel
theorem dX2_init_10 : decode cX2_init 10 = .ok (.iconst 0, 1) := by decide +kernel
theorem dX2_init_11 : decode cX2_init 11 = .ok (.putfield 15, 3) := by decide +kernel
theorem dX2_init_14 : decode cX2_init 14 = .ok (.aload_n 0, 1) := by decide +kernel
theorem dX2_init_15 : decode cX2_init 15 = .ok (.iconst (-1), 1) := by decide +kernel
theorem dX2_init_16 : decode cX2_init 16 = .ok (.putfield 18, 3) := by decide +kernel
theorem dX2_init_19 : decode cX2_init 19 = .ok (.aload_n 0, 1) := by decide +kernel
theorem dX2_init_20 : decode cX2_init 20 = .ok (.iload_n 1, 1) := by decide +kernel
theorem dX2_init_21 : decode cX2_init 21 = .ok (.putfield 21, 3) := by decide +kernel
theorem dX2_init_24 : decode cX2_init 24 = .ok (.aload_n 0, 1) := by decide +kernel
theorem dX2_init_25 : decode cX2_init 25 = .ok (.iload_n 2, 1) := by decide +kernel
theorem dX2_init_26 : decode cX2_init 26 = .ok (.putfield 24, 3) := by decide +kernel
theorem dX2_init_29 : decode cX2_init 29 = .ok (.aload_n 0, 1) := by decide +kernel
theorem dX2_init_30 : decode cX2_init 30 = .ok (.iload_n 3, 1) := by decide +kernel
theorem dX2_init_31 : decode cX2_init 31 = .ok (.putfield 27, 3) := by decide +kernel
theorem dX2_init_34 : decode cX2_init 34 = .ok (.aload_n 0, 1) := by decide +kernel
theorem dX2_init_35 : decode cX2_init 35 = .ok (.iload 4, 2) := by decide +kernel
theorem dX2_init_37 : decode cX2_init 37 = .ok (.putfield 30, 3) := by decide +kernel
theorem dX2_init_40 : decode cX2_init 40 = .ok (.return_, 1) := by decide +kernel
set_option maxRecDepth 20000 in
theorem ggX3_init_Jx4a65c_init_da8c8 : GoodIn wsX3_init wsJx4a65c_init_da8c8 := goodIn_r _ [10, 11, 12, 13, 14, 15, 16, 17, 18, 19, 20, 21, 22, 2, 3, 23, 24, 25] (by decide +kernel) (by decide +kernel)
set_option maxRecDepth 20000 in
theorem gX3_init_Jx4a65c_init_da8c8 : GoodIn wsX3_init (wsJx4a65c_init_da8c8) := ggX3_init_Jx4a65c_init_da8c8
theorem dX3_init_0 : decode cX3_init 0 = .ok (.aload_n 0, 1) := by decide +kernel
theorem dX3_init_1 : decode cX3_init 1 = .ok (.invokespecial 1, 3) := by decide +kernel
theorem dX3_init_4 : decode cX3_init 4 = .ok (.aload_n 0, 1) := by decide +kernel
theorem dX3_init_5 : decode cX3_init 5 = .ok (.new 7, 3) := by decide +kernel
theorem dX3_init_8 : decode cX3_init 8 = .ok (.dup, 1) := by decide +kernel
theorem dX3_init_9 : decode cX3_init 9 = .ok (.invokespecial 9, 3) := by decide +kernel
theorem dX3_init_12 : decode cX3_init 12 = .ok (.putfield 10, 3) := by decide +kernel
theorem dX3_init_15 : decode cX3_init 15 = .ok (.return_, 1) := by decide +kernel
set_option maxRecDepth 20000 in
theorem ggX3_send_X2_init : GoodIn wsX3_send wsX2_init := goodIn_r _ [7, 8, 9, 10, 11, 12, 13, 14, 15, 16, 17, 74, 75, 76, 77, 78, 79, 80] (by decide +kernel) (by decide +kernel)
set_option maxRecDepth 20000 in
theorem gX3_send_X2_init : GoodIn wsX3_send (wsX2_init) := ggX3_send_X2_init
set_option maxRecDepth 20000 in
theorem ggX3_send_Jx4a65c_add_9ea2d : GoodIn wsX3_send wsJx4a65c_add_9ea2d := goodIn_r _ [22, 23, 24, 25, 26, 27, 28, 29, 21, 30, 31, 32, 33, 34, 35, 36, 37, 38, 39, 40, 41, 42, 43, 44, 45, 46, 47, 48, 49, 50, 51, 52, 53, 54, 55, 56, 57, 58, 59, 60, 61, 62, 63, 64, 65, 66, 67, 68, 69, 70, 71, 72, 73, 82, 83, 84] (by decide +kernel) (by decide +kernel)
set_option maxRecDepth 20000 in
theorem gX3_send_Jx4a65c_add_9ea2d : GoodIn wsX3_send (wsV RX3 21 RJx4a65c yJx4a65c_add_9ea2d wsJx4a65c_add_9ea2d) := goodIn_app (goodIn_of _ (by decide +kernel)) ggX3_send_Jx4a65c_add_9ea2d
theorem dX3_send_0 : decode cX3_send 0 = .ok (.new 16, 3) := by decide +kernel
theorem dX3_send_3 : decode cX3_send 3 = .ok (.dup, 1) := by decide +kernel
theorem dX3_send_4 : decode cX3_send 4 = .ok (.iload_n 1, 1) := by decide +kernel
theorem dX3_send_5 : decode cX3_send 5 = .ok (.iload_n 2, 1) := by decide +kernel
theorem dX3_send_6 : decode cX3_send 6 = .ok (.iload_n 3, 1) := by decide +kernel
theorem dX3_send_7 : decode cX3_send 7 = .ok (.iload 4, 2) := by decide +kernel
theorem dX3_send_9 : decode cX3_send 9 = .ok (.invokespecial 18, 3) := by decide +kernel
theorem dX3_send_12 : decode cX3_send 12 = .ok (.astore 5, 2) := by decide +kernel
theorem dX3_send_14 : decode cX3_send 14 = .ok (.aload_n 0, 1) := by decide +kernel
theorem dX3_send_15 : decode cX3_send 15 = .ok (.getfield 10, 3) := by decide +kernel
theorem dX3_send_18 : decode cX3_send 18 = .ok (.aload 5, 2) := by decide +kernel
theorem dX3_send_20 : decode cX3_send 20 = .ok (.invokevirtual 21, 3) := by decide +kernel
theorem dX3_send_23 : decode cX3_send 23 = .ok (.pop, 1) := by decide +kernel
theorem dX3_send_24 : decode cX3_send 24 = .ok (.aload 5, 2) := by decide +kernel
theorem dX3_send_26 : decode cX3_send 26 = .ok (.areturn, 1) := by decide +kernel
theorem dX4_init_0 : decode cX4_init 0 = .ok (.aload_n 0, 1) := by decide +kernel
theorem dX4_init_1 : decode cX4_init 1 = .ok (.invokespecial 3, 3) := by decide +kernel
theorem dX4_init_4 : decode cX4_init 4 = .ok (.aload_n 0, 1) := by decide +kernel
theorem dX4_init_5 : decode cX4_init 5 = .ok (.iconst (-1), 1) := by decide +kernel
theorem dX4_init_6 : decode cX4_init 6 = .ok (.putfield 9, 3) := by decide +kernel
theorem dX4_init_9 : decode cX4_init 9 = .ok (.return_, 1) := by decide +kernel
theorem dX4_open_0 : decode cX4_open 0 = .ok (.aload_n 0, 1) := by decide +kernel
theorem dX4_open_1 : decode cX4_open 1 = .ok (.iload_n 1, 1) := by decide +kernel
theorem dX4_open_2 : decode cX4_open 2 = .ok (.putfield 9, 3) := by decide +kernel
theorem dX4_open_5 : decode cX4_open 5 = .ok (.aload_n 0, 1) := by decide +kernel
theorem dX4_open_6 : decode cX4_open 6 = .ok (.iload_n 2, 1) := by decide +kernel
theorem dX4_open_7 : decode cX4_open 7 = .ok (.putfield 15, 3) := by decide +kernel
theorem dX4_open_10 : decode cX4_open 10 = .ok (.aload_n 0, 1) := by decide +kernel
theorem dX4_open_11 : decode cX4_open 11 = .ok (.iload_n 3, 1) := by decide +kernel
theorem dX4_open_12 : decode cX4_open 12 = .ok (.putfield 19, 3) := by decide +kernel
theorem dX4_open_15 : decode cX4_open 15 = .ok (.aload_n 0, 1) := by decide +kernel
theorem dX4_open_16 : decode cX4_open 16 = .ok (.iconst 0, 1) := by decide +kernel
theorem dX4_open_17 : decode cX4_open 17 = .ok (.putfield 22, 3) := by decide +kernel
theorem dX4_open_20 : decode cX4_open 20 = .ok (.aload_n 0, 1) := by decide +kernel
theorem dX4_open_21 : decode cX4_open 21 = .ok (.iconst 0, 1) := by decide +kernel
theorem dX4_open_22 : decode cX4_open 22 = .ok (.putfield 25, 3) := by decide +kernel
theorem dX4_open_25 : decode cX4_open 25 = .ok (.return_, 1) := by decide +kernel
theorem dX4_isComplete_0 : decode cX4_isComplete 0 = .ok (.aload_n 0, 1) := by decide +kernel
theorem dX4_isComplete_1 : decode cX4_isComplete 1 = .ok (.getfield 22, 3) := by decide +kernel
theorem dX4_isComplete_4 : decode cX4_isComplete 4 = .ok (.ifCond .eq 18, 3) := by decide +kernel
theorem dX4_isComplete_7 : decode cX4_isComplete 7 = .ok (.aload_n 0, 1) := by decide +kernel
theorem dX4_isComplete_8 : decode cX4_isComplete 8 = .ok (.getfield 25, 3) := by decide +kernel
theorem dX4_isComplete_11 : decode cX4_isComplete 11 = .ok (.aload_n 0, 1) := by decide +kernel
theorem dX4_isComplete_12 : decode cX4_isComplete 12 = .ok (.getfield 28, 3) := by decide +kernel
theorem dX4_isComplete_15 : decode cX4_isComplete 15 = .ok (.if_icmp .ne 7, 3) := by decide +kernel
theorem dX4_isComplete_18 : decode cX4_isComplete 18 = .ok (.iconst 1, 1) := by decide +kernel
theorem dX4_isComplete_19 : decode cX4_isComplete 19 = .ok (.goto 4, 3) := by decide +kernel
theorem dX4_isComplete_22 : decode cX4_isComplete 22 = .ok (.iconst 0, 1) := by decide +kernel
theorem dX4_isComplete_23 : decode cX4_isComplete 23 = .ok (.ireturn, 1) := by decide +kernel
