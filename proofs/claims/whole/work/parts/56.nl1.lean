set_option maxRecDepth 20000 in
theorem wsL_law_in0 : ∀ w ∈ wsL_law0, w ∈ lw_tbl := fun w h => (goodIn_p wsL_law0 [66, 69, 74, 80, 83, 86, 112, 118, 209, 842, 384, 388, 410, 940, 943, 947, 951, 954, 958, 936, 433, 289, 436, 442, 446, 450, 456, 460, 464, 469, 473, 478, 519, 523, 527, 531, 537, 534, 541, 544, 563, 569, 578, 582, 962, 965, 969, 973, 977, 981, 985, 989, 993, 997, 1001, 589, 594, 1005, 603, 606, 1009, 631, 1013, 638, 1017, 645, 1021, 652, 1025, 659, 1029, 666, 1033, 674, 286, 1037, 681, 1041, 688, 1045, 695, 265, 1049, 702, 1053, 261, 1057, 709, 713, 363, 366, 369, 373, 1061, 1065, 1069, 721, 1073, 728, 1077, 735, 1081, 742, 746, 750, 754, 759, 764, 770, 774, 779, 782, 789, 794, 798, 802, 807, 1085, 1089, 1093, 1097, 1101, 1105, 1109, 814, 1113, 823, 1117, 830, 1121, 269, 1125, 273, 1129, 837, 1133, 277, 282, 1137] (by decide +kernel) (by decide +kernel) w h).1
theorem wsL_law_x0 : ∀ w ∈ (vx_atS RX5 40 "java/lang/IllegalArgumentException" ["java/lang/RuntimeException", "java/lang/Exception"]).filter goodWord, w ∈ lw_tbl := by decide +kernel
theorem wsL_law_x1 : ∀ w ∈ (vx_atS RX5 53 "java/lang/IllegalStateException" ["java/lang/RuntimeException", "java/lang/Exception"]).filter goodWord, w ∈ lw_tbl := by decide +kernel
theorem wsL_law_x2 : ∀ w ∈ (vx_atS RX5 214 "java/lang/IndexOutOfBoundsException" ["java/lang/RuntimeException", "java/lang/Exception"]).filter goodWord, w ∈ lw_tbl := by decide +kernel
theorem wsL_law_x3 : ∀ w ∈ (vx_atS RX5 131 "java/util/NoSuchElementException" ["java/lang/RuntimeException", "java/lang/Exception"]).filter goodWord, w ∈ lw_tbl := by decide +kernel
theorem wsL_law_in : ∀ w ∈ wsL_law, w ∈ lw_tbl := fun w h => (List.mem_append.mp h).elim (fun h => (List.mem_append.mp h).elim (fun h => (List.mem_append.mp h).elim (fun h => (List.mem_append.mp h).elim (fun h => wsL_law_in0 w h) (fun h => wsL_law_x0 w h)) (fun h => wsL_law_x1 w h)) (fun h => wsL_law_x2 w h)) (fun h => wsL_law_x3 w h)
theorem inlX0 : ∀ w ∈ wsX00, w ∈ wsL_law := fun _ h => List.mem_append_left _ (List.mem_append_left _ (List.mem_append_left _ (List.mem_append_left _ (List.mem_append_left _ (List.mem_append_left _ (List.mem_append_left _ (List.mem_append_left _ (List.mem_append_left _ (List.mem_append_right _ h)))))))))
theorem inX0 : ∀ w ∈ wsX00, w ∈ lw_tbl := fun w h => wsL_law_in w (inlX0 w h)
theorem inlX1 : ∀ w ∈ wsX10, w ∈ wsL_law := fun _ h => List.mem_append_left _ (List.mem_append_left _ (List.mem_append_left _ (List.mem_append_left _ (List.mem_append_left _ (List.mem_append_left _ (List.mem_append_left _ (List.mem_append_left _ (List.mem_append_right _ h))))))))
theorem inX1 : ∀ w ∈ wsX10, w ∈ lw_tbl := fun w h => wsL_law_in w (inlX1 w h)
theorem inlX2 : ∀ w ∈ wsX20, w ∈ wsL_law := fun _ h => List.mem_append_left _ (List.mem_append_left _ (List.mem_append_left _ (List.mem_append_left _ (List.mem_append_left _ (List.mem_append_right _ h)))))
theorem inX2 : ∀ w ∈ wsX20, w ∈ lw_tbl := fun w h => wsL_law_in w (inlX2 w h)
theorem inlX3 : ∀ w ∈ wsX30, w ∈ wsL_law := fun _ h => List.mem_append_left _ (List.mem_append_left _ (List.mem_append_left _ (List.mem_append_left _ (List.mem_append_left _ (List.mem_append_left _ (List.mem_append_left _ (List.mem_append_left _ (List.mem_append_left _ (List.mem_append_left _ (List.mem_append_right _ h))))))))))
theorem inX3 : ∀ w ∈ wsX30, w ∈ lw_tbl := fun w h => wsL_law_in w (inlX3 w h)
theorem inlX4 : ∀ w ∈ wsX40, w ∈ wsL_law := fun _ h => List.mem_append_left _ (List.mem_append_left _ (List.mem_append_left _ (List.mem_append_left _ (List.mem_append_left _ (List.mem_append_left _ (List.mem_append_right _ h))))))
theorem inX4 : ∀ w ∈ wsX40, w ∈ lw_tbl := fun w h => wsL_law_in w (inlX4 w h)
theorem inlX5 : ∀ w ∈ wsX50, w ∈ wsL_law := fun _ h => List.mem_append_left _ (List.mem_append_left _ (List.mem_append_left _ (List.mem_append_left _ (List.mem_append_left _ (List.mem_append_left _ (List.mem_append_left _ (List.mem_append_left _ (List.mem_append_left _ (List.mem_append_left _ (List.mem_append_left _ (List.mem_append_left _ (List.mem_append_right _ h))))))))))))
theorem inX5 : ∀ w ∈ wsX50, w ∈ lw_tbl := fun w h => wsL_law_in w (inlX5 w h)
theorem inlX6 : ∀ w ∈ wsX60, w ∈ wsL_law := fun _ h => List.mem_append_left _ (List.mem_append_left _ (List.mem_append_left _ (List.mem_append_left _ (List.mem_append_left _ (List.mem_append_left _ (List.mem_append_left _ (List.mem_append_left _ (List.mem_append_left _ (List.mem_append_left _ (List.mem_append_left _ (List.mem_append_right _ h)))))))))))
theorem inX6 : ∀ w ∈ wsX60, w ∈ lw_tbl := fun w h => wsL_law_in w (inlX6 w h)
theorem inJx145de : ∀ w ∈ wsJx145de0, w ∈ lw_tbl := by decide +kernel
theorem inJx8e188 : ∀ w ∈ wsJx8e1880, w ∈ lw_tbl := by decide +kernel
theorem inJ6 : ∀ w ∈ wsJ60, w ∈ lw_tbl := by decide +kernel
theorem inJxab1ab : ∀ w ∈ wsJxab1ab0, w ∈ lw_tbl := by decide +kernel
theorem inJ9 : ∀ w ∈ wsJ90, w ∈ lw_tbl := by decide +kernel
theorem inJ0 : ∀ w ∈ wsJ00, w ∈ lw_tbl := by decide +kernel
theorem inJ10 : ∀ w ∈ wsJ100, w ∈ lw_tbl := by decide +kernel
theorem inJxa1e45 : ∀ w ∈ wsJxa1e450, w ∈ lw_tbl := by decide +kernel
theorem inJxc12de : ∀ w ∈ wsJxc12de0, w ∈ lw_tbl := by decide +kernel
theorem inlJx4a65c : ∀ w ∈ wsJx4a65c0, w ∈ wsL_law := fun _ h => List.mem_append_left _ (List.mem_append_left _ (List.mem_append_left _ (List.mem_append_left _ (List.mem_append_left _ (List.mem_append_left _ (List.mem_append_left _ (List.mem_append_right _ h)))))))
theorem inJx4a65c : ∀ w ∈ wsJx4a65c0, w ∈ lw_tbl := fun w h => wsL_law_in w (inlJx4a65c w h)
theorem inJ7 : ∀ w ∈ wsJ70, w ∈ lw_tbl := by decide +kernel
theorem inJx5ef63 : ∀ w ∈ wsJx5ef630, w ∈ lw_tbl := by decide +kernel
theorem inJxbd725 : ∀ w ∈ wsJxbd7250, w ∈ lw_tbl := by decide +kernel
theorem inJ15 : ∀ w ∈ wsJ150, w ∈ lw_tbl := by decide +kernel
theorem inJxf0a74 : ∀ w ∈ wsJxf0a740, w ∈ lw_tbl := by decide +kernel
theorem inJxa66e6 : ∀ w ∈ wsJxa66e60, w ∈ lw_tbl := by decide +kernel
theorem inJ8 : ∀ w ∈ wsJ80, w ∈ lw_tbl := by decide +kernel
theorem inJ3 : ∀ w ∈ wsJ30, w ∈ lw_tbl := by decide +kernel
set_option maxRecDepth 20000 in
theorem ggL_law_X5_init : GoodIn wsL_law wsX5_init := goodIn_r _ [9, 10, 11, 12, 13, 14, 15, 16, 17, 18, 19, 20, 21, 22, 23, 24, 25, 26, 27, 28, 29, 30, 31, 32, 33, 34, 35, 36, 37, 38, 39, 40, 41, 42, 43, 44, 45, 46, 47, 48, 49, 50, 51, 52, 53, 54, 55, 56, 57, 58, 59, 60, 61, 62, 63, 64, 65, 66, 67, 68, 69, 70, 71, 72, 73, 74, 75, 76, 77, 78, 79, 80, 81, 82, 83, 84, 85, 86, 87, 838, 806, 807, 808, 839, 840, 841, 842, 843, 844, 845, 846, 847, 848, 849, 850, 851, 852, 853, 854, 855, 856, 857, 858, 859, 860, 861, 862, 863, 864, 865, 866, 867, 868, 869, 870, 871] (by decide +kernel) (by decide +kernel)
set_option maxRecDepth 20000 in
theorem gL_law_X5_init : GoodIn wsL_law (wsX5_init) := ggL_law_X5_init
set_option maxRecDepth 20000 in
theorem ggL_law_X6_init : GoodIn wsL_law wsX6_init := goodIn_r _ [90, 91, 11, 12, 55, 92, 93, 94, 95, 96, 97, 98, 99, 100, 101, 102, 103, 104, 105, 106, 107, 108, 109, 110, 111, 112, 113, 114, 115, 116, 809, 810, 811, 812, 813, 814, 815, 816, 817, 818, 819, 820, 821, 822, 823, 824, 825, 826, 827, 828, 829, 830, 831, 832, 833, 834, 835, 836, 837] (by decide +kernel) (by decide +kernel)
set_option maxRecDepth 20000 in
theorem gL_law_X6_init : GoodIn wsL_law (wsX6_init) := ggL_law_X6_init
set_option maxRecDepth 20000 in
theorem ggL_law_L_setRoom : GoodIn wsL_law wsL_setRoom := goodIn_ca (goodIn_ca (goodIn_ca (goodIn_r _ [120, 121, 122, 123, 124, 125, 126, 2, 127, 128, 129, 130, 131, 132, 133, 134, 135, 136, 137, 138, 139, 18, 140, 141, 142, 20, 143, 60, 61, 54, 144, 839, 840, 841, 842, 843, 844, 845, 846, 847, 848, 849, 850, 851, 852, 806, 807, 808, 865, 866, 867, 868, 869, 870, 871] (by decide +kernel) (by decide +kernel)) (goodIn_sub (fun _ h => List.mem_append_left _ (List.mem_append_left _ (List.mem_append_left _ (List.mem_append_right _ h)))) (by decide +kernel))) (goodIn_sub (fun _ h => List.mem_append_left _ (List.mem_append_left _ (List.mem_append_right _ h))) (by decide +kernel))) (goodIn_sub (fun _ h => List.mem_append_left _ (List.mem_append_right _ h)) (by decide +kernel))
set_option maxRecDepth 20000 in
theorem gL_law_L_setRoom : GoodIn wsL_law (va_wsS RL 97 yL_setRoom wsL_setRoom) := goodIn_app (goodIn_of _ (by decide +kernel)) ggL_law_L_setRoom
set_option maxRecDepth 20000 in
theorem ggL_law_X6_setRoom : GoodIn wsL_law wsX6_setRoom := goodIn_r _ [148, 149, 101, 92, 93, 150, 151, 5, 152, 153, 154, 155, 156, 157, 158, 159, 160, 94, 161, 162, 163, 164, 165, 166, 167, 97, 809, 810, 811, 812, 813, 814, 815, 816, 817, 818, 819, 820, 821, 822, 823, 824, 825, 826, 827, 828, 829, 830, 831, 832, 833, 834, 835, 836, 837] (by decide +kernel) (by decide +kernel)
set_option maxRecDepth 20000 in
theorem gL_law_X6_setRoom : GoodIn wsL_law (wsV RL 102 RX6 yX6_setRoom wsX6_setRoom) := goodIn_app (goodIn_of _ (by decide +kernel)) ggL_law_X6_setRoom
set_option maxRecDepth 20000 in
theorem ggL_law_X6_thrown : GoodIn wsL_law wsX6_thrown := goodIn_r _ [171, 149, 809, 810, 811, 812, 813, 814, 815, 816, 817, 818, 819, 820, 821, 822, 823, 824, 825, 826, 827, 828, 829, 830, 831, 832, 833, 834, 835, 836, 837] (by decide +kernel) (by decide +kernel)
set_option maxRecDepth 20000 in
theorem gL_law_X6_thrown : GoodIn wsL_law (wsV RL 103 RX6 yX6_thrown wsX6_thrown) := goodIn_app (goodIn_of _ (by decide +kernel)) ggL_law_X6_thrown
set_option maxRecDepth 20000 in
theorem ggL_law_L_read : GoodIn wsL_law wsL_read := goodIn_ca (goodIn_ca (goodIn_r _ [174, 121, 123, 175, 176, 177, 2, 178, 179, 180, 134, 135, 136, 137, 138, 139, 18, 181, 182, 183, 184, 185, 186, 130, 131, 187, 188, 189, 190, 191, 192, 193, 20, 194, 60, 62, 195, 196, 197, 198, 56, 199, 200, 201, 202, 61, 63, 203, 204, 205, 206, 207, 59, 208, 209, 210, 211, 212, 213, 214, 215, 66, 54, 68, 67, 216, 217, 218, 219, 220, 58, 57, 221, 222, 223, 224, 15, 225, 226, 227, 228, 31, 229, 230, 231, 232, 11, 12, 233, 234, 235, 236, 237, 238, 239, 240, 241, 242, 30, 243, 244, 245, 36, 246, 247, 248, 249, 250, 251, 252, 253, 254, 255, 256, 257, 258, 35, 259, 260, 261, 262, 263, 264, 265, 266, 267, 268, 269, 270, 271, 272, 273, 274, 275, 276, 277, 278, 279, 280, 281, 282, 283, 284, 285, 286, 287, 288, 289, 290, 291, 292, 293, 294, 295, 296, 297, 298, 299, 53, 300, 72, 301, 302, 303, 304, 839, 840, 841, 842, 843, 844, 845, 846, 847, 848, 849, 850, 851, 852, 806, 807, 808, 865, 866, 867, 868, 869, 870, 871, 872, 873, 874, 875, 876, 877, 878, 838, 862, 863, 864] (by decide +kernel) (by decide +kernel)) (goodIn_sub (fun _ h => List.mem_append_left _ (List.mem_append_right _ h)) (by decide +kernel))) (goodIn_sub (fun _ h => List.mem_append_left _ (List.mem_append_left _ (List.mem_append_right _ h))) (by decide +kernel))
set_option maxRecDepth 20000 in
theorem gL_law_L_read : GoodIn wsL_law (va_wsS RL 107 yL_read wsL_read) := goodIn_app (goodIn_of _ (by decide +kernel)) ggL_law_L_read
set_option maxRecDepth 20000 in
theorem ggL_law_X6_read : GoodIn wsL_law wsX6_read := goodIn_r _ [308, 149, 101, 97, 94, 98, 95, 150, 151, 5, 152, 309, 310, 311, 312, 313, 314, 315, 161, 162, 163, 316, 317, 318, 319, 320, 96, 321, 322, 323, 324, 325, 326, 327, 328, 92, 157, 158, 159, 160, 329, 330, 331, 332, 333, 334, 335, 336, 93, 164, 165, 166, 167, 337, 338, 339, 340, 99, 103, 104, 105, 106, 107, 108, 341, 342, 343, 344, 345, 346, 347, 348, 349, 115, 809, 810, 811, 812, 813, 814, 815, 816, 817, 818, 819, 820, 821, 822, 823, 824, 825, 826, 827, 828, 829, 830, 831, 832, 833, 834, 835, 836, 837] (by decide +kernel) (by decide +kernel)
set_option maxRecDepth 20000 in
theorem gL_law_X6_read : GoodIn wsL_law (wsV RL 110 RX6 yX6_read wsX6_read) := goodIn_app (goodIn_of _ (by decide +kernel)) ggL_law_X6_read
set_option maxRecDepth 20000 in
theorem ggL_law_L_write : GoodIn wsL_law wsL_write := goodIn_ca (goodIn_ca (goodIn_ca (goodIn_r _ [352, 121, 122, 123, 353, 354, 355, 2, 356, 128, 129, 357, 179, 134, 135, 136, 137, 138, 139, 18, 181, 182, 183, 184, 185, 186, 130, 131, 187, 188, 189, 190, 191, 192, 193, 20, 194, 60, 62, 195, 196, 197, 198, 56, 199, 200, 201, 202, 61, 63, 358, 359, 360, 361, 57, 362, 205, 206, 207, 59, 208, 209, 210, 211, 212, 213, 214, 215, 66, 54, 68, 67, 216, 217, 218, 219, 220, 58, 221, 222, 223, 224, 15, 225, 226, 227, 228, 31, 229, 230, 231, 232, 11, 12, 233, 234, 235, 236, 237, 238, 239, 240, 241, 242, 30, 243, 244, 245, 36, 246, 247, 248, 249, 250, 251, 252, 253, 254, 255, 256, 257, 258, 35, 259, 260, 261, 262, 263, 264, 265, 266, 267, 268, 269, 270, 271, 272, 273, 274, 275, 276, 277, 278, 279, 280, 281, 282, 283, 284, 285, 286, 287, 288, 289, 290, 291, 292, 293, 294, 295, 296, 297, 298, 299, 53, 300, 72, 301, 302, 303, 304, 839, 840, 841, 842, 843, 844, 845, 846, 847, 848, 849, 850, 851, 852, 806, 807, 808, 865, 866, 867, 868, 869, 870, 871, 872, 873, 874, 875, 876, 877, 878, 838, 862, 863, 864] (by decide +kernel) (by decide +kernel)) (goodIn_sub (fun _ h => List.mem_append_left _ (List.mem_append_left _ (List.mem_append_left _ (List.mem_append_right _ h)))) (by decide +kernel))) (goodIn_sub (fun _ h => List.mem_append_left _ (List.mem_append_right _ h)) (by decide +kernel))) (goodIn_sub (fun _ h => List.mem_append_left _ (List.mem_append_left _ (List.mem_append_right _ h))) (by decide +kernel))
set_option maxRecDepth 20000 in
theorem gL_law_L_write : GoodIn wsL_law (va_wsS RL 111 yL_write wsL_write) := goodIn_app (goodIn_of _ (by decide +kernel)) ggL_law_L_write
set_option maxRecDepth 20000 in
theorem ggL_law_X6_write : GoodIn wsL_law wsX6_write := goodIn_r _ [366, 149, 101, 97, 94, 98, 95, 150, 151, 5, 152, 309, 310, 311, 153, 154, 155, 156, 161, 162, 163, 316, 317, 318, 319, 320, 96, 321, 322, 323, 324, 325, 326, 327, 328, 92, 157, 158, 159, 160, 329, 330, 331, 332, 333, 334, 335, 336, 93, 164, 165, 166, 167, 337, 338, 339, 340, 99, 103, 104, 105, 106, 107, 108, 341, 342, 343, 344, 345, 346, 347, 348, 349, 115, 809, 810, 811, 812, 813, 814, 815, 816, 817, 818, 819, 820, 821, 822, 823, 824, 825, 826, 827, 828, 829, 830, 831, 832, 833, 834, 835, 836, 837] (by decide +kernel) (by decide +kernel)
set_option maxRecDepth 20000 in
theorem gL_law_X6_write : GoodIn wsL_law (wsV RL 113 RX6 yX6_write wsX6_write) := goodIn_app (goodIn_of _ (by decide +kernel)) ggL_law_X6_write
set_option maxRecDepth 20000 in
theorem ggL_law_L_evict : GoodIn wsL_law wsL_evict := goodIn_ca (goodIn_ca (goodIn_ca (goodIn_r _ [369, 121, 370, 123, 371, 372, 373, 2, 374, 130, 131, 187, 188, 357, 134, 135, 136, 137, 138, 139, 18, 181, 182, 183, 375, 376, 377, 378, 379, 203, 196, 197, 20, 198, 56, 199, 200, 201, 202, 61, 63, 380, 218, 219, 220, 58, 57, 68, 67, 221, 222, 223, 224, 15, 225, 226, 227, 228, 31, 229, 230, 231, 232, 11, 12, 233, 234, 235, 236, 237, 238, 239, 240, 241, 242, 30, 243, 244, 245, 36, 246, 247, 248, 249, 250, 251, 252, 253, 254, 255, 256, 257, 258, 35, 259, 260, 261, 262, 263, 264, 265, 266, 267, 268, 269, 270, 271, 272, 273, 274, 275, 276, 277, 278, 279, 280, 281, 282, 283, 284, 285, 286, 287, 288, 289, 290, 291, 292, 293, 294, 295, 296, 208, 209, 210, 211, 60, 59, 839, 840, 841, 842, 843, 844, 845, 846, 847, 848, 849, 850, 851, 852, 865, 866, 867, 868, 869, 870, 871, 806, 807, 808, 872, 873, 874, 875, 876, 877, 878, 838, 862, 863, 864] (by decide +kernel) (by decide +kernel)) (goodIn_sub (fun _ h => List.mem_append_left _ (List.mem_append_left _ (List.mem_append_right _ h))) (by decide +kernel))) (goodIn_sub (fun _ h => List.mem_append_left _ (List.mem_append_right _ h)) (by decide +kernel))) (goodIn_sub (fun _ h => List.mem_append_right _ h) (by decide +kernel))
set_option maxRecDepth 20000 in
theorem gL_law_L_evict : GoodIn wsL_law (va_wsS RL 114 yL_evict wsL_evict) := goodIn_app (goodIn_of _ (by decide +kernel)) ggL_law_L_evict
set_option maxRecDepth 20000 in
theorem ggL_law_X6_evict : GoodIn wsL_law wsX6_evict := goodIn_r _ [384, 149, 94, 101, 150, 151, 5, 152, 309, 310, 311, 312, 313, 314, 315, 161, 162, 163, 333, 334, 335, 336, 93, 164, 165, 166, 167, 97, 341, 342, 343, 344, 95, 345, 346, 347, 348, 349, 115, 809, 810, 811, 812, 813, 814, 815, 816, 817, 818, 819, 820, 821, 822, 823, 824, 825, 826, 827, 828, 829, 830, 831, 832, 833, 834, 835, 836, 837] (by decide +kernel) (by decide +kernel)
set_option maxRecDepth 20000 in
theorem gL_law_X6_evict : GoodIn wsL_law (wsV RL 116 RX6 yX6_evict wsX6_evict) := goodIn_app (goodIn_of _ (by decide +kernel)) ggL_law_X6_evict
set_option maxRecDepth 20000 in
theorem ggL_law_L_state : GoodIn wsL_law wsL_state := goodIn_ca (goodIn_r _ [387, 121, 388, 389, 390, 2, 391, 357, 134, 135, 136, 137, 138, 139, 18, 181, 182, 183, 839, 840, 841, 842, 843, 844, 845, 846, 847, 848, 849, 850, 851, 852, 806, 807, 808] (by decide +kernel) (by decide +kernel)) (goodIn_sub (fun _ h => List.mem_append_left _ (List.mem_append_right _ h)) (by decide +kernel))
set_option maxRecDepth 20000 in
theorem gL_law_L_state : GoodIn wsL_law (va_wsS RL 117 yL_state wsL_state) := goodIn_app (goodIn_of _ (by decide +kernel)) ggL_law_L_state
set_option maxRecDepth 20000 in
theorem ggL_law_X6_state : GoodIn wsL_law wsX6_state := goodIn_r _ [395, 149, 94, 150, 151, 5, 152, 309, 310, 311, 161, 162, 163, 312, 313, 314, 315, 809, 810, 811, 812, 813, 814, 815, 816, 817, 818, 819, 820, 821, 822, 823, 824, 825, 826, 827, 828, 829, 830, 831, 832, 833, 834, 835, 836, 837] (by decide +kernel) (by decide +kernel)
set_option maxRecDepth 20000 in
theorem gL_law_X6_state : GoodIn wsL_law (wsV RL 119 RX6 yX6_state wsX6_state) := goodIn_app (goodIn_of _ (by decide +kernel)) ggL_law_X6_state
set_option maxRecDepth 20000 in
theorem ggL_law_L_value : GoodIn wsL_law wsL_value := goodIn_ca (goodIn_ca (goodIn_r _ [398, 121, 370, 399, 400, 401, 2, 402, 180, 134, 135, 136, 137, 138, 139, 18, 181, 182, 183, 375, 376, 377, 378, 379, 203, 196, 197, 20, 198, 56, 839, 840, 841, 842, 843, 844, 845, 846, 847, 848, 849, 850, 851, 852, 806, 807, 808] (by decide +kernel) (by decide +kernel)) (goodIn_sub (fun _ h => List.mem_append_left _ (List.mem_append_right _ h)) (by decide +kernel))) (goodIn_sub (fun _ h => List.mem_append_right _ h) (by decide +kernel))
set_option maxRecDepth 20000 in
theorem gL_law_L_value : GoodIn wsL_law (va_wsS RL 120 yL_value wsL_value) := goodIn_app (goodIn_of _ (by decide +kernel)) ggL_law_L_value
set_option maxRecDepth 20000 in
theorem ggL_law_X6_value : GoodIn wsL_law wsX6_value := goodIn_r _ [406, 149, 94, 95, 150, 151, 5, 152, 309, 310, 311, 312, 313, 314, 315, 161, 162, 163, 809, 810, 811, 812, 813, 814, 815, 816, 817, 818, 819, 820, 821, 822, 823, 824, 825, 826, 827, 828, 829, 830, 831, 832, 833, 834, 835, 836, 837] (by decide +kernel) (by decide +kernel)
set_option maxRecDepth 20000 in
theorem gL_law_X6_value : GoodIn wsL_law (wsV RL 122 RX6 yX6_value wsX6_value) := goodIn_app (goodIn_of _ (by decide +kernel)) ggL_law_X6_value
set_option maxRecDepth 20000 in
theorem ggL_law_L_victimValue : GoodIn wsL_law wsL_victimValue := goodIn_ca (goodIn_r _ [409, 121, 410, 411, 412, 2, 413, 189, 134, 135, 136, 137, 138, 139, 18, 181, 182, 183, 839, 840, 841, 842, 843, 844, 845, 846, 847, 848, 849, 850, 851, 852, 806, 807, 808] (by decide +kernel) (by decide +kernel)) (goodIn_sub (fun _ h => List.mem_append_left _ (List.mem_append_right _ h)) (by decide +kernel))
set_option maxRecDepth 20000 in
theorem gL_law_L_victimValue : GoodIn wsL_law (va_wsS RL 123 yL_victimValue wsL_victimValue) := goodIn_app (goodIn_of _ (by decide +kernel)) ggL_law_L_victimValue
set_option maxRecDepth 20000 in
theorem ggL_law_X6_victimValue : GoodIn wsL_law wsX6_victimValue := goodIn_r _ [417, 149, 97, 150, 151, 5, 152, 309, 310, 311, 161, 162, 163, 312, 313, 314, 315, 809, 810, 811, 812, 813, 814, 815, 816, 817, 818, 819, 820, 821, 822, 823, 824, 825, 826, 827, 828, 829, 830, 831, 832, 833, 834, 835, 836, 837] (by decide +kernel) (by decide +kernel)
set_option maxRecDepth 20000 in
theorem gL_law_X6_victimValue : GoodIn wsL_law (wsV RL 125 RX6 yX6_victimValue wsX6_victimValue) := goodIn_app (goodIn_of _ (by decide +kernel)) ggL_law_X6_victimValue
set_option maxRecDepth 20000 in
