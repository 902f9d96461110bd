set_option maxRecDepth 20000 in
theorem ggX9_init_X2_init : GoodIn wsX9_init wsX2_init := goodIn_r _ [28, 29, 2, 3, 30, 31, 32, 33, 34, 9, 10, 35, 36, 37, 38, 39, 40, 41, 42, 43, 44, 45, 46, 47, 48, 49, 50, 51, 52, 53, 54, 55, 56, 57, 58, 59, 60, 61, 62, 63, 64, 65, 66, 67, 68, 69, 70, 71, 72, 73, 74, 320, 321, 322, 323, 324, 299, 300, 301, 302, 309, 310, 311, 312, 325, 326, 327, 328, 329, 330, 331, 332, 333, 334, 335, 336, 337, 338, 339, 340, 341] (by decide +kernel) (by decide +kernel)
set_option maxRecDepth 20000 in
theorem gX9_init_X2_init_n11 : GoodIn wsX9_init (wsX2_init) := ggX9_init_X2_init
set_option maxRecDepth 20000 in
theorem ggX9_init_X3_init : GoodIn wsX9_init wsX3_init := goodIn_r _ [42, 43, 2, 3, 44, 45, 46, 47, 48, 49, 50, 51, 52, 53, 54, 55, 56, 57, 58, 39, 59, 60, 61, 62, 63, 64, 65, 66, 67, 68, 69, 70, 71, 72, 73, 74, 325, 326, 327, 328, 329, 309, 310, 311, 312, 330, 331, 332, 333, 334, 335, 336, 337, 338, 339, 340, 341] (by decide +kernel) (by decide +kernel)
set_option maxRecDepth 20000 in
theorem gX9_init_X3_init_n18 : GoodIn wsX9_init (wsX3_init) := ggX9_init_X3_init
set_option maxRecDepth 20000 in
theorem ggX9_init_X0_init : GoodIn wsX9_init wsX0_init := goodIn_r _ [77, 78, 2, 3, 79, 80, 9, 10, 41, 42, 43, 44, 45, 46, 47, 48, 49, 50, 51, 52, 53, 54, 55, 56, 57, 58, 39, 59, 60, 61, 62, 63, 64, 65, 66, 67, 68, 69, 70, 71, 72, 73, 74, 313, 314, 315, 309, 310, 311, 312, 325, 326, 327, 328, 329, 330, 331, 332, 333, 334, 335, 336, 337, 338, 339, 340, 341] (by decide +kernel) (by decide +kernel)
set_option maxRecDepth 20000 in
theorem gX9_init_X0_init : GoodIn wsX9_init (wsX0_init) := ggX9_init_X0_init
set_option maxRecDepth 20000 in
theorem ggX9_init_X7_init : GoodIn wsX9_init wsX7_init := goodIn_r _ [83, 84, 2, 3, 85, 86, 87, 88, 9, 10, 41, 42, 43, 44, 45, 46, 47, 48, 49, 50, 51, 52, 53, 54, 55, 56, 57, 58, 39, 59, 60, 61, 62, 63, 64, 65, 66, 67, 68, 69, 70, 71, 72, 73, 74, 316, 317, 309, 310, 311, 312, 325, 326, 327, 328, 329, 330, 331, 332, 333, 334, 335, 336, 337, 338, 339, 340, 341] (by decide +kernel) (by decide +kernel)
set_option maxRecDepth 20000 in
theorem gX9_init_X7_init : GoodIn wsX9_init (wsX7_init) := ggX9_init_X7_init
set_option maxRecDepth 20000 in
theorem ggX9_init_X4_init : GoodIn wsX9_init wsX4_init := goodIn_r _ [90, 91, 2, 3, 39, 92, 318, 319] (by decide +kernel) (by decide +kernel)
set_option maxRecDepth 20000 in
theorem gX9_init_X4_init_n42 : GoodIn wsX9_init (wsX4_init) := ggX9_init_X4_init
set_option maxRecDepth 20000 in
theorem ggX9_init_J0_length_8abf5 : GoodIn wsX9_init wsJ0_length_8abf5 := goodIn_r _ [97, 98, 99, 100, 101, 96, 102, 103, 104, 342, 343, 344, 345] (by decide +kernel) (by decide +kernel)
set_option maxRecDepth 20000 in
theorem gX9_init_J0_length_8abf5 : GoodIn wsX9_init (wsV RX9 49 RJ0 yJ0_length_8abf5 wsJ0_length_8abf5) := goodIn_app (goodIn_of _ (by decide +kernel)) ggX9_init_J0_length_8abf5
set_option maxRecDepth 20000 in
theorem ggX9_init_J0_charAt_5068e : GoodIn wsX9_init wsJ0_charAt_5068e := goodIn_r _ [108, 98, 109, 110, 111, 96, 112, 103, 104, 113, 114, 115, 116, 117, 118, 119, 120, 121, 122, 123, 124, 125, 126, 127, 128, 129, 130, 131, 132, 133, 134, 135, 136, 137, 138, 139, 140, 141, 342, 343, 344, 345] (by decide +kernel) (by decide +kernel)
set_option maxRecDepth 20000 in
theorem gX9_init_J0_charAt_5068e : GoodIn wsX9_init (wsV RX9 59 RJ0 yJ0_charAt_5068e wsJ0_charAt_5068e) := goodIn_app (goodIn_of _ (by decide +kernel)) ggX9_init_J0_charAt_5068e
set_option maxRecDepth 20000 in
theorem ggX9_init_X1_put : GoodIn wsX9_init wsX1_put := goodIn_r _ [145, 146, 40, 320, 321, 322, 323, 324] (by decide +kernel) (by decide +kernel)
set_option maxRecDepth 20000 in
theorem gX9_init_X1_put : GoodIn wsX9_init (wsV RX9 63 RX1 yX1_put wsX1_put) := goodIn_app (goodIn_of _ (by decide +kernel)) ggX9_init_X1_put
set_option maxRecDepth 20000 in
theorem ggX9_init_X2_read : GoodIn wsX9_init wsX2_read := goodIn_r _ [150, 151, 152, 33, 35, 153, 154, 155, 156, 157, 158, 159, 160, 32, 161, 162, 163, 164, 165, 166, 167, 146, 168, 169, 170, 171, 172, 40, 173, 174, 175, 176, 177, 178, 179, 180, 181, 182, 183, 184, 185, 186, 187, 188, 189, 190, 191, 192, 10, 193, 194, 47, 195, 51, 196, 197, 55, 198, 199, 200, 201, 6, 202, 203, 204, 205, 206, 207, 208, 209, 210, 211, 212, 213, 214, 94, 95, 96, 97, 98, 99, 100, 101, 102, 103, 104, 215, 106, 107, 108, 109, 110, 111, 112, 113, 114, 115, 116, 117, 118, 119, 120, 121, 122, 123, 124, 125, 126, 127, 128, 129, 130, 131, 132, 133, 134, 135, 136, 137, 138, 139, 140, 141, 216, 217, 218, 219, 220, 221, 222, 223, 224, 225, 226, 227, 228, 229, 230, 231, 232, 233, 234, 235, 236, 237, 238, 239, 240, 46, 241, 242, 59, 243, 244, 245, 246, 247, 248, 249, 50, 250, 251, 63, 64, 252, 253, 254, 255, 256, 257, 258, 259, 260, 261, 262, 263, 264, 265, 266, 54, 267, 268, 72, 68, 69, 269, 270, 271, 272, 70, 71, 73, 74, 299, 300, 301, 302, 309, 310, 311, 312, 320, 321, 322, 323, 324, 325, 326, 327, 328, 329, 330, 331, 332, 333, 334, 335, 336, 337, 338, 339, 340, 341, 342, 343, 344, 345] (by decide +kernel) (by decide +kernel)
set_option maxRecDepth 20000 in
theorem gX9_init_X2_read : GoodIn wsX9_init (wsV RX9 69 RX2 yX2_read wsX2_read) := goodIn_app (goodIn_of _ (by decide +kernel)) ggX9_init_X2_read
set_option maxRecDepth 20000 in
theorem ggX9_init_X3_copyFrom : GoodIn wsX9_init wsX3_copyFrom := goodIn_r _ [276, 194, 47, 51, 55, 277, 278, 279, 46, 280, 281, 282, 283, 242, 59, 284, 285, 286, 287, 288, 289, 290, 50, 291, 251, 292, 63, 293, 64, 294, 295, 296, 54, 297, 268, 68, 298, 69, 70, 71, 72, 73, 74, 309, 310, 311, 312, 325, 326, 327, 328, 329, 330, 331, 332, 333, 334, 335, 336, 337, 338, 339, 340, 341] (by decide +kernel) (by decide +kernel)
set_option maxRecDepth 20000 in
theorem gX9_init_X3_copyFrom : GoodIn wsX9_init (wsV RX9 75 RX3 yX3_copyFrom wsX3_copyFrom) := goodIn_app (goodIn_of _ (by decide +kernel)) ggX9_init_X3_copyFrom
theorem dX9_init_0 : decode cX9_init 0 = .ok (.aload_n 0, 1) := by decide +kernel
theorem dX9_init_1 : decode cX9_init 1 = .ok (.invokespecial 3, 3) := by decide +kernel
theorem dX9_init_4 : decode cX9_init 4 = .ok (.aload_n 0, 1) := by decide +kernel
theorem dX9_init_5 : decode cX9_init 5 = .ok (.new 9, 3) := by decide +kernel
theorem dX9_init_8 : decode cX9_init 8 = .ok (.dup, 1) := by decide +kernel
theorem dX9_init_9 : decode cX9_init 9 = .ok (.invokespecial 11, 3) := by decide +kernel
theorem dX9_init_12 : decode cX9_init 12 = .ok (.putfield 12, 3) := by decide +kernel
theorem dX9_init_15 : decode cX9_init 15 = .ok (.aload_n 0, 1) := by decide +kernel
theorem dX9_init_16 : decode cX9_init 16 = .ok (.new 16, 3) := by decide +kernel
theorem dX9_init_19 : decode cX9_init 19 = .ok (.dup, 1) := by decide +kernel
theorem dX9_init_20 : decode cX9_init 20 = .ok (.invokespecial 18, 3) := by decide +kernel
theorem dX9_init_23 : decode cX9_init 23 = .ok (.putfield 19, 3) := by decide +kernel
theorem dX9_init_26 : decode cX9_init 26 = .ok (.aload_n 0, 1) := by decide +kernel
theorem dX9_init_27 : decode cX9_init 27 = .ok (.new 16, 3) := by decide +kernel
theorem dX9_init_30 : decode cX9_init 30 = .ok (.dup, 1) := by decide +kernel
theorem dX9_init_31 : decode cX9_init 31 = .ok (.invokespecial 18, 3) := by decide +kernel
theorem dX9_init_34 : decode cX9_init 34 = .ok (.putfield 23, 3) := by decide +kernel
theorem dX9_init_37 : decode cX9_init 37 = .ok (.aload_n 0, 1) := by decide +kernel
theorem dX9_init_38 : decode cX9_init 38 = .ok (.new 26, 3) := by decide +kernel
theorem dX9_init_41 : decode cX9_init 41 = .ok (.dup, 1) := by decide +kernel
theorem dX9_init_42 : decode cX9_init 42 = .ok (.invokespecial 28, 3) := by decide +kernel
theorem dX9_init_45 : decode cX9_init 45 = .ok (.putfield 29, 3) := by decide +kernel
theorem dX9_init_48 : decode cX9_init 48 = .ok (.aload_n 0, 1) := by decide +kernel
theorem dX9_init_49 : decode cX9_init 49 = .ok (.new 33, 3) := by decide +kernel
theorem dX9_init_52 : decode cX9_init 52 = .ok (.dup, 1) := by decide +kernel
theorem dX9_init_53 : decode cX9_init 53 = .ok (.invokespecial 35, 3) := by decide +kernel
theorem dX9_init_56 : decode cX9_init 56 = .ok (.putfield 36, 3) := by decide +kernel
theorem dX9_init_59 : decode cX9_init 59 = .ok (.aload_n 0, 1) := by decide +kernel
theorem dX9_init_60 : decode cX9_init 60 = .ok (.new 40, 3) := by decide +kernel
theorem dX9_init_63 : decode cX9_init 63 = .ok (.dup, 1) := by decide +kernel
theorem dX9_init_64 : decode cX9_init 64 = .ok (.invokespecial 42, 3) := by decide +kernel
theorem dX9_init_67 : decode cX9_init 67 = .ok (.putfield 43, 3) := by decide +kernel
theorem dX9_init_70 : decode cX9_init 70 = .ok (.iconst 0, 1) := by decide +kernel
theorem dX9_init_71 : decode cX9_init 71 = .ok (.istore_n 1, 1) := by decide +kernel
theorem dX9_init_72 : decode cX9_init 72 = .ok (.iload_n 1, 1) := by decide +kernel
theorem dX9_init_73 : decode cX9_init 73 = .ok (.ldc 47, 2) := by decide +kernel
theorem dX9_init_75 : decode cX9_init 75 = .ok (.invokevirtual 49, 3) := by decide +kernel
theorem dX9_init_78 : decode cX9_init 78 = .ok (.if_icmp .ge 25, 3) := by decide +kernel
theorem dX9_init_81 : decode cX9_init 81 = .ok (.aload_n 0, 1) := by decide +kernel
theorem dX9_init_82 : decode cX9_init 82 = .ok (.getfield 12, 3) := by decide +kernel
theorem dX9_init_85 : decode cX9_init 85 = .ok (.getfield 55, 3) := by decide +kernel
theorem dX9_init_88 : decode cX9_init 88 = .ok (.ldc 47, 2) := by decide +kernel
theorem dX9_init_90 : decode cX9_init 90 = .ok (.iload_n 1, 1) := by decide +kernel
theorem dX9_init_91 : decode cX9_init 91 = .ok (.invokevirtual 59, 3) := by decide +kernel
theorem dX9_init_94 : decode cX9_init 94 = .ok (.invokevirtual 63, 3) := by decide +kernel
theorem dX9_init_97 : decode cX9_init 97 = .ok (.iinc 1 1, 3) := by decide +kernel
theorem dX9_init_100 : decode cX9_init 100 = .ok (.goto (-28), 3) := by decide +kernel
theorem dX9_init_103 : decode cX9_init 103 = .ok (.aload_n 0, 1) := by decide +kernel
theorem dX9_init_104 : decode cX9_init 104 = .ok (.getfield 12, 3) := by decide +kernel
theorem dX9_init_107 : decode cX9_init 107 = .ok (.invokevirtual 69, 3) := by decide +kernel
theorem dX9_init_110 : decode cX9_init 110 = .ok (.aload_n 0, 1) := by decide +kernel
theorem dX9_init_111 : decode cX9_init 111 = .ok (.getfield 19, 3) := by decide +kernel
theorem dX9_init_114 : decode cX9_init 114 = .ok (.aload_n 0, 1) := by decide +kernel
theorem dX9_init_115 : decode cX9_init 115 = .ok (.getfield 12, 3) := by decide +kernel
theorem dX9_init_118 : decode cX9_init 118 = .ok (.getfield 72, 3) := by decide +kernel
theorem dX9_init_121 : decode cX9_init 121 = .ok (.invokevirtual 75, 3) := by decide +kernel
theorem dX9_init_124 : decode cX9_init 124 = .ok (.return_, 1) := by decide +kernel
set_option maxRecDepth 20000 in
theorem ggX9_append_X1_putFour : GoodIn wsX9_append wsX1_putFour := goodIn_r _ [10, 11, 12, 13, 9, 14, 15, 16, 27, 28, 29, 30, 31] (by decide +kernel) (by decide +kernel)
set_option maxRecDepth 20000 in
theorem gX9_append_X1_putFour : GoodIn wsX9_append (wsV RX9 89 RX1 yX1_putFour wsX1_putFour) := goodIn_app (goodIn_of _ (by decide +kernel)) ggX9_append_X1_putFour
theorem dX9_append_0 : decode cX9_append 0 = .ok (.aload_n 0, 1) := by decide +kernel
theorem dX9_append_1 : decode cX9_append 1 = .ok (.getfield 12, 3) := by decide +kernel
theorem dX9_append_4 : decode cX9_append 4 = .ok (.getfield 55, 3) := by decide +kernel
theorem dX9_append_7 : decode cX9_append 7 = .ok (.astore 6, 2) := by decide +kernel
theorem dX9_append_9 : decode cX9_append 9 = .ok (.aload 6, 2) := by decide +kernel
theorem dX9_append_11 : decode cX9_append 11 = .ok (.getfield 79, 3) := by decide +kernel
theorem dX9_append_14 : decode cX9_append 14 = .ok (.sipush 580, 3) := by decide +kernel
theorem dX9_append_17 : decode cX9_append 17 = .ok (.if_icmp .le 13, 3) := by decide +kernel
theorem dX9_append_20 : decode cX9_append 20 = .ok (.new 82, 3) := by decide +kernel
theorem dX9_append_23 : decode cX9_append 23 = .ok (.dup, 1) := by decide +kernel
theorem dX9_append_24 : decode cX9_append 24 = .ok (.ldc 84, 2) := by decide +kernel
theorem dX9_append_26 : decode cX9_append 26 = .ok (.invokespecial 86, 3) := by decide +kernel
theorem dX9_append_29 : decode cX9_append 29 = .ok (.athrow, 1) := by decide +kernel
theorem dX9_append_30 : decode cX9_append 30 = .ok (.aload 6, 2) := by decide +kernel
theorem dX9_append_32 : decode cX9_append 32 = .ok (.iload_n 1, 1) := by decide +kernel
theorem dX9_append_33 : decode cX9_append 33 = .ok (.invokevirtual 89, 3) := by decide +kernel
theorem dX9_append_36 : decode cX9_append 36 = .ok (.aload 6, 2) := by decide +kernel
theorem dX9_append_38 : decode cX9_append 38 = .ok (.iload_n 2, 1) := by decide +kernel
theorem dX9_append_39 : decode cX9_append 39 = .ok (.invokevirtual 89, 3) := by decide +kernel
theorem dX9_append_42 : decode cX9_append 42 = .ok (.aload 6, 2) := by decide +kernel
theorem dX9_append_44 : decode cX9_append 44 = .ok (.iload_n 3, 1) := by decide +kernel
theorem dX9_append_45 : decode cX9_append 45 = .ok (.invokevirtual 89, 3) := by decide +kernel
theorem dX9_append_48 : decode cX9_append 48 = .ok (.aload 6, 2) := by decide +kernel
theorem dX9_append_50 : decode cX9_append 50 = .ok (.iload 4, 2) := by decide +kernel
theorem dX9_append_52 : decode cX9_append 52 = .ok (.invokevirtual 89, 3) := by decide +kernel
theorem dX9_append_55 : decode cX9_append 55 = .ok (.aload 6, 2) := by decide +kernel
theorem dX9_append_57 : decode cX9_append 57 = .ok (.iload 5, 2) := by decide +kernel
theorem dX9_append_59 : decode cX9_append 59 = .ok (.invokevirtual 89, 3) := by decide +kernel
theorem dX9_append_62 : decode cX9_append 62 = .ok (.aload 6, 2) := by decide +kernel
theorem dX9_append_64 : decode cX9_append 64 = .ok (.getfield 79, 3) := by decide +kernel
theorem dX9_append_67 : decode cX9_append 67 = .ok (.ireturn, 1) := by decide +kernel
theorem dX9_shorten_0 : decode cX9_shorten 0 = .ok (.iload_n 1, 1) := by decide +kernel
theorem dX9_shorten_1 : decode cX9_shorten 1 = .ok (.ifCond .lt 17, 3) := by decide +kernel
theorem dX9_shorten_4 : decode cX9_shorten 4 = .ok (.iload_n 1, 1) := by decide +kernel
theorem dX9_shorten_5 : decode cX9_shorten 5 = .ok (.aload_n 0, 1) := by decide +kernel
theorem dX9_shorten_6 : decode cX9_shorten 6 = .ok (.getfield 12, 3) := by decide +kernel
theorem dX9_shorten_9 : decode cX9_shorten 9 = .ok (.getfield 55, 3) := by decide +kernel
theorem dX9_shorten_12 : decode cX9_shorten 12 = .ok (.getfield 79, 3) := by decide +kernel
theorem dX9_shorten_15 : decode cX9_shorten 15 = .ok (.if_icmp .le 13, 3) := by decide +kernel
theorem dX9_shorten_18 : decode cX9_shorten 18 = .ok (.new 92, 3) := by decide +kernel
theorem dX9_shorten_21 : decode cX9_shorten 21 = .ok (.dup, 1) := by decide +kernel
theorem dX9_shorten_22 : decode cX9_shorten 22 = .ok (.ldc 94, 2) := by decide +kernel
theorem dX9_shorten_24 : decode cX9_shorten 24 = .ok (.invokespecial 96, 3) := by decide +kernel
theorem dX9_shorten_27 : decode cX9_shorten 27 = .ok (.athrow, 1) := by decide +kernel
theorem dX9_shorten_28 : decode cX9_shorten 28 = .ok (.aload_n 0, 1) := by decide +kernel
theorem dX9_shorten_29 : decode cX9_shorten 29 = .ok (.getfield 12, 3) := by decide +kernel
theorem dX9_shorten_32 : decode cX9_shorten 32 = .ok (.getfield 55, 3) := by decide +kernel
theorem dX9_shorten_35 : decode cX9_shorten 35 = .ok (.iload_n 1, 1) := by decide +kernel
theorem dX9_shorten_36 : decode cX9_shorten 36 = .ok (.putfield 79, 3) := by decide +kernel
theorem dX9_shorten_39 : decode cX9_shorten 39 = .ok (.iload_n 1, 1) := by decide +kernel
theorem dX9_shorten_40 : decode cX9_shorten 40 = .ok (.ireturn, 1) := by decide +kernel
set_option maxRecDepth 20000 in
theorem ggX9_load_X2_read : GoodIn wsX9_load wsX2_read := goodIn_r _ [15, 16, 17, 18, 19, 20, 21, 22, 23, 24, 25, 26, 27, 28, 29, 30, 31, 32, 33, 34, 35, 36, 37, 38, 39, 40, 41, 42, 43, 44, 45, 46, 47, 48, 49, 50, 51, 52, 53, 54, 55, 56, 57, 58, 59, 60, 61, 62, 63, 64, 65, 66, 67, 68, 69, 70, 71, 72, 73, 74, 75, 14, 76, 77, 78, 79, 80, 81, 82, 83, 84, 85, 86, 87, 88, 89, 90, 91, 92, 93, 94, 95, 96, 97, 98, 99, 100, 101, 102, 103, 104, 105, 106, 107, 108, 109, 110, 111, 112, 113, 114, 115, 116, 117, 118, 119, 120, 121, 122, 123, 124, 125, 126, 127, 128, 129, 130, 131, 132, 133, 134, 135, 136, 137, 138, 139, 140, 141, 142, 143, 144, 145, 146, 147, 148, 149, 150, 151, 152, 153, 154, 155, 156, 157, 158, 159, 160, 161, 162, 163, 164, 165, 166, 167, 168, 169, 170, 171, 172, 173, 174, 175, 176, 177, 178, 179, 180, 181, 182, 183, 184, 185, 186, 187, 188, 189, 190, 191, 192, 193, 194, 195, 196, 197, 198, 199, 200, 201, 202, 203, 204, 205, 206, 251, 252, 253, 254, 255, 256, 257, 258, 267, 268, 269, 270, 271, 272, 273, 274, 275, 276, 277, 278, 279, 280, 259, 260, 261, 262, 263, 264, 265, 266, 281, 282, 283, 284] (by decide +kernel) (by decide +kernel)
set_option maxRecDepth 20000 in
theorem gX9_load_X2_read : GoodIn wsX9_load (wsV RX9 69 RX2 yX2_read wsX2_read) := goodIn_app (goodIn_of _ (by decide +kernel)) ggX9_load_X2_read
set_option maxRecDepth 20000 in
theorem ggX9_load_X3_copyFrom : GoodIn wsX9_load wsX3_copyFrom := goodIn_r _ [210, 65, 66, 68, 71, 211, 212, 213, 162, 214, 215, 216, 217, 164, 165, 218, 219, 220, 221, 222, 223, 224, 173, 225, 175, 226, 176, 227, 177, 228, 229, 230, 193, 231, 195, 197, 232, 198, 203, 204, 196, 205, 206, 255, 256, 257, 258, 272, 273, 274, 275, 276, 277, 278, 279, 280, 259, 260, 261, 262, 263, 264, 265, 266] (by decide +kernel) (by decide +kernel)
set_option maxRecDepth 20000 in
theorem gX9_load_X3_copyFrom : GoodIn wsX9_load (wsV RX9 75 RX3 yX3_copyFrom wsX3_copyFrom) := goodIn_app (goodIn_of _ (by decide +kernel)) ggX9_load_X3_copyFrom
set_option maxRecDepth 20000 in
theorem ggX9_load_X0_forget : GoodIn wsX9_load wsX0_forget := goodIn_r _ [237, 238, 285, 286, 287] (by decide +kernel) (by decide +kernel)
set_option maxRecDepth 20000 in
theorem gX9_load_X0_forget : GoodIn wsX9_load (wsV RX9 103 RX0 yX0_forget wsX0_forget) := goodIn_app (goodIn_of _ (by decide +kernel)) ggX9_load_X0_forget
set_option maxRecDepth 20000 in
theorem ggX9_load_X7_forget : GoodIn wsX9_load wsX7_forget := goodIn_r _ [243, 244, 288, 289] (by decide +kernel) (by decide +kernel)
set_option maxRecDepth 20000 in
theorem gX9_load_X7_forget : GoodIn wsX9_load (wsV RX9 106 RX7 yX7_forget wsX7_forget) := goodIn_app (goodIn_of _ (by decide +kernel)) ggX9_load_X7_forget
theorem dX9_load_0 : decode cX9_load 0 = .ok (.aload_n 0, 1) := by decide +kernel
theorem dX9_load_1 : decode cX9_load 1 = .ok (.getfield 12, 3) := by decide +kernel
theorem dX9_load_4 : decode cX9_load 4 = .ok (.invokevirtual 69, 3) := by decide +kernel
theorem dX9_load_7 : decode cX9_load 7 = .ok (.aload_n 0, 1) := by decide +kernel
theorem dX9_load_8 : decode cX9_load 8 = .ok (.getfield 12, 3) := by decide +kernel
theorem dX9_load_11 : decode cX9_load 11 = .ok (.getfield 97, 3) := by decide +kernel
theorem dX9_load_14 : decode cX9_load 14 = .ok (.ifCond .eq 13, 3) := by decide +kernel
theorem dX9_load_17 : decode cX9_load 17 = .ok (.new 92, 3) := by decide +kernel
theorem dX9_load_20 : decode cX9_load 20 = .ok (.dup, 1) := by decide +kernel
theorem dX9_load_21 : decode cX9_load 21 = .ok (.ldc 101, 2) := by decide +kernel
theorem dX9_load_23 : decode cX9_load 23 = .ok (.invokespecial 96, 3) := by decide +kernel
theorem dX9_load_26 : decode cX9_load 26 = .ok (.athrow, 1) := by decide +kernel
theorem dX9_load_27 : decode cX9_load 27 = .ok (.aload_n 0, 1) := by decide +kernel
theorem dX9_load_28 : decode cX9_load 28 = .ok (.getfield 19, 3) := by decide +kernel
theorem dX9_load_31 : decode cX9_load 31 = .ok (.aload_n 0, 1) := by decide +kernel
theorem dX9_load_32 : decode cX9_load 32 = .ok (.getfield 12, 3) := by decide +kernel
theorem dX9_load_35 : decode cX9_load 35 = .ok (.getfield 72, 3) := by decide +kernel
theorem dX9_load_38 : decode cX9_load 38 = .ok (.invokevirtual 75, 3) := by decide +kernel
theorem dX9_load_41 : decode cX9_load 41 = .ok (.aload_n 0, 1) := by decide +kernel
theorem dX9_load_42 : decode cX9_load 42 = .ok (.getfield 29, 3) := by decide +kernel
theorem dX9_load_45 : decode cX9_load 45 = .ok (.invokevirtual 103, 3) := by decide +kernel
theorem dX9_load_48 : decode cX9_load 48 = .ok (.aload_n 0, 1) := by decide +kernel
theorem dX9_load_49 : decode cX9_load 49 = .ok (.getfield 36, 3) := by decide +kernel
theorem dX9_load_52 : decode cX9_load 52 = .ok (.invokevirtual 106, 3) := by decide +kernel
theorem dX9_load_55 : decode cX9_load 55 = .ok (.aload_n 0, 1) := by decide +kernel
theorem dX9_load_56 : decode cX9_load 56 = .ok (.getfield 19, 3) := by decide +kernel
theorem dX9_load_59 : decode cX9_load 59 = .ok (.getfield 107, 3) := by decide +kernel
theorem dX9_load_62 : decode cX9_load 62 = .ok (.getfield 111, 3) := by decide +kernel
theorem dX9_load_65 : decode cX9_load 65 = .ok (.ireturn, 1) := by decide +kernel
theorem dX9_hasError_0 : decode cX9_hasError 0 = .ok (.aload_n 0, 1) := by decide +kernel
theorem dX9_hasError_1 : decode cX9_hasError 1 = .ok (.getfield 12, 3) := by decide +kernel
theorem dX9_hasError_4 : decode cX9_hasError 4 = .ok (.getfield 97, 3) := by decide +kernel
theorem dX9_hasError_7 : decode cX9_hasError 7 = .ok (.ireturn, 1) := by decide +kernel
theorem dX9_errorOffset_0 : decode cX9_errorOffset 0 = .ok (.aload_n 0, 1) := by decide +kernel
theorem dX9_errorOffset_1 : decode cX9_errorOffset 1 = .ok (.getfield 12, 3) := by decide +kernel
theorem dX9_errorOffset_4 : decode cX9_errorOffset 4 = .ok (.getfield 97, 3) := by decide +kernel
theorem dX9_errorOffset_7 : decode cX9_errorOffset 7 = .ok (.ifCond .ne 13, 3) := by decide +kernel
theorem dX9_errorOffset_10 : decode cX9_errorOffset 10 = .ok (.new 116, 3) := by decide +kernel
theorem dX9_errorOffset_13 : decode cX9_errorOffset 13 = .ok (.dup, 1) := by decide +kernel
theorem dX9_errorOffset_14 : decode cX9_errorOffset 14 = .ok (.ldc 118, 2) := by decide +kernel
theorem dX9_errorOffset_16 : decode cX9_errorOffset 16 = .ok (.invokespecial 120, 3) := by decide +kernel
theorem dX9_errorOffset_19 : decode cX9_errorOffset 19 = .ok (.athrow, 1) := by decide +kernel
theorem dX9_errorOffset_20 : decode cX9_errorOffset 20 = .ok (.aload_n 0, 1) := by decide +kernel
theorem dX9_errorOffset_21 : decode cX9_errorOffset 21 = .ok (.getfield 12, 3) := by decide +kernel
theorem dX9_errorOffset_24 : decode cX9_errorOffset 24 = .ok (.getfield 121, 3) := by decide +kernel
theorem dX9_errorOffset_27 : decode cX9_errorOffset 27 = .ok (.ireturn, 1) := by decide +kernel
theorem dX9_night_0 : decode cX9_night 0 = .ok (.aload_n 0, 1) := by decide +kernel
theorem dX9_night_1 : decode cX9_night 1 = .ok (.getfield 19, 3) := by decide +kernel
theorem dX9_night_4 : decode cX9_night 4 = .ok (.getfield 124, 3) := by decide +kernel
theorem dX9_night_7 : decode cX9_night 7 = .ok (.ireturn, 1) := by decide +kernel
set_option maxRecDepth 20000 in
theorem ggX9_lightOf_X9_checkNight : GoodIn wsX9_lightOf wsX9_checkNight := goodIn_ca (goodIn_r _ [4, 5, 6, 3, 7, 8, 9] (by decide +kernel) (by decide +kernel)) (goodIn_sub (fun _ h => List.mem_cons_of_mem _ (List.mem_append_right _ h)) (by decide +kernel))
set_option maxRecDepth 20000 in
theorem gX9_lightOf_X9_checkNight : GoodIn wsX9_lightOf (va_wsS RX9 127 yX9_checkNight wsX9_checkNight) := goodIn_app (goodIn_of _ (by decide +kernel)) ggX9_lightOf_X9_checkNight
set_option maxRecDepth 20000 in
theorem ggX9_lightOf_X6_lightIn : GoodIn wsX9_lightOf wsX6_lightIn := goodIn_r _ [13, 14, 15, 16, 17] (by decide +kernel) (by decide +kernel)
set_option maxRecDepth 20000 in
theorem gX9_lightOf_X6_lightIn : GoodIn wsX9_lightOf (va_wsS RX9 130 yX6_lightIn wsX6_lightIn) := goodIn_app (goodIn_of _ (by decide +kernel)) ggX9_lightOf_X6_lightIn
theorem dX9_lightOf_0 : decode cX9_lightOf 0 = .ok (.iload_n 1, 1) := by decide +kernel
theorem dX9_lightOf_1 : decode cX9_lightOf 1 = .ok (.invokestatic 127, 3) := by decide +kernel
theorem dX9_lightOf_4 : decode cX9_lightOf 4 = .ok (.iload_n 1, 1) := by decide +kernel
theorem dX9_lightOf_5 : decode cX9_lightOf 5 = .ok (.invokestatic 130, 3) := by decide +kernel
theorem dX9_lightOf_8 : decode cX9_lightOf 8 = .ok (.ireturn, 1) := by decide +kernel
set_option maxRecDepth 20000 in
theorem ggX9_tideOf_X9_checkNight : GoodIn wsX9_tideOf wsX9_checkNight := goodIn_ca (goodIn_r _ [4, 5, 6, 3, 7, 8, 9] (by decide +kernel) (by decide +kernel)) (goodIn_sub (fun _ h => List.mem_cons_of_mem _ (List.mem_append_right _ h)) (by decide +kernel))
set_option maxRecDepth 20000 in
theorem gX9_tideOf_X9_checkNight : GoodIn wsX9_tideOf (va_wsS RX9 127 yX9_checkNight wsX9_checkNight) := goodIn_app (goodIn_of _ (by decide +kernel)) ggX9_tideOf_X9_checkNight
set_option maxRecDepth 20000 in
theorem ggX9_tideOf_X6_tideIn : GoodIn wsX9_tideOf wsX6_tideIn := goodIn_r _ [13, 14, 15, 16, 17] (by decide +kernel) (by decide +kernel)
set_option maxRecDepth 20000 in
theorem gX9_tideOf_X6_tideIn : GoodIn wsX9_tideOf (va_wsS RX9 136 yX6_tideIn wsX6_tideIn) := goodIn_app (goodIn_of _ (by decide +kernel)) ggX9_tideOf_X6_tideIn
theorem dX9_tideOf_0 : decode cX9_tideOf 0 = .ok (.iload_n 1, 1) := by decide +kernel
theorem dX9_tideOf_1 : decode cX9_tideOf 1 = .ok (.invokestatic 127, 3) := by decide +kernel
theorem dX9_tideOf_4 : decode cX9_tideOf 4 = .ok (.iload_n 1, 1) := by decide +kernel
theorem dX9_tideOf_5 : decode cX9_tideOf 5 = .ok (.invokestatic 136, 3) := by decide +kernel
theorem dX9_tideOf_8 : decode cX9_tideOf 8 = .ok (.ireturn, 1) := by decide +kernel
set_option maxRecDepth 20000 in
theorem ggX9_cloudOf_X9_checkNight : GoodIn wsX9_cloudOf wsX9_checkNight := goodIn_ca (goodIn_r _ [6, 7, 8, 5, 9, 10, 11] (by decide +kernel) (by decide +kernel)) (goodIn_sub (fun _ h => List.mem_cons_of_mem _ (List.mem_append_right _ h)) (by decide +kernel))
set_option maxRecDepth 20000 in
theorem gX9_cloudOf_X9_checkNight : GoodIn wsX9_cloudOf (va_wsS RX9 127 yX9_checkNight wsX9_checkNight) := goodIn_app (goodIn_of _ (by decide +kernel)) ggX9_cloudOf_X9_checkNight
set_option maxRecDepth 20000 in
theorem ggX9_cloudOf_X6_cloudIn : GoodIn wsX9_cloudOf wsX6_cloudIn := goodIn_r _ [16, 17, 18, 29, 30, 31, 32, 33] (by decide +kernel) (by decide +kernel)
set_option maxRecDepth 20000 in
theorem gX9_cloudOf_X6_cloudIn : GoodIn wsX9_cloudOf (wsV RX9 143 RX6 yX6_cloudIn wsX6_cloudIn) := goodIn_app (goodIn_of _ (by decide +kernel)) ggX9_cloudOf_X6_cloudIn
theorem dX9_cloudOf_0 : decode cX9_cloudOf 0 = .ok (.iload_n 1, 1) := by decide +kernel
theorem dX9_cloudOf_1 : decode cX9_cloudOf 1 = .ok (.invokestatic 127, 3) := by decide +kernel
theorem dX9_cloudOf_4 : decode cX9_cloudOf 4 = .ok (.aload_n 0, 1) := by decide +kernel
theorem dX9_cloudOf_5 : decode cX9_cloudOf 5 = .ok (.getfield 19, 3) := by decide +kernel
theorem dX9_cloudOf_8 : decode cX9_cloudOf 8 = .ok (.getfield 139, 3) := by decide +kernel
theorem dX9_cloudOf_11 : decode cX9_cloudOf 11 = .ok (.iload_n 1, 1) := by decide +kernel
theorem dX9_cloudOf_12 : decode cX9_cloudOf 12 = .ok (.invokevirtual 143, 3) := by decide +kernel
theorem dX9_cloudOf_15 : decode cX9_cloudOf 15 = .ok (.ireturn, 1) := by decide +kernel
set_option maxRecDepth 20000 in
theorem ggX9_visibleLight_X9_checkNight : GoodIn wsX9_visibleLight wsX9_checkNight := goodIn_ca (goodIn_r _ [6, 7, 8, 5, 9, 10, 11] (by decide +kernel) (by decide +kernel)) (goodIn_sub (fun _ h => List.mem_cons_of_mem _ (List.mem_append_right _ h)) (by decide +kernel))
set_option maxRecDepth 20000 in
theorem gX9_visibleLight_X9_checkNight : GoodIn wsX9_visibleLight (va_wsS RX9 127 yX9_checkNight wsX9_checkNight) := goodIn_app (goodIn_of _ (by decide +kernel)) ggX9_visibleLight_X9_checkNight
set_option maxRecDepth 20000 in
theorem ggX9_visibleLight_X6_visibleIn : GoodIn wsX9_visibleLight wsX6_visibleIn := goodIn_r _ [16, 17, 18, 15, 19, 20, 21, 22, 23, 24, 25, 26, 27, 28, 29, 40, 41, 42, 43, 44] (by decide +kernel) (by decide +kernel)
set_option maxRecDepth 20000 in
theorem gX9_visibleLight_X6_visibleIn : GoodIn wsX9_visibleLight (wsV RX9 146 RX6 yX6_visibleIn wsX6_visibleIn) := goodIn_app (goodIn_of _ (by decide +kernel)) ggX9_visibleLight_X6_visibleIn
theorem dX9_visibleLight_0 : decode cX9_visibleLight 0 = .ok (.iload_n 1, 1) := by decide +kernel
theorem dX9_visibleLight_1 : decode cX9_visibleLight 1 = .ok (.invokestatic 127, 3) := by decide +kernel
theorem dX9_visibleLight_4 : decode cX9_visibleLight 4 = .ok (.aload_n 0, 1) := by decide +kernel
theorem dX9_visibleLight_5 : decode cX9_visibleLight 5 = .ok (.getfield 19, 3) := by decide +kernel
theorem dX9_visibleLight_8 : decode cX9_visibleLight 8 = .ok (.getfield 139, 3) := by decide +kernel
theorem dX9_visibleLight_11 : decode cX9_visibleLight 11 = .ok (.iload_n 1, 1) := by decide +kernel
theorem dX9_visibleLight_12 : decode cX9_visibleLight 12 = .ok (.invokevirtual 146, 3) := by decide +kernel
theorem dX9_visibleLight_15 : decode cX9_visibleLight 15 = .ok (.ireturn, 1) := by decide +kernel
theorem dX9_glareLimit_0 : decode cX9_glareLimit 0 = .ok (.aload_n 0, 1) := by decide +kernel
theorem dX9_glareLimit_1 : decode cX9_glareLimit 1 = .ok (.getfield 19, 3) := by decide +kernel
theorem dX9_glareLimit_4 : decode cX9_glareLimit 4 = .ok (.getfield 139, 3) := by decide +kernel
theorem dX9_glareLimit_7 : decode cX9_glareLimit 7 = .ok (.getfield 149, 3) := by decide +kernel
theorem dX9_glareLimit_10 : decode cX9_glareLimit 10 = .ok (.ireturn, 1) := by decide +kernel
theorem dX9_gloomLimit_0 : decode cX9_gloomLimit 0 = .ok (.aload_n 0, 1) := by decide +kernel
theorem dX9_gloomLimit_1 : decode cX9_gloomLimit 1 = .ok (.getfield 19, 3) := by decide +kernel
theorem dX9_gloomLimit_4 : decode cX9_gloomLimit 4 = .ok (.getfield 139, 3) := by decide +kernel
theorem dX9_gloomLimit_7 : decode cX9_gloomLimit 7 = .ok (.getfield 152, 3) := by decide +kernel
theorem dX9_gloomLimit_10 : decode cX9_gloomLimit 10 = .ok (.ireturn, 1) := by decide +kernel
theorem dX9_tideLimit_0 : decode cX9_tideLimit 0 = .ok (.aload_n 0, 1) := by decide +kernel
theorem dX9_tideLimit_1 : decode cX9_tideLimit 1 = .ok (.getfield 19, 3) := by decide +kernel
theorem dX9_tideLimit_4 : decode cX9_tideLimit 4 = .ok (.getfield 139, 3) := by decide +kernel
theorem dX9_tideLimit_7 : decode cX9_tideLimit 7 = .ok (.getfield 155, 3) := by decide +kernel
theorem dX9_tideLimit_10 : decode cX9_tideLimit 10 = .ok (.ireturn, 1) := by decide +kernel
theorem dX9_cloudCount_0 : decode cX9_cloudCount 0 = .ok (.aload_n 0, 1) := by decide +kernel
theorem dX9_cloudCount_1 : decode cX9_cloudCount 1 = .ok (.getfield 19, 3) := by decide +kernel
theorem dX9_cloudCount_4 : decode cX9_cloudCount 4 = .ok (.getfield 139, 3) := by decide +kernel
theorem dX9_cloudCount_7 : decode cX9_cloudCount 7 = .ok (.getfield 158, 3) := by decide +kernel
theorem dX9_cloudCount_10 : decode cX9_cloudCount 10 = .ok (.ireturn, 1) := by decide +kernel
set_option maxRecDepth 20000 in
theorem ggX9_isJustified_X9_checkSort : GoodIn wsX9_isJustified wsX9_checkSort := goodIn_ca (goodIn_r _ [6, 7, 8, 5, 9, 10, 11] (by decide +kernel) (by decide +kernel)) (goodIn_sub (fun _ h => List.mem_cons_of_mem _ (List.mem_append_right _ h)) (by decide +kernel))
set_option maxRecDepth 20000 in
theorem gX9_isJustified_X9_checkSort : GoodIn wsX9_isJustified (va_wsS RX9 159 yX9_checkSort wsX9_checkSort) := goodIn_app (goodIn_of _ (by decide +kernel)) ggX9_isJustified_X9_checkSort
set_option maxRecDepth 20000 in
theorem ggX9_isJustified_X9_checkNight : GoodIn wsX9_isJustified wsX9_checkNight := goodIn_ca (goodIn_r _ [14, 7, 8, 5, 9, 10, 11] (by decide +kernel) (by decide +kernel)) (goodIn_sub (fun _ h => List.mem_cons_of_mem _ (List.mem_append_right _ h)) (by decide +kernel))
set_option maxRecDepth 20000 in
theorem gX9_isJustified_X9_checkNight : GoodIn wsX9_isJustified (va_wsS RX9 127 yX9_checkNight wsX9_checkNight) := goodIn_app (goodIn_of _ (by decide +kernel)) ggX9_isJustified_X9_checkNight
set_option maxRecDepth 20000 in
theorem ggX9_isJustified_X6_justifies : GoodIn wsX9_isJustified wsX6_justifies := goodIn_r _ [19, 20, 21, 22, 23, 24, 25, 18, 26, 27, 28, 29, 30, 31, 32, 33, 34, 35, 36, 37, 38, 39, 40, 41, 42, 53, 54, 55, 56, 57] (by decide +kernel) (by decide +kernel)
set_option maxRecDepth 20000 in
theorem gX9_isJustified_X6_justifies : GoodIn wsX9_isJustified (wsV RX9 162 RX6 yX6_justifies wsX6_justifies) := goodIn_app (goodIn_of _ (by decide +kernel)) ggX9_isJustified_X6_justifies
theorem dX9_isJustified_0 : decode cX9_isJustified 0 = .ok (.iload_n 1, 1) := by decide +kernel
theorem dX9_isJustified_1 : decode cX9_isJustified 1 = .ok (.invokestatic 159, 3) := by decide +kernel
theorem dX9_isJustified_4 : decode cX9_isJustified 4 = .ok (.iload_n 2, 1) := by decide +kernel
theorem dX9_isJustified_5 : decode cX9_isJustified 5 = .ok (.invokestatic 127, 3) := by decide +kernel
theorem dX9_isJustified_8 : decode cX9_isJustified 8 = .ok (.aload_n 0, 1) := by decide +kernel
theorem dX9_isJustified_9 : decode cX9_isJustified 9 = .ok (.getfield 19, 3) := by decide +kernel
theorem dX9_isJustified_12 : decode cX9_isJustified 12 = .ok (.getfield 139, 3) := by decide +kernel
theorem dX9_isJustified_15 : decode cX9_isJustified 15 = .ok (.iload_n 1, 1) := by decide +kernel
theorem dX9_isJustified_16 : decode cX9_isJustified 16 = .ok (.iload_n 2, 1) := by decide +kernel
theorem dX9_isJustified_17 : decode cX9_isJustified 17 = .ok (.invokevirtual 162, 3) := by decide +kernel
theorem dX9_isJustified_20 : decode cX9_isJustified 20 = .ok (.ireturn, 1) := by decide +kernel
set_option maxRecDepth 20000 in
theorem ggX9_nextJustified_X9_checkSort : GoodIn wsX9_nextJustified wsX9_checkSort := goodIn_ca (goodIn_r _ [9, 10, 11, 8, 12, 13, 14] (by decide +kernel) (by decide +kernel)) (goodIn_sub (fun _ h => List.mem_cons_of_mem _ (List.mem_append_right _ h)) (by decide +kernel))
set_option maxRecDepth 20000 in
theorem gX9_nextJustified_X9_checkSort : GoodIn wsX9_nextJustified (va_wsS RX9 159 yX9_checkSort wsX9_checkSort) := goodIn_app (goodIn_of _ (by decide +kernel)) ggX9_nextJustified_X9_checkSort
set_option maxRecDepth 20000 in
theorem ggX9_nextJustified_X6_justifies : GoodIn wsX9_nextJustified wsX6_justifies := goodIn_r _ [19, 20, 21, 22, 23, 24, 25, 18, 26, 27, 28, 29, 30, 31, 32, 33, 34, 35, 36, 37, 38, 39, 40, 41, 42, 53, 54, 55, 56, 57] (by decide +kernel) (by decide +kernel)
set_option maxRecDepth 20000 in
theorem gX9_nextJustified_X6_justifies : GoodIn wsX9_nextJustified (wsV RX9 162 RX6 yX6_justifies wsX6_justifies) := goodIn_app (goodIn_of _ (by decide +kernel)) ggX9_nextJustified_X6_justifies
theorem dX9_nextJustified_0 : decode cX9_nextJustified 0 = .ok (.iload_n 1, 1) := by decide +kernel
theorem dX9_nextJustified_1 : decode cX9_nextJustified 1 = .ok (.invokestatic 159, 3) := by decide +kernel
theorem dX9_nextJustified_4 : decode cX9_nextJustified 4 = .ok (.aload_n 0, 1) := by decide +kernel
theorem dX9_nextJustified_5 : decode cX9_nextJustified 5 = .ok (.getfield 19, 3) := by decide +kernel
theorem dX9_nextJustified_8 : decode cX9_nextJustified 8 = .ok (.getfield 124, 3) := by decide +kernel
theorem dX9_nextJustified_11 : decode cX9_nextJustified 11 = .ok (.istore_n 2, 1) := by decide +kernel
theorem dX9_nextJustified_12 : decode cX9_nextJustified 12 = .ok (.iload_n 2, 1) := by decide +kernel
theorem dX9_nextJustified_13 : decode cX9_nextJustified 13 = .ok (.aload_n 0, 1) := by decide +kernel
theorem dX9_nextJustified_14 : decode cX9_nextJustified 14 = .ok (.getfield 19, 3) := by decide +kernel
theorem dX9_nextJustified_17 : decode cX9_nextJustified 17 = .ok (.getfield 124, 3) := by decide +kernel
theorem dX9_nextJustified_20 : decode cX9_nextJustified 20 = .ok (.sipush 280, 3) := by decide +kernel
theorem dX9_nextJustified_23 : decode cX9_nextJustified 23 = .ok (.iadd, 1) := by decide +kernel
theorem dX9_nextJustified_24 : decode cX9_nextJustified 24 = .ok (.if_icmp .ge 26, 3) := by decide +kernel
theorem dX9_nextJustified_27 : decode cX9_nextJustified 27 = .ok (.aload_n 0, 1) := by decide +kernel
theorem dX9_nextJustified_28 : decode cX9_nextJustified 28 = .ok (.getfield 19, 3) := by decide +kernel
theorem dX9_nextJustified_31 : decode cX9_nextJustified 31 = .ok (.getfield 139, 3) := by decide +kernel
theorem dX9_nextJustified_34 : decode cX9_nextJustified 34 = .ok (.iload_n 1, 1) := by decide +kernel
theorem dX9_nextJustified_35 : decode cX9_nextJustified 35 = .ok (.iload_n 2, 1) := by decide +kernel
theorem dX9_nextJustified_36 : decode cX9_nextJustified 36 = .ok (.invokevirtual 162, 3) := by decide +kernel
theorem dX9_nextJustified_39 : decode cX9_nextJustified 39 = .ok (.ifCond .eq 5, 3) := by decide +kernel
theorem dX9_nextJustified_42 : decode cX9_nextJustified 42 = .ok (.iload_n 2, 1) := by decide +kernel
theorem dX9_nextJustified_43 : decode cX9_nextJustified 43 = .ok (.ireturn, 1) := by decide +kernel
theorem dX9_nextJustified_44 : decode cX9_nextJustified 44 = .ok (.iinc 2 1, 3) := by decide +kernel
theorem dX9_nextJustified_47 : decode cX9_nextJustified 47 = .ok (.goto (-35), 3) := by decide +kernel
theorem dX9_nextJustified_50 : decode cX9_nextJustified 50 = .ok (.new 116, 3) := by decide +kernel
theorem dX9_nextJustified_53 : decode cX9_nextJustified 53 = .ok (.dup, 1) := by decide +kernel
theorem dX9_nextJustified_54 : decode cX9_nextJustified 54 = .ok (.ldc 166, 2) := by decide +kernel
theorem dX9_nextJustified_56 : decode cX9_nextJustified 56 = .ok (.invokespecial 120, 3) := by decide +kernel
theorem dX9_nextJustified_59 : decode cX9_nextJustified 59 = .ok (.athrow, 1) := by decide +kernel
set_option maxRecDepth 20000 in
theorem ggX9_justifiedNights_X9_checkSort : GoodIn wsX9_justifiedNights wsX9_checkSort := goodIn_ca (goodIn_r _ [7, 8, 9, 6, 10, 11, 12] (by decide +kernel) (by decide +kernel)) (goodIn_sub (fun _ h => List.mem_cons_of_mem _ (List.mem_append_right _ h)) (by decide +kernel))
set_option maxRecDepth 20000 in
theorem gX9_justifiedNights_X9_checkSort : GoodIn wsX9_justifiedNights (va_wsS RX9 159 yX9_checkSort wsX9_checkSort) := goodIn_app (goodIn_of _ (by decide +kernel)) ggX9_justifiedNights_X9_checkSort
set_option maxRecDepth 20000 in
theorem ggX9_justifiedNights_X6_countJustified : GoodIn wsX9_justifiedNights wsX6_countJustified := goodIn_r _ [17, 18, 19, 20, 16, 21, 22, 23, 24, 25, 26, 27, 28, 29, 30, 31, 32, 33, 34, 35, 36, 37, 38, 39, 40, 41, 42, 43, 44, 55, 56, 57, 58, 59] (by decide +kernel) (by decide +kernel)
set_option maxRecDepth 20000 in
theorem gX9_justifiedNights_X6_countJustified : GoodIn wsX9_justifiedNights (wsV RX9 168 RX6 yX6_countJustified wsX6_countJustified) := goodIn_app (goodIn_of _ (by decide +kernel)) ggX9_justifiedNights_X6_countJustified
theorem dX9_justifiedNights_0 : decode cX9_justifiedNights 0 = .ok (.iload_n 1, 1) := by decide +kernel
theorem dX9_justifiedNights_1 : decode cX9_justifiedNights 1 = .ok (.invokestatic 159, 3) := by decide +kernel
theorem dX9_justifiedNights_4 : decode cX9_justifiedNights 4 = .ok (.aload_n 0, 1) := by decide +kernel
theorem dX9_justifiedNights_5 : decode cX9_justifiedNights 5 = .ok (.getfield 19, 3) := by decide +kernel
theorem dX9_justifiedNights_8 : decode cX9_justifiedNights 8 = .ok (.getfield 139, 3) := by decide +kernel
theorem dX9_justifiedNights_11 : decode cX9_justifiedNights 11 = .ok (.iload_n 1, 1) := by decide +kernel
theorem dX9_justifiedNights_12 : decode cX9_justifiedNights 12 = .ok (.aload_n 0, 1) := by decide +kernel
theorem dX9_justifiedNights_13 : decode cX9_justifiedNights 13 = .ok (.getfield 19, 3) := by decide +kernel
theorem dX9_justifiedNights_16 : decode cX9_justifiedNights 16 = .ok (.getfield 124, 3) := by decide +kernel
theorem dX9_justifiedNights_19 : decode cX9_justifiedNights 19 = .ok (.invokevirtual 168, 3) := by decide +kernel
theorem dX9_justifiedNights_22 : decode cX9_justifiedNights 22 = .ok (.ireturn, 1) := by decide +kernel
set_option maxRecDepth 20000 in
theorem ggX9_likeliestSort_X6_countJustified : GoodIn wsX9_likeliestSort wsX6_countJustified := goodIn_r _ [8, 9, 10, 11, 7, 12, 13, 14, 15, 16, 17, 18, 19, 20, 21, 22, 23, 24, 25, 26, 27, 28, 29, 30, 31, 32, 33, 34, 35, 46, 47, 48, 49, 50] (by decide +kernel) (by decide +kernel)
set_option maxRecDepth 20000 in
theorem gX9_likeliestSort_X6_countJustified : GoodIn wsX9_likeliestSort (wsV RX9 168 RX6 yX6_countJustified wsX6_countJustified) := goodIn_app (goodIn_of _ (by decide +kernel)) ggX9_likeliestSort_X6_countJustified
theorem dX9_likeliestSort_0 : decode cX9_likeliestSort 0 = .ok (.iconst 0, 1) := by decide +kernel
theorem dX9_likeliestSort_1 : decode cX9_likeliestSort 1 = .ok (.istore_n 1, 1) := by decide +kernel
theorem dX9_likeliestSort_2 : decode cX9_likeliestSort 2 = .ok (.aload_n 0, 1) := by decide +kernel
theorem dX9_likeliestSort_3 : decode cX9_likeliestSort 3 = .ok (.getfield 19, 3) := by decide +kernel
theorem dX9_likeliestSort_6 : decode cX9_likeliestSort 6 = .ok (.getfield 139, 3) := by decide +kernel
theorem dX9_likeliestSort_9 : decode cX9_likeliestSort 9 = .ok (.iconst 0, 1) := by decide +kernel
theorem dX9_likeliestSort_10 : decode cX9_likeliestSort 10 = .ok (.aload_n 0, 1) := by decide +kernel
theorem dX9_likeliestSort_11 : decode cX9_likeliestSort 11 = .ok (.getfield 19, 3) := by decide +kernel
theorem dX9_likeliestSort_14 : decode cX9_likeliestSort 14 = .ok (.getfield 124, 3) := by decide +kernel
theorem dX9_likeliestSort_17 : decode cX9_likeliestSort 17 = .ok (.invokevirtual 168, 3) := by decide +kernel
theorem dX9_likeliestSort_20 : decode cX9_likeliestSort 20 = .ok (.istore_n 2, 1) := by decide +kernel
theorem dX9_likeliestSort_21 : decode cX9_likeliestSort 21 = .ok (.iconst 1, 1) := by decide +kernel
theorem dX9_likeliestSort_22 : decode cX9_likeliestSort 22 = .ok (.istore_n 3, 1) := by decide +kernel
theorem dX9_likeliestSort_23 : decode cX9_likeliestSort 23 = .ok (.iload_n 3, 1) := by decide +kernel
theorem dX9_likeliestSort_24 : decode cX9_likeliestSort 24 = .ok (.iconst 3, 1) := by decide +kernel
theorem dX9_likeliestSort_25 : decode cX9_likeliestSort 25 = .ok (.if_icmp .gt 40, 3) := by decide +kernel
theorem dX9_likeliestSort_28 : decode cX9_likeliestSort 28 = .ok (.aload_n 0, 1) := by decide +kernel
theorem dX9_likeliestSort_29 : decode cX9_likeliestSort 29 = .ok (.getfield 19, 3) := by decide +kernel
theorem dX9_likeliestSort_32 : decode cX9_likeliestSort 32 = .ok (.getfield 139, 3) := by decide +kernel
theorem dX9_likeliestSort_35 : decode cX9_likeliestSort 35 = .ok (.iload_n 3, 1) := by decide +kernel
theorem dX9_likeliestSort_36 : decode cX9_likeliestSort 36 = .ok (.aload_n 0, 1) := by decide +kernel
theorem dX9_likeliestSort_37 : decode cX9_likeliestSort 37 = .ok (.getfield 19, 3) := by decide +kernel
theorem dX9_likeliestSort_40 : decode cX9_likeliestSort 40 = .ok (.getfield 124, 3) := by decide +kernel
theorem dX9_likeliestSort_43 : decode cX9_likeliestSort 43 = .ok (.invokevirtual 168, 3) := by decide +kernel
theorem dX9_likeliestSort_46 : decode cX9_likeliestSort 46 = .ok (.istore 4, 2) := by decide +kernel
theorem dX9_likeliestSort_48 : decode cX9_likeliestSort 48 = .ok (.iload 4, 2) := by decide +kernel
theorem dX9_likeliestSort_50 : decode cX9_likeliestSort 50 = .ok (.iload_n 2, 1) := by decide +kernel
theorem dX9_likeliestSort_51 : decode cX9_likeliestSort 51 = .ok (.if_icmp .le 8, 3) := by decide +kernel
theorem dX9_likeliestSort_54 : decode cX9_likeliestSort 54 = .ok (.iload 4, 2) := by decide +kernel
theorem dX9_likeliestSort_56 : decode cX9_likeliestSort 56 = .ok (.istore_n 2, 1) := by decide +kernel
theorem dX9_likeliestSort_57 : decode cX9_likeliestSort 57 = .ok (.iload_n 3, 1) := by decide +kernel
theorem dX9_likeliestSort_58 : decode cX9_likeliestSort 58 = .ok (.istore_n 1, 1) := by decide +kernel
theorem dX9_likeliestSort_59 : decode cX9_likeliestSort 59 = .ok (.iinc 3 1, 3) := by decide +kernel
theorem dX9_likeliestSort_62 : decode cX9_likeliestSort 62 = .ok (.goto (-39), 3) := by decide +kernel
theorem dX9_likeliestSort_65 : decode cX9_likeliestSort 65 = .ok (.iload_n 1, 1) := by decide +kernel
theorem dX9_likeliestSort_66 : decode cX9_likeliestSort 66 = .ok (.ireturn, 1) := by decide +kernel
theorem dX9_complaintCount_0 : decode cX9_complaintCount 0 = .ok (.aload_n 0, 1) := by decide +kernel
theorem dX9_complaintCount_1 : decode cX9_complaintCount 1 = .ok (.getfield 19, 3) := by decide +kernel
theorem dX9_complaintCount_4 : decode cX9_complaintCount 4 = .ok (.getfield 107, 3) := by decide +kernel
theorem dX9_complaintCount_7 : decode cX9_complaintCount 7 = .ok (.getfield 111, 3) := by decide +kernel
theorem dX9_complaintCount_10 : decode cX9_complaintCount 10 = .ok (.ireturn, 1) := by decide +kernel
set_option maxRecDepth 20000 in
theorem ggX9_personOf_X9_checkComplaint : GoodIn wsX9_personOf wsX9_checkComplaint := goodIn_ca (goodIn_r _ [8, 9, 10, 1, 2, 11, 12, 13, 14, 15, 16, 17, 18, 19, 20, 21, 22, 23, 24, 25, 26, 27, 28, 29, 30, 31, 32, 33, 34] (by decide +kernel) (by decide +kernel)) (goodIn_sub (fun _ h => List.mem_cons_of_mem _ (List.mem_append_right _ h)) (by decide +kernel))
set_option maxRecDepth 20000 in
theorem gX9_personOf_X9_checkComplaint : GoodIn wsX9_personOf (wsV RX9 172 RX9 yX9_checkComplaint wsX9_checkComplaint) := goodIn_app (goodIn_of _ (by decide +kernel)) ggX9_personOf_X9_checkComplaint
theorem dX9_personOf_0 : decode cX9_personOf 0 = .ok (.aload_n 0, 1) := by decide +kernel
theorem dX9_personOf_1 : decode cX9_personOf 1 = .ok (.iload_n 1, 1) := by decide +kernel
theorem dX9_personOf_2 : decode cX9_personOf 2 = .ok (.invokevirtual 172, 3) := by decide +kernel
theorem dX9_personOf_5 : decode cX9_personOf 5 = .ok (.aload_n 0, 1) := by decide +kernel
theorem dX9_personOf_6 : decode cX9_personOf 6 = .ok (.getfield 19, 3) := by decide +kernel
theorem dX9_personOf_9 : decode cX9_personOf 9 = .ok (.getfield 107, 3) := by decide +kernel
theorem dX9_personOf_12 : decode cX9_personOf 12 = .ok (.getfield 175, 3) := by decide +kernel
theorem dX9_personOf_15 : decode cX9_personOf 15 = .ok (.iload_n 1, 1) := by decide +kernel
theorem dX9_personOf_16 : decode cX9_personOf 16 = .ok (.iaload, 1) := by decide +kernel
theorem dX9_personOf_17 : decode cX9_personOf 17 = .ok (.ireturn, 1) := by decide +kernel
set_option maxRecDepth 20000 in
theorem ggX9_sortOf_X9_checkComplaint : GoodIn wsX9_sortOf wsX9_checkComplaint := goodIn_ca (goodIn_r _ [8, 9, 10, 1, 2, 11, 12, 13, 14, 15, 16, 17, 18, 19, 20, 21, 22, 23, 24, 25, 26, 27, 28, 29, 30, 31, 32, 33, 34] (by decide +kernel) (by decide +kernel)) (goodIn_sub (fun _ h => List.mem_cons_of_mem _ (List.mem_append_right _ h)) (by decide +kernel))
set_option maxRecDepth 20000 in
theorem gX9_sortOf_X9_checkComplaint : GoodIn wsX9_sortOf (wsV RX9 172 RX9 yX9_checkComplaint wsX9_checkComplaint) := goodIn_app (goodIn_of _ (by decide +kernel)) ggX9_sortOf_X9_checkComplaint
theorem dX9_sortOf_0 : decode cX9_sortOf 0 = .ok (.aload_n 0, 1) := by decide +kernel
theorem dX9_sortOf_1 : decode cX9_sortOf 1 = .ok (.iload_n 1, 1) := by decide +kernel
theorem dX9_sortOf_2 : decode cX9_sortOf 2 = .ok (.invokevirtual 172, 3) := by decide +kernel
theorem dX9_sortOf_5 : decode cX9_sortOf 5 = .ok (.aload_n 0, 1) := by decide +kernel
theorem dX9_sortOf_6 : decode cX9_sortOf 6 = .ok (.getfield 19, 3) := by decide +kernel
theorem dX9_sortOf_9 : decode cX9_sortOf 9 = .ok (.getfield 107, 3) := by decide +kernel
theorem dX9_sortOf_12 : decode cX9_sortOf 12 = .ok (.getfield 179, 3) := by decide +kernel
theorem dX9_sortOf_15 : decode cX9_sortOf 15 = .ok (.iload_n 1, 1) := by decide +kernel
theorem dX9_sortOf_16 : decode cX9_sortOf 16 = .ok (.iaload, 1) := by decide +kernel
theorem dX9_sortOf_17 : decode cX9_sortOf 17 = .ok (.ireturn, 1) := by decide +kernel
set_option maxRecDepth 20000 in
theorem ggX9_angerOf_X9_checkComplaint : GoodIn wsX9_angerOf wsX9_checkComplaint := goodIn_ca (goodIn_r _ [8, 9, 10, 1, 2, 11, 12, 13, 14, 15, 16, 17, 18, 19, 20, 21, 22, 23, 24, 25, 26, 27, 28, 29, 30, 31, 32, 33, 34] (by decide +kernel) (by decide +kernel)) (goodIn_sub (fun _ h => List.mem_cons_of_mem _ (List.mem_append_right _ h)) (by decide +kernel))
set_option maxRecDepth 20000 in
theorem gX9_angerOf_X9_checkComplaint : GoodIn wsX9_angerOf (wsV RX9 172 RX9 yX9_checkComplaint wsX9_checkComplaint) := goodIn_app (goodIn_of _ (by decide +kernel)) ggX9_angerOf_X9_checkComplaint
theorem dX9_angerOf_0 : decode cX9_angerOf 0 = .ok (.aload_n 0, 1) := by decide +kernel
theorem dX9_angerOf_1 : decode cX9_angerOf 1 = .ok (.iload_n 1, 1) := by decide +kernel
theorem dX9_angerOf_2 : decode cX9_angerOf 2 = .ok (.invokevirtual 172, 3) := by decide +kernel
theorem dX9_angerOf_5 : decode cX9_angerOf 5 = .ok (.aload_n 0, 1) := by decide +kernel
theorem dX9_angerOf_6 : decode cX9_angerOf 6 = .ok (.getfield 19, 3) := by decide +kernel
theorem dX9_angerOf_9 : decode cX9_angerOf 9 = .ok (.getfield 107, 3) := by decide +kernel
theorem dX9_angerOf_12 : decode cX9_angerOf 12 = .ok (.getfield 182, 3) := by decide +kernel
theorem dX9_angerOf_15 : decode cX9_angerOf 15 = .ok (.iload_n 1, 1) := by decide +kernel
theorem dX9_angerOf_16 : decode cX9_angerOf 16 = .ok (.iaload, 1) := by decide +kernel
theorem dX9_angerOf_17 : decode cX9_angerOf 17 = .ok (.ireturn, 1) := by decide +kernel
set_option maxRecDepth 20000 in
theorem ggX9_filedIn_X9_checkComplaint : GoodIn wsX9_filedIn wsX9_checkComplaint := goodIn_ca (goodIn_r _ [8, 9, 10, 1, 2, 11, 12, 13, 14, 15, 16, 17, 18, 19, 20, 21, 22, 23, 24, 25, 26, 27, 28, 29, 30, 31, 32, 33, 34] (by decide +kernel) (by decide +kernel)) (goodIn_sub (fun _ h => List.mem_cons_of_mem _ (List.mem_append_right _ h)) (by decide +kernel))
set_option maxRecDepth 20000 in
theorem gX9_filedIn_X9_checkComplaint : GoodIn wsX9_filedIn (wsV RX9 172 RX9 yX9_checkComplaint wsX9_checkComplaint) := goodIn_app (goodIn_of _ (by decide +kernel)) ggX9_filedIn_X9_checkComplaint
theorem dX9_filedIn_0 : decode cX9_filedIn 0 = .ok (.aload_n 0, 1) := by decide +kernel
theorem dX9_filedIn_1 : decode cX9_filedIn 1 = .ok (.iload_n 1, 1) := by decide +kernel
theorem dX9_filedIn_2 : decode cX9_filedIn 2 = .ok (.invokevirtual 172, 3) := by decide +kernel
theorem dX9_filedIn_5 : decode cX9_filedIn 5 = .ok (.aload_n 0, 1) := by decide +kernel
theorem dX9_filedIn_6 : decode cX9_filedIn 6 = .ok (.getfield 19, 3) := by decide +kernel
theorem dX9_filedIn_9 : decode cX9_filedIn 9 = .ok (.getfield 107, 3) := by decide +kernel
theorem dX9_filedIn_12 : decode cX9_filedIn 12 = .ok (.getfield 185, 3) := by decide +kernel
theorem dX9_filedIn_15 : decode cX9_filedIn 15 = .ok (.iload_n 1, 1) := by decide +kernel
theorem dX9_filedIn_16 : decode cX9_filedIn 16 = .ok (.iaload, 1) := by decide +kernel
theorem dX9_filedIn_17 : decode cX9_filedIn 17 = .ok (.ireturn, 1) := by decide +kernel
set_option maxRecDepth 20000 in
theorem ggX9_isWaiting_X9_checkComplaint : GoodIn wsX9_isWaiting wsX9_checkComplaint := goodIn_ca (goodIn_r _ [8, 9, 10, 1, 2, 11, 12, 13, 14, 15, 16, 17, 18, 19, 20, 21, 22, 23, 24, 25, 26, 27, 28, 29, 30, 31, 32, 33, 34] (by decide +kernel) (by decide +kernel)) (goodIn_sub (fun _ h => List.mem_cons_of_mem _ (List.mem_append_right _ h)) (by decide +kernel))
set_option maxRecDepth 20000 in
theorem gX9_isWaiting_X9_checkComplaint : GoodIn wsX9_isWaiting (wsV RX9 172 RX9 yX9_checkComplaint wsX9_checkComplaint) := goodIn_app (goodIn_of _ (by decide +kernel)) ggX9_isWaiting_X9_checkComplaint
theorem dX9_isWaiting_0 : decode cX9_isWaiting 0 = .ok (.aload_n 0, 1) := by decide +kernel
theorem dX9_isWaiting_1 : decode cX9_isWaiting 1 = .ok (.iload_n 1, 1) := by decide +kernel
theorem dX9_isWaiting_2 : decode cX9_isWaiting 2 = .ok (.invokevirtual 172, 3) := by decide +kernel
theorem dX9_isWaiting_5 : decode cX9_isWaiting 5 = .ok (.aload_n 0, 1) := by decide +kernel
theorem dX9_isWaiting_6 : decode cX9_isWaiting 6 = .ok (.getfield 19, 3) := by decide +kernel
theorem dX9_isWaiting_9 : decode cX9_isWaiting 9 = .ok (.getfield 107, 3) := by decide +kernel
theorem dX9_isWaiting_12 : decode cX9_isWaiting 12 = .ok (.getfield 188, 3) := by decide +kernel
theorem dX9_isWaiting_15 : decode cX9_isWaiting 15 = .ok (.iload_n 1, 1) := by decide +kernel
theorem dX9_isWaiting_16 : decode cX9_isWaiting 16 = .ok (.iaload, 1) := by decide +kernel
theorem dX9_isWaiting_17 : decode cX9_isWaiting 17 = .ok (.ifCond .ne 7, 3) := by decide +kernel
theorem dX9_isWaiting_20 : decode cX9_isWaiting 20 = .ok (.iconst 1, 1) := by decide +kernel
theorem dX9_isWaiting_21 : decode cX9_isWaiting 21 = .ok (.goto 4, 3) := by decide +kernel
theorem dX9_isWaiting_24 : decode cX9_isWaiting 24 = .ok (.iconst 0, 1) := by decide +kernel
theorem dX9_isWaiting_25 : decode cX9_isWaiting 25 = .ok (.ireturn, 1) := by decide +kernel
set_option maxRecDepth 20000 in
theorem ggX9_isAnswered_X9_checkComplaint : GoodIn wsX9_isAnswered wsX9_checkComplaint := goodIn_ca (goodIn_r _ [8, 9, 10, 1, 2, 11, 12, 13, 14, 15, 16, 17, 18, 19, 20, 21, 22, 23, 24, 25, 26, 27, 28, 29, 30, 31, 32, 33, 34] (by decide +kernel) (by decide +kernel)) (goodIn_sub (fun _ h => List.mem_cons_of_mem _ (List.mem_append_right _ h)) (by decide +kernel))
set_option maxRecDepth 20000 in
theorem gX9_isAnswered_X9_checkComplaint : GoodIn wsX9_isAnswered (wsV RX9 172 RX9 yX9_checkComplaint wsX9_checkComplaint) := goodIn_app (goodIn_of _ (by decide +kernel)) ggX9_isAnswered_X9_checkComplaint
theorem dX9_isAnswered_0 : decode cX9_isAnswered 0 = .ok (.aload_n 0, 1) := by decide +kernel
theorem dX9_isAnswered_1 : decode cX9_isAnswered 1 = .ok (.iload_n 1, 1) := by decide +kernel
theorem dX9_isAnswered_2 : decode cX9_isAnswered 2 = .ok (.invokevirtual 172, 3) := by decide +kernel
theorem dX9_isAnswered_5 : decode cX9_isAnswered 5 = .ok (.aload_n 0, 1) := by decide +kernel
theorem dX9_isAnswered_6 : decode cX9_isAnswered 6 = .ok (.getfield 19, 3) := by decide +kernel
theorem dX9_isAnswered_9 : decode cX9_isAnswered 9 = .ok (.getfield 107, 3) := by decide +kernel
theorem dX9_isAnswered_12 : decode cX9_isAnswered 12 = .ok (.getfield 188, 3) := by decide +kernel
theorem dX9_isAnswered_15 : decode cX9_isAnswered 15 = .ok (.iload_n 1, 1) := by decide +kernel
theorem dX9_isAnswered_16 : decode cX9_isAnswered 16 = .ok (.iaload, 1) := by decide +kernel
theorem dX9_isAnswered_17 : decode cX9_isAnswered 17 = .ok (.iconst 1, 1) := by decide +kernel
theorem dX9_isAnswered_18 : decode cX9_isAnswered 18 = .ok (.if_icmp .ne 7, 3) := by decide +kernel
theorem dX9_isAnswered_21 : decode cX9_isAnswered 21 = .ok (.iconst 1, 1) := by decide +kernel
theorem dX9_isAnswered_22 : decode cX9_isAnswered 22 = .ok (.goto 4, 3) := by decide +kernel
theorem dX9_isAnswered_25 : decode cX9_isAnswered 25 = .ok (.iconst 0, 1) := by decide +kernel
theorem dX9_isAnswered_26 : decode cX9_isAnswered 26 = .ok (.ireturn, 1) := by decide +kernel
set_option maxRecDepth 20000 in
theorem ggX9_isDismissed_X9_checkComplaint : GoodIn wsX9_isDismissed wsX9_checkComplaint := goodIn_ca (goodIn_r _ [8, 9, 10, 1, 2, 11, 12, 13, 14, 15, 16, 17, 18, 19, 20, 21, 22, 23, 24, 25, 26, 27, 28, 29, 30, 31, 32, 33, 34] (by decide +kernel) (by decide +kernel)) (goodIn_sub (fun _ h => List.mem_cons_of_mem _ (List.mem_append_right _ h)) (by decide +kernel))
set_option maxRecDepth 20000 in
theorem gX9_isDismissed_X9_checkComplaint : GoodIn wsX9_isDismissed (wsV RX9 172 RX9 yX9_checkComplaint wsX9_checkComplaint) := goodIn_app (goodIn_of _ (by decide +kernel)) ggX9_isDismissed_X9_checkComplaint
theorem dX9_isDismissed_0 : decode cX9_isDismissed 0 = .ok (.aload_n 0, 1) := by decide +kernel
theorem dX9_isDismissed_1 : decode cX9_isDismissed 1 = .ok (.iload_n 1, 1) := by decide +kernel
theorem dX9_isDismissed_2 : decode cX9_isDismissed 2 = .ok (.invokevirtual 172, 3) := by decide +kernel
theorem dX9_isDismissed_5 : decode cX9_isDismissed 5 = .ok (.aload_n 0, 1) := by decide +kernel
theorem dX9_isDismissed_6 : decode cX9_isDismissed 6 = .ok (.getfield 19, 3) := by decide +kernel
theorem dX9_isDismissed_9 : decode cX9_isDismissed 9 = .ok (.getfield 107, 3) := by decide +kernel
theorem dX9_isDismissed_12 : decode cX9_isDismissed 12 = .ok (.getfield 188, 3) := by decide +kernel
theorem dX9_isDismissed_15 : decode cX9_isDismissed 15 = .ok (.iload_n 1, 1) := by decide +kernel
theorem dX9_isDismissed_16 : decode cX9_isDismissed 16 = .ok (.iaload, 1) := by decide +kernel
theorem dX9_isDismissed_17 : decode cX9_isDismissed 17 = .ok (.iconst 2, 1) := by decide +kernel
theorem dX9_isDismissed_18 : decode cX9_isDismissed 18 = .ok (.if_icmp .ne 7, 3) := by decide +kernel
theorem dX9_isDismissed_21 : decode cX9_isDismissed 21 = .ok (.iconst 1, 1) := by decide +kernel
theorem dX9_isDismissed_22 : decode cX9_isDismissed 22 = .ok (.goto 4, 3) := by decide +kernel
theorem dX9_isDismissed_25 : decode cX9_isDismissed 25 = .ok (.iconst 0, 1) := by decide +kernel
theorem dX9_isDismissed_26 : decode cX9_isDismissed 26 = .ok (.ireturn, 1) := by decide +kernel
set_option maxRecDepth 20000 in
theorem ggX9_isGivenUp_X9_checkComplaint : GoodIn wsX9_isGivenUp wsX9_checkComplaint := goodIn_ca (goodIn_r _ [8, 9, 10, 1, 2, 11, 12, 13, 14, 15, 16, 17, 18, 19, 20, 21, 22, 23, 24, 25, 26, 27, 28, 29, 30, 31, 32, 33, 34] (by decide +kernel) (by decide +kernel)) (goodIn_sub (fun _ h => List.mem_cons_of_mem _ (List.mem_append_right _ h)) (by decide +kernel))
set_option maxRecDepth 20000 in
theorem gX9_isGivenUp_X9_checkComplaint : GoodIn wsX9_isGivenUp (wsV RX9 172 RX9 yX9_checkComplaint wsX9_checkComplaint) := goodIn_app (goodIn_of _ (by decide +kernel)) ggX9_isGivenUp_X9_checkComplaint
theorem dX9_isGivenUp_0 : decode cX9_isGivenUp 0 = .ok (.aload_n 0, 1) := by decide +kernel
theorem dX9_isGivenUp_1 : decode cX9_isGivenUp 1 = .ok (.iload_n 1, 1) := by decide +kernel
theorem dX9_isGivenUp_2 : decode cX9_isGivenUp 2 = .ok (.invokevirtual 172, 3) := by decide +kernel
theorem dX9_isGivenUp_5 : decode cX9_isGivenUp 5 = .ok (.aload_n 0, 1) := by decide +kernel
theorem dX9_isGivenUp_6 : decode cX9_isGivenUp 6 = .ok (.getfield 19, 3) := by decide +kernel
theorem dX9_isGivenUp_9 : decode cX9_isGivenUp 9 = .ok (.getfield 107, 3) := by decide +kernel
theorem dX9_isGivenUp_12 : decode cX9_isGivenUp 12 = .ok (.getfield 188, 3) := by decide +kernel
theorem dX9_isGivenUp_15 : decode cX9_isGivenUp 15 = .ok (.iload_n 1, 1) := by decide +kernel
theorem dX9_isGivenUp_16 : decode cX9_isGivenUp 16 = .ok (.iaload, 1) := by decide +kernel
theorem dX9_isGivenUp_17 : decode cX9_isGivenUp 17 = .ok (.iconst 3, 1) := by decide +kernel
theorem dX9_isGivenUp_18 : decode cX9_isGivenUp 18 = .ok (.if_icmp .ne 7, 3) := by decide +kernel
theorem dX9_isGivenUp_21 : decode cX9_isGivenUp 21 = .ok (.iconst 1, 1) := by decide +kernel
theorem dX9_isGivenUp_22 : decode cX9_isGivenUp 22 = .ok (.goto 4, 3) := by decide +kernel
theorem dX9_isGivenUp_25 : decode cX9_isGivenUp 25 = .ok (.iconst 0, 1) := by decide +kernel
theorem dX9_isGivenUp_26 : decode cX9_isGivenUp 26 = .ok (.ireturn, 1) := by decide +kernel
set_option maxRecDepth 20000 in
theorem ggX9_closedIn_X9_checkComplaint : GoodIn wsX9_closedIn wsX9_checkComplaint := goodIn_ca (goodIn_r _ [11, 12, 13, 3, 4, 14, 15, 16, 17, 18, 19, 20, 21, 22, 23, 24, 25, 26, 27, 28, 29, 30, 31, 32, 33, 34, 35, 36, 37] (by decide +kernel) (by decide +kernel)) (goodIn_sub (fun _ h => List.mem_cons_of_mem _ (List.mem_append_right _ h)) (by decide +kernel))
set_option maxRecDepth 20000 in
theorem gX9_closedIn_X9_checkComplaint : GoodIn wsX9_closedIn (wsV RX9 172 RX9 yX9_checkComplaint wsX9_checkComplaint) := goodIn_app (goodIn_of _ (by decide +kernel)) ggX9_closedIn_X9_checkComplaint
theorem dX9_closedIn_0 : decode cX9_closedIn 0 = .ok (.aload_n 0, 1) := by decide +kernel
theorem dX9_closedIn_1 : decode cX9_closedIn 1 = .ok (.iload_n 1, 1) := by decide +kernel
theorem dX9_closedIn_2 : decode cX9_closedIn 2 = .ok (.invokevirtual 172, 3) := by decide +kernel
theorem dX9_closedIn_5 : decode cX9_closedIn 5 = .ok (.aload_n 0, 1) := by decide +kernel
theorem dX9_closedIn_6 : decode cX9_closedIn 6 = .ok (.getfield 19, 3) := by decide +kernel
theorem dX9_closedIn_9 : decode cX9_closedIn 9 = .ok (.getfield 107, 3) := by decide +kernel
theorem dX9_closedIn_12 : decode cX9_closedIn 12 = .ok (.getfield 188, 3) := by decide +kernel
theorem dX9_closedIn_15 : decode cX9_closedIn 15 = .ok (.iload_n 1, 1) := by decide +kernel
theorem dX9_closedIn_16 : decode cX9_closedIn 16 = .ok (.iaload, 1) := by decide +kernel
theorem dX9_closedIn_17 : decode cX9_closedIn 17 = .ok (.ifCond .ne 13, 3) := by decide +kernel
theorem dX9_closedIn_20 : decode cX9_closedIn 20 = .ok (.new 116, 3) := by decide +kernel
theorem dX9_closedIn_23 : decode cX9_closedIn 23 = .ok (.dup, 1) := by decide +kernel
theorem dX9_closedIn_24 : decode cX9_closedIn 24 = .ok (.ldc 191, 2) := by decide +kernel
theorem dX9_closedIn_26 : decode cX9_closedIn 26 = .ok (.invokespecial 120, 3) := by decide +kernel
theorem dX9_closedIn_29 : decode cX9_closedIn 29 = .ok (.athrow, 1) := by decide +kernel
theorem dX9_closedIn_30 : decode cX9_closedIn 30 = .ok (.aload_n 0, 1) := by decide +kernel
theorem dX9_closedIn_31 : decode cX9_closedIn 31 = .ok (.getfield 19, 3) := by decide +kernel
theorem dX9_closedIn_34 : decode cX9_closedIn 34 = .ok (.getfield 107, 3) := by decide +kernel
theorem dX9_closedIn_37 : decode cX9_closedIn 37 = .ok (.getfield 193, 3) := by decide +kernel
theorem dX9_closedIn_40 : decode cX9_closedIn 40 = .ok (.iload_n 1, 1) := by decide +kernel
theorem dX9_closedIn_41 : decode cX9_closedIn 41 = .ok (.iaload, 1) := by decide +kernel
theorem dX9_closedIn_42 : decode cX9_closedIn 42 = .ok (.ireturn, 1) := by decide +kernel
set_option maxRecDepth 20000 in
theorem ggX9_clerkOf_X9_checkComplaint : GoodIn wsX9_clerkOf wsX9_checkComplaint := goodIn_ca (goodIn_r _ [10, 11, 12, 3, 4, 13, 14, 15, 16, 17, 18, 19, 20, 21, 22, 23, 24, 25, 26, 27, 28, 29, 30, 31, 32, 33, 34, 35, 36] (by decide +kernel) (by decide +kernel)) (goodIn_sub (fun _ h => List.mem_cons_of_mem _ (List.mem_append_right _ h)) (by decide +kernel))
set_option maxRecDepth 20000 in
theorem gX9_clerkOf_X9_checkComplaint : GoodIn wsX9_clerkOf (wsV RX9 172 RX9 yX9_checkComplaint wsX9_checkComplaint) := goodIn_app (goodIn_of _ (by decide +kernel)) ggX9_clerkOf_X9_checkComplaint
theorem dX9_clerkOf_0 : decode cX9_clerkOf 0 = .ok (.aload_n 0, 1) := by decide +kernel
theorem dX9_clerkOf_1 : decode cX9_clerkOf 1 = .ok (.iload_n 1, 1) := by decide +kernel
theorem dX9_clerkOf_2 : decode cX9_clerkOf 2 = .ok (.invokevirtual 172, 3) := by decide +kernel
theorem dX9_clerkOf_5 : decode cX9_clerkOf 5 = .ok (.aload_n 0, 1) := by decide +kernel
theorem dX9_clerkOf_6 : decode cX9_clerkOf 6 = .ok (.getfield 19, 3) := by decide +kernel
theorem dX9_clerkOf_9 : decode cX9_clerkOf 9 = .ok (.getfield 107, 3) := by decide +kernel
theorem dX9_clerkOf_12 : decode cX9_clerkOf 12 = .ok (.getfield 196, 3) := by decide +kernel
theorem dX9_clerkOf_15 : decode cX9_clerkOf 15 = .ok (.iload_n 1, 1) := by decide +kernel
theorem dX9_clerkOf_16 : decode cX9_clerkOf 16 = .ok (.iaload, 1) := by decide +kernel
theorem dX9_clerkOf_17 : decode cX9_clerkOf 17 = .ok (.istore_n 2, 1) := by decide +kernel
theorem dX9_clerkOf_18 : decode cX9_clerkOf 18 = .ok (.iload_n 2, 1) := by decide +kernel
theorem dX9_clerkOf_19 : decode cX9_clerkOf 19 = .ok (.iconst (-1), 1) := by decide +kernel
theorem dX9_clerkOf_20 : decode cX9_clerkOf 20 = .ok (.if_icmp .ne 13, 3) := by decide +kernel
theorem dX9_clerkOf_23 : decode cX9_clerkOf 23 = .ok (.new 116, 3) := by decide +kernel
theorem dX9_clerkOf_26 : decode cX9_clerkOf 26 = .ok (.dup, 1) := by decide +kernel
theorem dX9_clerkOf_27 : decode cX9_clerkOf 27 = .ok (.ldc 199, 2) := by decide +kernel
theorem dX9_clerkOf_29 : decode cX9_clerkOf 29 = .ok (.invokespecial 120, 3) := by decide +kernel
theorem dX9_clerkOf_32 : decode cX9_clerkOf 32 = .ok (.athrow, 1) := by decide +kernel
theorem dX9_clerkOf_33 : decode cX9_clerkOf 33 = .ok (.iload_n 2, 1) := by decide +kernel
theorem dX9_clerkOf_34 : decode cX9_clerkOf 34 = .ok (.ireturn, 1) := by decide +kernel
set_option maxRecDepth 20000 in
theorem ggX9_waitingOf_X9_checkRange : GoodIn wsX9_waitingOf wsX9_checkRange := goodIn_ca (goodIn_r _ [8, 9, 10] (by decide +kernel) (by decide +kernel)) (goodIn_sub (fun _ h => List.mem_cons_of_mem _ (List.mem_append_right _ h)) (by decide +kernel))
set_option maxRecDepth 20000 in
theorem gX9_waitingOf_X9_checkRange : GoodIn wsX9_waitingOf (va_wsS RX9 201 yX9_checkRange wsX9_checkRange) := goodIn_app (goodIn_of _ (by decide +kernel)) ggX9_waitingOf_X9_checkRange
set_option maxRecDepth 20000 in
theorem ggX9_waitingOf_X9_checkSort : GoodIn wsX9_waitingOf wsX9_checkSort := goodIn_ca (goodIn_r _ [13, 5, 6, 7, 8, 9, 10] (by decide +kernel) (by decide +kernel)) (goodIn_sub (fun _ h => List.mem_cons_of_mem _ (List.mem_append_right _ h)) (by decide +kernel))
set_option maxRecDepth 20000 in
theorem gX9_waitingOf_X9_checkSort : GoodIn wsX9_waitingOf (va_wsS RX9 159 yX9_checkSort wsX9_checkSort) := goodIn_app (goodIn_of _ (by decide +kernel)) ggX9_waitingOf_X9_checkSort
set_option maxRecDepth 20000 in
theorem ggX9_waitingOf_X5_findWaiting : GoodIn wsX9_waitingOf wsX5_findWaiting := goodIn_r _ [18, 19, 20, 21, 22, 33, 34, 35, 36, 37, 38, 39, 40] (by decide +kernel) (by decide +kernel)
set_option maxRecDepth 20000 in
theorem gX9_waitingOf_X5_findWaiting : GoodIn wsX9_waitingOf (wsV RX9 205 RX5 yX5_findWaiting wsX5_findWaiting) := goodIn_app (goodIn_of _ (by decide +kernel)) ggX9_waitingOf_X5_findWaiting
theorem dX9_waitingOf_0 : decode cX9_waitingOf 0 = .ok (.iload_n 1, 1) := by decide +kernel
theorem dX9_waitingOf_1 : decode cX9_waitingOf 1 = .ok (.iconst 0, 1) := by decide +kernel
theorem dX9_waitingOf_2 : decode cX9_waitingOf 2 = .ok (.bipush 99, 2) := by decide +kernel
theorem dX9_waitingOf_4 : decode cX9_waitingOf 4 = .ok (.invokestatic 201, 3) := by decide +kernel
theorem dX9_waitingOf_7 : decode cX9_waitingOf 7 = .ok (.iload_n 2, 1) := by decide +kernel
theorem dX9_waitingOf_8 : decode cX9_waitingOf 8 = .ok (.invokestatic 159, 3) := by decide +kernel
theorem dX9_waitingOf_11 : decode cX9_waitingOf 11 = .ok (.aload_n 0, 1) := by decide +kernel
theorem dX9_waitingOf_12 : decode cX9_waitingOf 12 = .ok (.getfield 19, 3) := by decide +kernel
theorem dX9_waitingOf_15 : decode cX9_waitingOf 15 = .ok (.getfield 107, 3) := by decide +kernel
theorem dX9_waitingOf_18 : decode cX9_waitingOf 18 = .ok (.iload_n 1, 1) := by decide +kernel
theorem dX9_waitingOf_19 : decode cX9_waitingOf 19 = .ok (.iload_n 2, 1) := by decide +kernel
theorem dX9_waitingOf_20 : decode cX9_waitingOf 20 = .ok (.invokevirtual 205, 3) := by decide +kernel
theorem dX9_waitingOf_23 : decode cX9_waitingOf 23 = .ok (.istore_n 3, 1) := by decide +kernel
theorem dX9_waitingOf_24 : decode cX9_waitingOf 24 = .ok (.iload_n 3, 1) := by decide +kernel
theorem dX9_waitingOf_25 : decode cX9_waitingOf 25 = .ok (.iconst (-1), 1) := by decide +kernel
theorem dX9_waitingOf_26 : decode cX9_waitingOf 26 = .ok (.if_icmp .ne 13, 3) := by decide +kernel
theorem dX9_waitingOf_29 : decode cX9_waitingOf 29 = .ok (.new 116, 3) := by decide +kernel
theorem dX9_waitingOf_32 : decode cX9_waitingOf 32 = .ok (.dup, 1) := by decide +kernel
theorem dX9_waitingOf_33 : decode cX9_waitingOf 33 = .ok (.ldc 208, 2) := by decide +kernel
theorem dX9_waitingOf_35 : decode cX9_waitingOf 35 = .ok (.invokespecial 120, 3) := by decide +kernel
theorem dX9_waitingOf_38 : decode cX9_waitingOf 38 = .ok (.athrow, 1) := by decide +kernel
theorem dX9_waitingOf_39 : decode cX9_waitingOf 39 = .ok (.iload_n 3, 1) := by decide +kernel
theorem dX9_waitingOf_40 : decode cX9_waitingOf 40 = .ok (.ireturn, 1) := by decide +kernel
set_option maxRecDepth 20000 in
theorem ggX9_waitingCount_X5_countInState : GoodIn wsX9_waitingCount wsX5_countInState := goodIn_r _ [7, 8, 9, 20, 21, 22, 23, 24, 25, 26, 27] (by decide +kernel) (by decide +kernel)
set_option maxRecDepth 20000 in
theorem gX9_waitingCount_X5_countInState : GoodIn wsX9_waitingCount (wsV RX9 210 RX5 yX5_countInState wsX5_countInState) := goodIn_app (goodIn_of _ (by decide +kernel)) ggX9_waitingCount_X5_countInState
theorem dX9_waitingCount_0 : decode cX9_waitingCount 0 = .ok (.aload_n 0, 1) := by decide +kernel
theorem dX9_waitingCount_1 : decode cX9_waitingCount 1 = .ok (.getfield 19, 3) := by decide +kernel
theorem dX9_waitingCount_4 : decode cX9_waitingCount 4 = .ok (.getfield 107, 3) := by decide +kernel
theorem dX9_waitingCount_7 : decode cX9_waitingCount 7 = .ok (.iconst 0, 1) := by decide +kernel
theorem dX9_waitingCount_8 : decode cX9_waitingCount 8 = .ok (.invokevirtual 210, 3) := by decide +kernel
theorem dX9_waitingCount_11 : decode cX9_waitingCount 11 = .ok (.ireturn, 1) := by decide +kernel
set_option maxRecDepth 20000 in
theorem ggX9_answeredCount_X5_countInState : GoodIn wsX9_answeredCount wsX5_countInState := goodIn_r _ [7, 8, 9, 20, 21, 22, 23, 24, 25, 26, 27] (by decide +kernel) (by decide +kernel)
set_option maxRecDepth 20000 in
theorem gX9_answeredCount_X5_countInState : GoodIn wsX9_answeredCount (wsV RX9 210 RX5 yX5_countInState wsX5_countInState) := goodIn_app (goodIn_of _ (by decide +kernel)) ggX9_answeredCount_X5_countInState
theorem dX9_answeredCount_0 : decode cX9_answeredCount 0 = .ok (.aload_n 0, 1) := by decide +kernel
theorem dX9_answeredCount_1 : decode cX9_answeredCount 1 = .ok (.getfield 19, 3) := by decide +kernel
theorem dX9_answeredCount_4 : decode cX9_answeredCount 4 = .ok (.getfield 107, 3) := by decide +kernel
theorem dX9_answeredCount_7 : decode cX9_answeredCount 7 = .ok (.iconst 1, 1) := by decide +kernel
theorem dX9_answeredCount_8 : decode cX9_answeredCount 8 = .ok (.invokevirtual 210, 3) := by decide +kernel
theorem dX9_answeredCount_11 : decode cX9_answeredCount 11 = .ok (.ireturn, 1) := by decide +kernel
set_option maxRecDepth 20000 in
theorem ggX9_dismissedCount_X5_countInState : GoodIn wsX9_dismissedCount wsX5_countInState := goodIn_r _ [7, 8, 9, 20, 21, 22, 23, 24, 25, 26, 27] (by decide +kernel) (by decide +kernel)
set_option maxRecDepth 20000 in
theorem gX9_dismissedCount_X5_countInState : GoodIn wsX9_dismissedCount (wsV RX9 210 RX5 yX5_countInState wsX5_countInState) := goodIn_app (goodIn_of _ (by decide +kernel)) ggX9_dismissedCount_X5_countInState
theorem dX9_dismissedCount_0 : decode cX9_dismissedCount 0 = .ok (.aload_n 0, 1) := by decide +kernel
theorem dX9_dismissedCount_1 : decode cX9_dismissedCount 1 = .ok (.getfield 19, 3) := by decide +kernel
theorem dX9_dismissedCount_4 : decode cX9_dismissedCount 4 = .ok (.getfield 107, 3) := by decide +kernel
theorem dX9_dismissedCount_7 : decode cX9_dismissedCount 7 = .ok (.iconst 2, 1) := by decide +kernel
theorem dX9_dismissedCount_8 : decode cX9_dismissedCount 8 = .ok (.invokevirtual 210, 3) := by decide +kernel
theorem dX9_dismissedCount_11 : decode cX9_dismissedCount 11 = .ok (.ireturn, 1) := by decide +kernel
set_option maxRecDepth 20000 in
theorem ggX9_givenUpCount_X5_countInState : GoodIn wsX9_givenUpCount wsX5_countInState := goodIn_r _ [7, 8, 9, 20, 21, 22, 23, 24, 25, 26, 27] (by decide +kernel) (by decide +kernel)
set_option maxRecDepth 20000 in
theorem gX9_givenUpCount_X5_countInState : GoodIn wsX9_givenUpCount (wsV RX9 210 RX5 yX5_countInState wsX5_countInState) := goodIn_app (goodIn_of _ (by decide +kernel)) ggX9_givenUpCount_X5_countInState
theorem dX9_givenUpCount_0 : decode cX9_givenUpCount 0 = .ok (.aload_n 0, 1) := by decide +kernel
theorem dX9_givenUpCount_1 : decode cX9_givenUpCount 1 = .ok (.getfield 19, 3) := by decide +kernel
theorem dX9_givenUpCount_4 : decode cX9_givenUpCount 4 = .ok (.getfield 107, 3) := by decide +kernel
theorem dX9_givenUpCount_7 : decode cX9_givenUpCount 7 = .ok (.iconst 3, 1) := by decide +kernel
theorem dX9_givenUpCount_8 : decode cX9_givenUpCount 8 = .ok (.invokevirtual 210, 3) := by decide +kernel
theorem dX9_givenUpCount_11 : decode cX9_givenUpCount 11 = .ok (.ireturn, 1) := by decide +kernel
set_option maxRecDepth 20000 in
theorem ggX9_oldest_X5_firstFiled : GoodIn wsX9_oldest wsX5_firstFiled := goodIn_r _ [10, 11, 12, 13, 24, 25, 26, 27, 28, 29, 30, 31] (by decide +kernel) (by decide +kernel)
set_option maxRecDepth 20000 in
theorem gX9_oldest_X5_firstFiled : GoodIn wsX9_oldest (wsV RX9 213 RX5 yX5_firstFiled wsX5_firstFiled) := goodIn_app (goodIn_of _ (by decide +kernel)) ggX9_oldest_X5_firstFiled
theorem dX9_oldest_0 : decode cX9_oldest 0 = .ok (.aload_n 0, 1) := by decide +kernel
theorem dX9_oldest_1 : decode cX9_oldest 1 = .ok (.getfield 19, 3) := by decide +kernel
theorem dX9_oldest_4 : decode cX9_oldest 4 = .ok (.getfield 107, 3) := by decide +kernel
theorem dX9_oldest_7 : decode cX9_oldest 7 = .ok (.aload_n 0, 1) := by decide +kernel
theorem dX9_oldest_8 : decode cX9_oldest 8 = .ok (.getfield 19, 3) := by decide +kernel
theorem dX9_oldest_11 : decode cX9_oldest 11 = .ok (.getfield 124, 3) := by decide +kernel
theorem dX9_oldest_14 : decode cX9_oldest 14 = .ok (.invokevirtual 213, 3) := by decide +kernel
theorem dX9_oldest_17 : decode cX9_oldest 17 = .ok (.istore_n 1, 1) := by decide +kernel
theorem dX9_oldest_18 : decode cX9_oldest 18 = .ok (.iload_n 1, 1) := by decide +kernel
theorem dX9_oldest_19 : decode cX9_oldest 19 = .ok (.iconst (-1), 1) := by decide +kernel
theorem dX9_oldest_20 : decode cX9_oldest 20 = .ok (.if_icmp .ne 13, 3) := by decide +kernel
theorem dX9_oldest_23 : decode cX9_oldest 23 = .ok (.new 116, 3) := by decide +kernel
theorem dX9_oldest_26 : decode cX9_oldest 26 = .ok (.dup, 1) := by decide +kernel
theorem dX9_oldest_27 : decode cX9_oldest 27 = .ok (.ldc 216, 2) := by decide +kernel
theorem dX9_oldest_29 : decode cX9_oldest 29 = .ok (.invokespecial 120, 3) := by decide +kernel
theorem dX9_oldest_32 : decode cX9_oldest 32 = .ok (.athrow, 1) := by decide +kernel
theorem dX9_oldest_33 : decode cX9_oldest 33 = .ok (.iload_n 1, 1) := by decide +kernel
theorem dX9_oldest_34 : decode cX9_oldest 34 = .ok (.ireturn, 1) := by decide +kernel
set_option maxRecDepth 20000 in
theorem ggX9_angriest_X5_withMostAnger : GoodIn wsX9_angriest wsX5_withMostAnger := goodIn_r _ [9, 10, 11, 12, 13, 24, 25, 26, 27, 28, 29, 30, 31] (by decide +kernel) (by decide +kernel)
set_option maxRecDepth 20000 in
theorem gX9_angriest_X5_withMostAnger : GoodIn wsX9_angriest (wsV RX9 218 RX5 yX5_withMostAnger wsX5_withMostAnger) := goodIn_app (goodIn_of _ (by decide +kernel)) ggX9_angriest_X5_withMostAnger
theorem dX9_angriest_0 : decode cX9_angriest 0 = .ok (.aload_n 0, 1) := by decide +kernel
theorem dX9_angriest_1 : decode cX9_angriest 1 = .ok (.getfield 19, 3) := by decide +kernel
theorem dX9_angriest_4 : decode cX9_angriest 4 = .ok (.getfield 107, 3) := by decide +kernel
theorem dX9_angriest_7 : decode cX9_angriest 7 = .ok (.bipush 15, 2) := by decide +kernel
theorem dX9_angriest_9 : decode cX9_angriest 9 = .ok (.invokevirtual 218, 3) := by decide +kernel
theorem dX9_angriest_12 : decode cX9_angriest 12 = .ok (.istore_n 1, 1) := by decide +kernel
theorem dX9_angriest_13 : decode cX9_angriest 13 = .ok (.iload_n 1, 1) := by decide +kernel
theorem dX9_angriest_14 : decode cX9_angriest 14 = .ok (.iconst (-1), 1) := by decide +kernel
theorem dX9_angriest_15 : decode cX9_angriest 15 = .ok (.if_icmp .ne 13, 3) := by decide +kernel
theorem dX9_angriest_18 : decode cX9_angriest 18 = .ok (.new 116, 3) := by decide +kernel
theorem dX9_angriest_21 : decode cX9_angriest 21 = .ok (.dup, 1) := by decide +kernel
theorem dX9_angriest_22 : decode cX9_angriest 22 = .ok (.ldc 216, 2) := by decide +kernel
theorem dX9_angriest_24 : decode cX9_angriest 24 = .ok (.invokespecial 120, 3) := by decide +kernel
theorem dX9_angriest_27 : decode cX9_angriest 27 = .ok (.athrow, 1) := by decide +kernel
theorem dX9_angriest_28 : decode cX9_angriest 28 = .ok (.iload_n 1, 1) := by decide +kernel
theorem dX9_angriest_29 : decode cX9_angriest 29 = .ok (.ireturn, 1) := by decide +kernel
set_option maxRecDepth 20000 in
theorem ggX9_complaintsOf_X9_checkRange : GoodIn wsX9_complaintsOf wsX9_checkRange := goodIn_ca (goodIn_r _ [6, 7, 8] (by decide +kernel) (by decide +kernel)) (goodIn_sub (fun _ h => List.mem_cons_of_mem _ (List.mem_append_right _ h)) (by decide +kernel))
set_option maxRecDepth 20000 in
theorem gX9_complaintsOf_X9_checkRange : GoodIn wsX9_complaintsOf (va_wsS RX9 201 yX9_checkRange wsX9_checkRange) := goodIn_app (goodIn_of _ (by decide +kernel)) ggX9_complaintsOf_X9_checkRange
set_option maxRecDepth 20000 in
theorem ggX9_complaintsOf_X5_countOfPerson : GoodIn wsX9_complaintsOf wsX5_countOfPerson := goodIn_r _ [13, 14, 15, 26, 27, 28, 29, 30, 31, 32, 33] (by decide +kernel) (by decide +kernel)
set_option maxRecDepth 20000 in
theorem gX9_complaintsOf_X5_countOfPerson : GoodIn wsX9_complaintsOf (wsV RX9 221 RX5 yX5_countOfPerson wsX5_countOfPerson) := goodIn_app (goodIn_of _ (by decide +kernel)) ggX9_complaintsOf_X5_countOfPerson
theorem dX9_complaintsOf_0 : decode cX9_complaintsOf 0 = .ok (.iload_n 1, 1) := by decide +kernel
theorem dX9_complaintsOf_1 : decode cX9_complaintsOf 1 = .ok (.iconst 0, 1) := by decide +kernel
theorem dX9_complaintsOf_2 : decode cX9_complaintsOf 2 = .ok (.bipush 99, 2) := by decide +kernel
theorem dX9_complaintsOf_4 : decode cX9_complaintsOf 4 = .ok (.invokestatic 201, 3) := by decide +kernel
theorem dX9_complaintsOf_7 : decode cX9_complaintsOf 7 = .ok (.aload_n 0, 1) := by decide +kernel
theorem dX9_complaintsOf_8 : decode cX9_complaintsOf 8 = .ok (.getfield 19, 3) := by decide +kernel
theorem dX9_complaintsOf_11 : decode cX9_complaintsOf 11 = .ok (.getfield 107, 3) := by decide +kernel
theorem dX9_complaintsOf_14 : decode cX9_complaintsOf 14 = .ok (.iload_n 1, 1) := by decide +kernel
theorem dX9_complaintsOf_15 : decode cX9_complaintsOf 15 = .ok (.invokevirtual 221, 3) := by decide +kernel
theorem dX9_complaintsOf_18 : decode cX9_complaintsOf 18 = .ok (.ireturn, 1) := by decide +kernel
theorem dX9_clerkCount_0 : decode cX9_clerkCount 0 = .ok (.aload_n 0, 1) := by decide +kernel
theorem dX9_clerkCount_1 : decode cX9_clerkCount 1 = .ok (.getfield 19, 3) := by decide +kernel
theorem dX9_clerkCount_4 : decode cX9_clerkCount 4 = .ok (.getfield 224, 3) := by decide +kernel
theorem dX9_clerkCount_7 : decode cX9_clerkCount 7 = .ok (.getfield 228, 3) := by decide +kernel
theorem dX9_clerkCount_10 : decode cX9_clerkCount 10 = .ok (.ireturn, 1) := by decide +kernel
set_option maxRecDepth 20000 in
theorem ggX9_darkestClerk_X8_withLeastOil : GoodIn wsX9_darkestClerk wsX8_withLeastOil := goodIn_r _ [9, 10, 11, 22, 23, 24, 25] (by decide +kernel) (by decide +kernel)
set_option maxRecDepth 20000 in
theorem gX9_darkestClerk_X8_withLeastOil : GoodIn wsX9_darkestClerk (wsV RX9 231 RX8 yX8_withLeastOil wsX8_withLeastOil) := goodIn_app (goodIn_of _ (by decide +kernel)) ggX9_darkestClerk_X8_withLeastOil
theorem dX9_darkestClerk_0 : decode cX9_darkestClerk 0 = .ok (.aload_n 0, 1) := by decide +kernel
theorem dX9_darkestClerk_1 : decode cX9_darkestClerk 1 = .ok (.getfield 19, 3) := by decide +kernel
theorem dX9_darkestClerk_4 : decode cX9_darkestClerk 4 = .ok (.getfield 224, 3) := by decide +kernel
theorem dX9_darkestClerk_7 : decode cX9_darkestClerk 7 = .ok (.invokevirtual 231, 3) := by decide +kernel
theorem dX9_darkestClerk_10 : decode cX9_darkestClerk 10 = .ok (.istore_n 1, 1) := by decide +kernel
theorem dX9_darkestClerk_11 : decode cX9_darkestClerk 11 = .ok (.iload_n 1, 1) := by decide +kernel
theorem dX9_darkestClerk_12 : decode cX9_darkestClerk 12 = .ok (.iconst (-1), 1) := by decide +kernel
theorem dX9_darkestClerk_13 : decode cX9_darkestClerk 13 = .ok (.if_icmp .ne 13, 3) := by decide +kernel
theorem dX9_darkestClerk_16 : decode cX9_darkestClerk 16 = .ok (.new 116, 3) := by decide +kernel
theorem dX9_darkestClerk_19 : decode cX9_darkestClerk 19 = .ok (.dup, 1) := by decide +kernel
theorem dX9_darkestClerk_20 : decode cX9_darkestClerk 20 = .ok (.ldc 234, 2) := by decide +kernel
theorem dX9_darkestClerk_22 : decode cX9_darkestClerk 22 = .ok (.invokespecial 120, 3) := by decide +kernel
theorem dX9_darkestClerk_25 : decode cX9_darkestClerk 25 = .ok (.athrow, 1) := by decide +kernel
theorem dX9_darkestClerk_26 : decode cX9_darkestClerk 26 = .ok (.iload_n 1, 1) := by decide +kernel
theorem dX9_darkestClerk_27 : decode cX9_darkestClerk 27 = .ok (.ireturn, 1) := by decide +kernel
set_option maxRecDepth 20000 in
theorem ggX9_skillOf_X9_checkClerk : GoodIn wsX9_skillOf wsX9_checkClerk := goodIn_ca (goodIn_r _ [8, 9, 10, 1, 2, 11, 12, 13, 14, 15, 16, 17, 18, 19, 20, 21, 22, 23, 24, 25, 26, 27, 28, 29, 30] (by decide +kernel) (by decide +kernel)) (goodIn_sub (fun _ h => List.mem_cons_of_mem _ (List.mem_append_right _ h)) (by decide +kernel))
set_option maxRecDepth 20000 in
theorem gX9_skillOf_X9_checkClerk : GoodIn wsX9_skillOf (wsV RX9 236 RX9 yX9_checkClerk wsX9_checkClerk) := goodIn_app (goodIn_of _ (by decide +kernel)) ggX9_skillOf_X9_checkClerk
theorem dX9_skillOf_0 : decode cX9_skillOf 0 = .ok (.aload_n 0, 1) := by decide +kernel
theorem dX9_skillOf_1 : decode cX9_skillOf 1 = .ok (.iload_n 1, 1) := by decide +kernel
theorem dX9_skillOf_2 : decode cX9_skillOf 2 = .ok (.invokevirtual 236, 3) := by decide +kernel
theorem dX9_skillOf_5 : decode cX9_skillOf 5 = .ok (.aload_n 0, 1) := by decide +kernel
theorem dX9_skillOf_6 : decode cX9_skillOf 6 = .ok (.getfield 19, 3) := by decide +kernel
theorem dX9_skillOf_9 : decode cX9_skillOf 9 = .ok (.getfield 224, 3) := by decide +kernel
theorem dX9_skillOf_12 : decode cX9_skillOf 12 = .ok (.getfield 239, 3) := by decide +kernel
theorem dX9_skillOf_15 : decode cX9_skillOf 15 = .ok (.iload_n 1, 1) := by decide +kernel
theorem dX9_skillOf_16 : decode cX9_skillOf 16 = .ok (.iaload, 1) := by decide +kernel
theorem dX9_skillOf_17 : decode cX9_skillOf 17 = .ok (.ireturn, 1) := by decide +kernel
set_option maxRecDepth 20000 in
theorem ggX9_oilOf_X9_checkClerk : GoodIn wsX9_oilOf wsX9_checkClerk := goodIn_ca (goodIn_r _ [8, 9, 10, 1, 2, 11, 12, 13, 14, 15, 16, 17, 18, 19, 20, 21, 22, 23, 24, 25, 26, 27, 28, 29, 30] (by decide +kernel) (by decide +kernel)) (goodIn_sub (fun _ h => List.mem_cons_of_mem _ (List.mem_append_right _ h)) (by decide +kernel))
set_option maxRecDepth 20000 in
theorem gX9_oilOf_X9_checkClerk : GoodIn wsX9_oilOf (wsV RX9 236 RX9 yX9_checkClerk wsX9_checkClerk) := goodIn_app (goodIn_of _ (by decide +kernel)) ggX9_oilOf_X9_checkClerk
theorem dX9_oilOf_0 : decode cX9_oilOf 0 = .ok (.aload_n 0, 1) := by decide +kernel
theorem dX9_oilOf_1 : decode cX9_oilOf 1 = .ok (.iload_n 1, 1) := by decide +kernel
theorem dX9_oilOf_2 : decode cX9_oilOf 2 = .ok (.invokevirtual 236, 3) := by decide +kernel
theorem dX9_oilOf_5 : decode cX9_oilOf 5 = .ok (.aload_n 0, 1) := by decide +kernel
theorem dX9_oilOf_6 : decode cX9_oilOf 6 = .ok (.getfield 19, 3) := by decide +kernel
theorem dX9_oilOf_9 : decode cX9_oilOf 9 = .ok (.getfield 224, 3) := by decide +kernel
theorem dX9_oilOf_12 : decode cX9_oilOf 12 = .ok (.getfield 242, 3) := by decide +kernel
theorem dX9_oilOf_15 : decode cX9_oilOf 15 = .ok (.iload_n 1, 1) := by decide +kernel
theorem dX9_oilOf_16 : decode cX9_oilOf 16 = .ok (.iaload, 1) := by decide +kernel
theorem dX9_oilOf_17 : decode cX9_oilOf 17 = .ok (.ireturn, 1) := by decide +kernel
set_option maxRecDepth 20000 in
theorem ggX9_answeredBy_X9_checkClerk : GoodIn wsX9_answeredBy wsX9_checkClerk := goodIn_ca (goodIn_r _ [7, 8, 9, 1, 10, 11, 12, 13, 14, 15, 16, 25, 26, 27, 28, 29, 30, 31, 32, 33, 34, 35, 36, 37, 38] (by decide +kernel) (by decide +kernel)) (goodIn_sub (fun _ h => List.mem_cons_of_mem _ (List.mem_append_right _ h)) (by decide +kernel))
set_option maxRecDepth 20000 in
theorem gX9_answeredBy_X9_checkClerk : GoodIn wsX9_answeredBy (wsV RX9 236 RX9 yX9_checkClerk wsX9_checkClerk) := goodIn_app (goodIn_of _ (by decide +kernel)) ggX9_answeredBy_X9_checkClerk
set_option maxRecDepth 20000 in
theorem ggX9_answeredBy_X5_countAnsweredBy : GoodIn wsX9_answeredBy wsX5_countAnsweredBy := goodIn_r _ [21, 22, 23, 24, 39, 40, 41, 42, 43, 44, 45, 46] (by decide +kernel) (by decide +kernel)
set_option maxRecDepth 20000 in
theorem gX9_answeredBy_X5_countAnsweredBy : GoodIn wsX9_answeredBy (wsV RX9 245 RX5 yX5_countAnsweredBy wsX5_countAnsweredBy) := goodIn_app (goodIn_of _ (by decide +kernel)) ggX9_answeredBy_X5_countAnsweredBy
theorem dX9_answeredBy_0 : decode cX9_answeredBy 0 = .ok (.aload_n 0, 1) := by decide +kernel
theorem dX9_answeredBy_1 : decode cX9_answeredBy 1 = .ok (.iload_n 1, 1) := by decide +kernel
theorem dX9_answeredBy_2 : decode cX9_answeredBy 2 = .ok (.invokevirtual 236, 3) := by decide +kernel
theorem dX9_answeredBy_5 : decode cX9_answeredBy 5 = .ok (.aload_n 0, 1) := by decide +kernel
theorem dX9_answeredBy_6 : decode cX9_answeredBy 6 = .ok (.getfield 19, 3) := by decide +kernel
theorem dX9_answeredBy_9 : decode cX9_answeredBy 9 = .ok (.getfield 107, 3) := by decide +kernel
theorem dX9_answeredBy_12 : decode cX9_answeredBy 12 = .ok (.iload_n 1, 1) := by decide +kernel
theorem dX9_answeredBy_13 : decode cX9_answeredBy 13 = .ok (.invokevirtual 245, 3) := by decide +kernel
theorem dX9_answeredBy_16 : decode cX9_answeredBy 16 = .ok (.ireturn, 1) := by decide +kernel
set_option maxRecDepth 20000 in
theorem ggX9_oilCost_X6_costIn : GoodIn wsX9_oilCost wsX6_costIn := goodIn_r _ [8, 9, 10, 11, 7, 12, 13, 14, 15, 16, 17, 18, 19, 20, 21, 22, 23, 24, 25, 36, 37, 38, 39, 40] (by decide +kernel) (by decide +kernel)
set_option maxRecDepth 20000 in
theorem gX9_oilCost_X6_costIn : GoodIn wsX9_oilCost (wsV RX9 248 RX6 yX6_costIn wsX6_costIn) := goodIn_app (goodIn_of _ (by decide +kernel)) ggX9_oilCost_X6_costIn
theorem dX9_oilCost_0 : decode cX9_oilCost 0 = .ok (.aload_n 0, 1) := by decide +kernel
theorem dX9_oilCost_1 : decode cX9_oilCost 1 = .ok (.getfield 19, 3) := by decide +kernel
theorem dX9_oilCost_4 : decode cX9_oilCost 4 = .ok (.getfield 139, 3) := by decide +kernel
theorem dX9_oilCost_7 : decode cX9_oilCost 7 = .ok (.aload_n 0, 1) := by decide +kernel
theorem dX9_oilCost_8 : decode cX9_oilCost 8 = .ok (.getfield 19, 3) := by decide +kernel
theorem dX9_oilCost_11 : decode cX9_oilCost 11 = .ok (.getfield 124, 3) := by decide +kernel
theorem dX9_oilCost_14 : decode cX9_oilCost 14 = .ok (.invokevirtual 248, 3) := by decide +kernel
theorem dX9_oilCost_17 : decode cX9_oilCost 17 = .ok (.ireturn, 1) := by decide +kernel
theorem dX9_oilUsed_0 : decode cX9_oilUsed 0 = .ok (.aload_n 0, 1) := by decide +kernel
theorem dX9_oilUsed_1 : decode cX9_oilUsed 1 = .ok (.getfield 19, 3) := by decide +kernel
theorem dX9_oilUsed_4 : decode cX9_oilUsed 4 = .ok (.getfield 224, 3) := by decide +kernel
theorem dX9_oilUsed_7 : decode cX9_oilUsed 7 = .ok (.getfield 251, 3) := by decide +kernel
theorem dX9_oilUsed_10 : decode cX9_oilUsed 10 = .ok (.ireturn, 1) := by decide +kernel
set_option maxRecDepth 20000 in
theorem ggX9_comfort_X5_sumAnsweredAnger : GoodIn wsX9_comfort wsX5_sumAnsweredAnger := goodIn_r _ [7, 8, 9, 10, 21, 22, 23, 24, 25, 26, 27, 28] (by decide +kernel) (by decide +kernel)
set_option maxRecDepth 20000 in
theorem gX9_comfort_X5_sumAnsweredAnger : GoodIn wsX9_comfort (wsV RX9 254 RX5 yX5_sumAnsweredAnger wsX5_sumAnsweredAnger) := goodIn_app (goodIn_of _ (by decide +kernel)) ggX9_comfort_X5_sumAnsweredAnger
theorem dX9_comfort_0 : decode cX9_comfort 0 = .ok (.aload_n 0, 1) := by decide +kernel
theorem dX9_comfort_1 : decode cX9_comfort 1 = .ok (.getfield 19, 3) := by decide +kernel
theorem dX9_comfort_4 : decode cX9_comfort 4 = .ok (.getfield 107, 3) := by decide +kernel
theorem dX9_comfort_7 : decode cX9_comfort 7 = .ok (.invokevirtual 254, 3) := by decide +kernel
theorem dX9_comfort_10 : decode cX9_comfort 10 = .ok (.ireturn, 1) := by decide +kernel
set_option maxRecDepth 20000 in
theorem ggX9_meanWait_X5_countInState : GoodIn wsX9_meanWait wsX5_countInState := goodIn_r _ [7, 8, 9, 26, 27, 28, 29, 30, 31, 32, 33] (by decide +kernel) (by decide +kernel)
set_option maxRecDepth 20000 in
theorem gX9_meanWait_X5_countInState : GoodIn wsX9_meanWait (wsV RX9 210 RX5 yX5_countInState wsX5_countInState) := goodIn_app (goodIn_of _ (by decide +kernel)) ggX9_meanWait_X5_countInState
set_option maxRecDepth 20000 in
theorem ggX9_meanWait_X5_sumAnsweredWait : GoodIn wsX9_meanWait wsX5_sumAnsweredWait := goodIn_r _ [13, 8, 9, 14, 15, 26, 27, 28, 29, 30, 31, 32, 33] (by decide +kernel) (by decide +kernel)
set_option maxRecDepth 20000 in
theorem gX9_meanWait_X5_sumAnsweredWait : GoodIn wsX9_meanWait (wsV RX9 257 RX5 yX5_sumAnsweredWait wsX5_sumAnsweredWait) := goodIn_app (goodIn_of _ (by decide +kernel)) ggX9_meanWait_X5_sumAnsweredWait
theorem dX9_meanWait_0 : decode cX9_meanWait 0 = .ok (.aload_n 0, 1) := by decide +kernel
theorem dX9_meanWait_1 : decode cX9_meanWait 1 = .ok (.getfield 19, 3) := by decide +kernel
theorem dX9_meanWait_4 : decode cX9_meanWait 4 = .ok (.getfield 107, 3) := by decide +kernel
theorem dX9_meanWait_7 : decode cX9_meanWait 7 = .ok (.iconst 1, 1) := by decide +kernel
theorem dX9_meanWait_8 : decode cX9_meanWait 8 = .ok (.invokevirtual 210, 3) := by decide +kernel
theorem dX9_meanWait_11 : decode cX9_meanWait 11 = .ok (.istore_n 1, 1) := by decide +kernel
theorem dX9_meanWait_12 : decode cX9_meanWait 12 = .ok (.iload_n 1, 1) := by decide +kernel
theorem dX9_meanWait_13 : decode cX9_meanWait 13 = .ok (.ifCond .ne 5, 3) := by decide +kernel
theorem dX9_meanWait_16 : decode cX9_meanWait 16 = .ok (.dconst 0, 1) := by decide +kernel
theorem dX9_meanWait_17 : decode cX9_meanWait 17 = .ok (.dreturn, 1) := by decide +kernel
theorem dX9_meanWait_18 : decode cX9_meanWait 18 = .ok (.aload_n 0, 1) := by decide +kernel
theorem dX9_meanWait_19 : decode cX9_meanWait 19 = .ok (.getfield 19, 3) := by decide +kernel
theorem dX9_meanWait_22 : decode cX9_meanWait 22 = .ok (.getfield 107, 3) := by decide +kernel
theorem dX9_meanWait_25 : decode cX9_meanWait 25 = .ok (.invokevirtual 257, 3) := by decide +kernel
theorem dX9_meanWait_28 : decode cX9_meanWait 28 = .ok (.i2d, 1) := by decide +kernel
theorem dX9_meanWait_29 : decode cX9_meanWait 29 = .ok (.iload_n 1, 1) := by decide +kernel
theorem dX9_meanWait_30 : decode cX9_meanWait 30 = .ok (.i2d, 1) := by decide +kernel
theorem dX9_meanWait_31 : decode cX9_meanWait 31 = .ok (.ddiv, 1) := by decide +kernel
theorem dX9_meanWait_32 : decode cX9_meanWait 32 = .ok (.dreturn, 1) := by decide +kernel
set_option maxRecDepth 20000 in
theorem ggX9_answeredShare_X5_countInState : GoodIn wsX9_answeredShare wsX5_countInState := goodIn_r _ [8, 9, 10, 21, 22, 23, 24, 25, 26, 27, 28] (by decide +kernel) (by decide +kernel)
set_option maxRecDepth 20000 in
theorem gX9_answeredShare_X5_countInState : GoodIn wsX9_answeredShare (wsV RX9 210 RX5 yX5_countInState wsX5_countInState) := goodIn_app (goodIn_of _ (by decide +kernel)) ggX9_answeredShare_X5_countInState
theorem dX9_answeredShare_0 : decode cX9_answeredShare 0 = .ok (.aload_n 0, 1) := by decide +kernel
theorem dX9_answeredShare_1 : decode cX9_answeredShare 1 = .ok (.getfield 19, 3) := by decide +kernel
theorem dX9_answeredShare_4 : decode cX9_answeredShare 4 = .ok (.getfield 107, 3) := by decide +kernel
theorem dX9_answeredShare_7 : decode cX9_answeredShare 7 = .ok (.getfield 111, 3) := by decide +kernel
theorem dX9_answeredShare_10 : decode cX9_answeredShare 10 = .ok (.aload_n 0, 1) := by decide +kernel
theorem dX9_answeredShare_11 : decode cX9_answeredShare 11 = .ok (.getfield 19, 3) := by decide +kernel
theorem dX9_answeredShare_14 : decode cX9_answeredShare 14 = .ok (.getfield 107, 3) := by decide +kernel
theorem dX9_answeredShare_17 : decode cX9_answeredShare 17 = .ok (.iconst 0, 1) := by decide +kernel
theorem dX9_answeredShare_18 : decode cX9_answeredShare 18 = .ok (.invokevirtual 210, 3) := by decide +kernel
theorem dX9_answeredShare_21 : decode cX9_answeredShare 21 = .ok (.isub, 1) := by decide +kernel
theorem dX9_answeredShare_22 : decode cX9_answeredShare 22 = .ok (.istore_n 1, 1) := by decide +kernel
theorem dX9_answeredShare_23 : decode cX9_answeredShare 23 = .ok (.iload_n 1, 1) := by decide +kernel
theorem dX9_answeredShare_24 : decode cX9_answeredShare 24 = .ok (.ifCond .ne 5, 3) := by decide +kernel
theorem dX9_answeredShare_27 : decode cX9_answeredShare 27 = .ok (.fconst 0, 1) := by decide +kernel
theorem dX9_answeredShare_28 : decode cX9_answeredShare 28 = .ok (.freturn, 1) := by decide +kernel
theorem dX9_answeredShare_29 : decode cX9_answeredShare 29 = .ok (.aload_n 0, 1) := by decide +kernel
theorem dX9_answeredShare_30 : decode cX9_answeredShare 30 = .ok (.getfield 19, 3) := by decide +kernel
theorem dX9_answeredShare_33 : decode cX9_answeredShare 33 = .ok (.getfield 107, 3) := by decide +kernel
theorem dX9_answeredShare_36 : decode cX9_answeredShare 36 = .ok (.iconst 1, 1) := by decide +kernel
theorem dX9_answeredShare_37 : decode cX9_answeredShare 37 = .ok (.invokevirtual 210, 3) := by decide +kernel
theorem dX9_answeredShare_40 : decode cX9_answeredShare 40 = .ok (.i2f, 1) := by decide +kernel
theorem dX9_answeredShare_41 : decode cX9_answeredShare 41 = .ok (.iload_n 1, 1) := by decide +kernel
theorem dX9_answeredShare_42 : decode cX9_answeredShare 42 = .ok (.i2f, 1) := by decide +kernel
theorem dX9_answeredShare_43 : decode cX9_answeredShare 43 = .ok (.fdiv, 1) := by decide +kernel
theorem dX9_answeredShare_44 : decode cX9_answeredShare 44 = .ok (.freturn, 1) := by decide +kernel
set_option maxRecDepth 20000 in
theorem ggX9_answersTonight_X3_copyFrom : GoodIn wsX9_answersTonight wsX3_copyFrom := goodIn_r _ [7, 8, 9, 10, 11, 12, 13, 14, 15, 16, 17, 18, 19, 20, 21, 22, 23, 24, 25, 26, 27, 28, 29, 30, 31, 32, 33, 34, 35, 36, 37, 38, 39, 40, 41, 42, 43, 44, 45, 46, 47, 48, 49, 133, 134, 135, 136, 137, 138, 139, 140, 141, 142, 143, 144, 145, 146, 147, 148, 149, 150, 151, 152, 153] (by decide +kernel) (by decide +kernel)
set_option maxRecDepth 20000 in
theorem gX9_answersTonight_X3_copyFrom : GoodIn wsX9_answersTonight (wsV RX9 75 RX3 yX3_copyFrom wsX3_copyFrom) := goodIn_app (goodIn_of _ (by decide +kernel)) ggX9_answersTonight_X3_copyFrom
set_option maxRecDepth 20000 in
theorem ggX9_answersTonight_X3_endOneNight : GoodIn wsX9_answersTonight wsX3_endOneNight := goodIn_r _ [53, 9, 8, 10, 54, 11, 55, 56, 57, 15, 58, 59, 60, 61, 62, 17, 18, 19, 63, 64, 65, 66, 67, 68, 69, 70, 71, 72, 73, 74, 75, 76, 77, 20, 21, 78, 79, 80, 81, 82, 83, 84, 85, 86, 87, 6, 88, 89, 90, 91, 92, 93, 39, 94, 41, 47, 44, 45, 95, 96, 97, 98, 48, 49, 99, 100, 101, 102, 103, 104, 105, 106, 107, 108, 109, 110, 46, 111, 112, 113, 29, 114, 35, 32, 115, 116, 117, 118, 31, 119, 120, 121, 122, 123, 124, 125, 126, 133, 134, 135, 136, 142, 143, 144, 145, 137, 138, 139, 140, 141, 146, 147, 148, 149, 150, 151, 152, 153] (by decide +kernel) (by decide +kernel)
set_option maxRecDepth 20000 in
theorem gX9_answersTonight_X3_endOneNight : GoodIn wsX9_answersTonight (wsV RX9 260 RX3 yX3_endOneNight wsX3_endOneNight) := goodIn_app (goodIn_of _ (by decide +kernel)) ggX9_answersTonight_X3_endOneNight
theorem dX9_answersTonight_0 : decode cX9_answersTonight 0 = .ok (.aload_n 0, 1) := by decide +kernel
theorem dX9_answersTonight_1 : decode cX9_answersTonight 1 = .ok (.getfield 23, 3) := by decide +kernel
theorem dX9_answersTonight_4 : decode cX9_answersTonight 4 = .ok (.aload_n 0, 1) := by decide +kernel
theorem dX9_answersTonight_5 : decode cX9_answersTonight 5 = .ok (.getfield 19, 3) := by decide +kernel
theorem dX9_answersTonight_8 : decode cX9_answersTonight 8 = .ok (.invokevirtual 75, 3) := by decide +kernel
theorem dX9_answersTonight_11 : decode cX9_answersTonight 11 = .ok (.aload_n 0, 1) := by decide +kernel
theorem dX9_answersTonight_12 : decode cX9_answersTonight 12 = .ok (.getfield 23, 3) := by decide +kernel
theorem dX9_answersTonight_15 : decode cX9_answersTonight 15 = .ok (.invokevirtual 260, 3) := by decide +kernel
theorem dX9_answersTonight_18 : decode cX9_answersTonight 18 = .ok (.ireturn, 1) := by decide +kernel
set_option maxRecDepth 20000 in
theorem ggX9_nightsToClose_X9_checkComplaint : GoodIn wsX9_nightsToClose wsX9_checkComplaint := goodIn_ca (goodIn_r _ [5, 6, 7, 8, 9, 10, 11, 12, 13, 14, 15, 147, 148, 149, 150, 151, 152, 153, 154, 155, 156, 157, 158, 159, 160, 161, 162, 163, 164] (by decide +kernel) (by decide +kernel)) (goodIn_sub (fun _ h => List.mem_cons_of_mem _ (List.mem_append_left _ (List.mem_append_right _ h))) (by decide +kernel))
set_option maxRecDepth 20000 in
theorem gX9_nightsToClose_X9_checkComplaint : GoodIn wsX9_nightsToClose (wsV RX9 172 RX9 yX9_checkComplaint wsX9_checkComplaint) := goodIn_app (goodIn_of _ (by decide +kernel)) ggX9_nightsToClose_X9_checkComplaint
set_option maxRecDepth 20000 in
theorem ggX9_nightsToClose_X9_checkWaiting : GoodIn wsX9_nightsToClose wsX9_checkWaiting := goodIn_ca (goodIn_r _ [19, 20, 21, 8, 9, 22, 147, 148, 149, 150, 151, 152, 153, 154, 155, 156, 157, 158, 159, 160, 161, 162, 163, 164] (by decide +kernel) (by decide +kernel)) (goodIn_sub (fun _ h => List.mem_cons_of_mem _ (List.mem_append_right _ h)) (by decide +kernel))
set_option maxRecDepth 20000 in
theorem gX9_nightsToClose_X9_checkWaiting : GoodIn wsX9_nightsToClose (wsV RX9 263 RX9 yX9_checkWaiting wsX9_checkWaiting) := goodIn_app (goodIn_of _ (by decide +kernel)) ggX9_nightsToClose_X9_checkWaiting
set_option maxRecDepth 20000 in
theorem ggX9_nightsToClose_X9_tryUntilClosed : GoodIn wsX9_nightsToClose wsX9_tryUntilClosed := goodIn_r _ [26, 27, 8, 9, 22, 28, 29, 30, 31, 32, 33, 34, 35, 36, 37, 38, 39, 40, 41, 42, 43, 44, 45, 46, 47, 48, 49, 50, 51, 52, 53, 54, 55, 56, 57, 58, 59, 60, 61, 62, 63, 13, 64, 15, 65, 66, 67, 68, 69, 70, 71, 72, 73, 74, 75, 76, 77, 78, 79, 80, 81, 82, 83, 84, 85, 86, 87, 88, 89, 90, 91, 92, 93, 94, 95, 96, 97, 98, 99, 100, 101, 102, 103, 104, 105, 106, 107, 108, 109, 110, 111, 112, 113, 114, 115, 116, 117, 118, 119, 120, 121, 122, 11, 12, 14, 123, 124, 125, 126, 127, 128, 129, 130, 131, 132, 133, 134, 135, 136, 137, 138, 139, 140, 141, 142, 143, 144, 145, 146, 147, 148, 149, 150, 151, 152, 153, 154, 155, 156, 157, 158, 159, 160, 161, 162, 163, 164, 165, 166, 167, 168, 169, 170, 171, 172, 173] (by decide +kernel) (by decide +kernel)
set_option maxRecDepth 20000 in
theorem gX9_nightsToClose_X9_tryUntilClosed : GoodIn wsX9_nightsToClose (wsV RX9 266 RX9 yX9_tryUntilClosed wsX9_tryUntilClosed) := goodIn_app (goodIn_of _ (by decide +kernel)) ggX9_nightsToClose_X9_tryUntilClosed
theorem dX9_nightsToClose_0 : decode cX9_nightsToClose 0 = .ok (.aload_n 0, 1) := by decide +kernel
theorem dX9_nightsToClose_1 : decode cX9_nightsToClose 1 = .ok (.iload_n 1, 1) := by decide +kernel
theorem dX9_nightsToClose_2 : decode cX9_nightsToClose 2 = .ok (.invokevirtual 172, 3) := by decide +kernel
theorem dX9_nightsToClose_5 : decode cX9_nightsToClose 5 = .ok (.aload_n 0, 1) := by decide +kernel
theorem dX9_nightsToClose_6 : decode cX9_nightsToClose 6 = .ok (.iload_n 1, 1) := by decide +kernel
theorem dX9_nightsToClose_7 : decode cX9_nightsToClose 7 = .ok (.invokevirtual 263, 3) := by decide +kernel
theorem dX9_nightsToClose_10 : decode cX9_nightsToClose 10 = .ok (.aload_n 0, 1) := by decide +kernel
theorem dX9_nightsToClose_11 : decode cX9_nightsToClose 11 = .ok (.iload_n 1, 1) := by decide +kernel
theorem dX9_nightsToClose_12 : decode cX9_nightsToClose 12 = .ok (.invokevirtual 266, 3) := by decide +kernel
theorem dX9_nightsToClose_15 : decode cX9_nightsToClose 15 = .ok (.ireturn, 1) := by decide +kernel
set_option maxRecDepth 20000 in
theorem ggX9_willBeAnswered_X9_checkComplaint : GoodIn wsX9_willBeAnswered wsX9_checkComplaint := goodIn_ca (goodIn_r _ [8, 9, 10, 11, 2, 12, 13, 14, 15, 16, 17, 147, 148, 149, 150, 151, 152, 153, 154, 155, 156, 157, 158, 159, 160, 161, 162, 163, 164] (by decide +kernel) (by decide +kernel)) (goodIn_sub (fun _ h => List.mem_cons_of_mem _ (List.mem_append_left _ (List.mem_append_right _ h))) (by decide +kernel))
set_option maxRecDepth 20000 in
theorem gX9_willBeAnswered_X9_checkComplaint : GoodIn wsX9_willBeAnswered (wsV RX9 172 RX9 yX9_checkComplaint wsX9_checkComplaint) := goodIn_app (goodIn_of _ (by decide +kernel)) ggX9_willBeAnswered_X9_checkComplaint
set_option maxRecDepth 20000 in
theorem ggX9_willBeAnswered_X9_checkWaiting : GoodIn wsX9_willBeAnswered wsX9_checkWaiting := goodIn_ca (goodIn_r _ [21, 22, 23, 11, 2, 3, 147, 148, 149, 150, 151, 152, 153, 154, 155, 156, 157, 158, 159, 160, 161, 162, 163, 164] (by decide +kernel) (by decide +kernel)) (goodIn_sub (fun _ h => List.mem_cons_of_mem _ (List.mem_append_right _ h)) (by decide +kernel))
set_option maxRecDepth 20000 in
theorem gX9_willBeAnswered_X9_checkWaiting : GoodIn wsX9_willBeAnswered (wsV RX9 263 RX9 yX9_checkWaiting wsX9_checkWaiting) := goodIn_app (goodIn_of _ (by decide +kernel)) ggX9_willBeAnswered_X9_checkWaiting
set_option maxRecDepth 20000 in
theorem ggX9_willBeAnswered_X9_tryUntilClosed : GoodIn wsX9_willBeAnswered wsX9_tryUntilClosed := goodIn_r _ [27, 1, 11, 2, 3, 28, 29, 30, 31, 32, 33, 34, 35, 36, 37, 38, 39, 40, 41, 42, 43, 44, 45, 46, 47, 48, 49, 50, 51, 52, 53, 54, 55, 56, 57, 58, 59, 60, 61, 62, 63, 15, 64, 17, 65, 66, 67, 68, 69, 70, 71, 72, 73, 74, 75, 76, 77, 78, 79, 80, 81, 82, 83, 84, 85, 86, 87, 88, 89, 90, 91, 92, 93, 94, 95, 96, 97, 98, 99, 100, 101, 102, 103, 104, 105, 106, 107, 108, 109, 110, 111, 112, 113, 114, 115, 116, 117, 118, 119, 120, 121, 122, 13, 14, 16, 123, 124, 125, 126, 127, 128, 129, 130, 131, 132, 133, 134, 135, 136, 137, 138, 139, 140, 141, 142, 143, 144, 145, 146, 147, 148, 149, 150, 151, 152, 153, 154, 155, 156, 157, 158, 159, 160, 161, 162, 163, 164, 165, 166, 167, 168, 169, 170, 171, 172, 173] (by decide +kernel) (by decide +kernel)
set_option maxRecDepth 20000 in
theorem gX9_willBeAnswered_X9_tryUntilClosed : GoodIn wsX9_willBeAnswered (wsV RX9 266 RX9 yX9_tryUntilClosed wsX9_tryUntilClosed) := goodIn_app (goodIn_of _ (by decide +kernel)) ggX9_willBeAnswered_X9_tryUntilClosed
theorem dX9_willBeAnswered_0 : decode cX9_willBeAnswered 0 = .ok (.aload_n 0, 1) := by decide +kernel
theorem dX9_willBeAnswered_1 : decode cX9_willBeAnswered 1 = .ok (.iload_n 1, 1) := by decide +kernel
theorem dX9_willBeAnswered_2 : decode cX9_willBeAnswered 2 = .ok (.invokevirtual 172, 3) := by decide +kernel
theorem dX9_willBeAnswered_5 : decode cX9_willBeAnswered 5 = .ok (.aload_n 0, 1) := by decide +kernel
theorem dX9_willBeAnswered_6 : decode cX9_willBeAnswered 6 = .ok (.iload_n 1, 1) := by decide +kernel
theorem dX9_willBeAnswered_7 : decode cX9_willBeAnswered 7 = .ok (.invokevirtual 263, 3) := by decide +kernel
theorem dX9_willBeAnswered_10 : decode cX9_willBeAnswered 10 = .ok (.aload_n 0, 1) := by decide +kernel
theorem dX9_willBeAnswered_11 : decode cX9_willBeAnswered 11 = .ok (.iload_n 1, 1) := by decide +kernel
theorem dX9_willBeAnswered_12 : decode cX9_willBeAnswered 12 = .ok (.invokevirtual 266, 3) := by decide +kernel
theorem dX9_willBeAnswered_15 : decode cX9_willBeAnswered 15 = .ok (.pop, 1) := by decide +kernel
theorem dX9_willBeAnswered_16 : decode cX9_willBeAnswered 16 = .ok (.aload_n 0, 1) := by decide +kernel
theorem dX9_willBeAnswered_17 : decode cX9_willBeAnswered 17 = .ok (.getfield 23, 3) := by decide +kernel
theorem dX9_willBeAnswered_20 : decode cX9_willBeAnswered 20 = .ok (.getfield 107, 3) := by decide +kernel
theorem dX9_willBeAnswered_23 : decode cX9_willBeAnswered 23 = .ok (.getfield 188, 3) := by decide +kernel
theorem dX9_willBeAnswered_26 : decode cX9_willBeAnswered 26 = .ok (.iload_n 1, 1) := by decide +kernel
theorem dX9_willBeAnswered_27 : decode cX9_willBeAnswered 27 = .ok (.iaload, 1) := by decide +kernel
theorem dX9_willBeAnswered_28 : decode cX9_willBeAnswered 28 = .ok (.iconst 1, 1) := by decide +kernel
theorem dX9_willBeAnswered_29 : decode cX9_willBeAnswered 29 = .ok (.if_icmp .ne 7, 3) := by decide +kernel
theorem dX9_willBeAnswered_32 : decode cX9_willBeAnswered 32 = .ok (.iconst 1, 1) := by decide +kernel
theorem dX9_willBeAnswered_33 : decode cX9_willBeAnswered 33 = .ok (.goto 4, 3) := by decide +kernel
theorem dX9_willBeAnswered_36 : decode cX9_willBeAnswered 36 = .ok (.iconst 0, 1) := by decide +kernel
theorem dX9_willBeAnswered_37 : decode cX9_willBeAnswered 37 = .ok (.ireturn, 1) := by decide +kernel
set_option maxRecDepth 20000 in
theorem ggX9_fileComplaint_X9_checkRange : GoodIn wsX9_fileComplaint wsX9_checkRange := goodIn_ca (goodIn_r _ [11, 12, 13] (by decide +kernel) (by decide +kernel)) (goodIn_sub (fun _ h => List.mem_cons_of_mem _ (List.mem_append_right _ h)) (by decide +kernel))
set_option maxRecDepth 20000 in
theorem gX9_fileComplaint_X9_checkRange : GoodIn wsX9_fileComplaint (va_wsS RX9 201 yX9_checkRange wsX9_checkRange) := goodIn_app (goodIn_of _ (by decide +kernel)) ggX9_fileComplaint_X9_checkRange
set_option maxRecDepth 20000 in
theorem ggX9_fileComplaint_X9_checkSort : GoodIn wsX9_fileComplaint wsX9_checkSort := goodIn_ca (goodIn_r _ [16, 8, 9, 10, 11, 12, 13] (by decide +kernel) (by decide +kernel)) (goodIn_sub (fun _ h => List.mem_cons_of_mem _ (List.mem_append_right _ h)) (by decide +kernel))
set_option maxRecDepth 20000 in
theorem gX9_fileComplaint_X9_checkSort : GoodIn wsX9_fileComplaint (va_wsS RX9 159 yX9_checkSort wsX9_checkSort) := goodIn_app (goodIn_of _ (by decide +kernel)) ggX9_fileComplaint_X9_checkSort
set_option maxRecDepth 20000 in
theorem ggX9_fileComplaint_X5_findWaiting : GoodIn wsX9_fileComplaint wsX5_findWaiting := goodIn_r _ [21, 22, 23, 24, 25, 94, 95, 96, 97, 98, 99, 100, 101] (by decide +kernel) (by decide +kernel)
set_option maxRecDepth 20000 in
theorem gX9_fileComplaint_X5_findWaiting : GoodIn wsX9_fileComplaint (wsV RX9 205 RX5 yX5_findWaiting wsX5_findWaiting) := goodIn_app (goodIn_of _ (by decide +kernel)) ggX9_fileComplaint_X5_findWaiting
set_option maxRecDepth 20000 in
theorem ggX9_fileComplaint_X0_push : GoodIn wsX9_fileComplaint wsX0_push := goodIn_r _ [30, 31, 32, 33, 34, 35, 36, 37, 38, 39, 40, 41, 42, 43, 44, 45, 46, 47, 48, 49, 50, 51, 52, 53, 54, 55, 56, 57, 58, 59, 60, 61, 62, 63, 64, 65, 66, 67, 68, 69, 70, 71, 72, 73, 20, 74, 22, 24, 75, 25, 76, 77, 23, 78, 79, 102, 103, 104, 90, 91, 92, 93, 105, 106, 107, 108, 109, 110, 111, 112, 113, 94, 95, 96, 97, 98, 99, 100, 101] (by decide +kernel) (by decide +kernel)
set_option maxRecDepth 20000 in
theorem gX9_fileComplaint_X0_push : GoodIn wsX9_fileComplaint (wsV RX9 273 RX0 yX0_push wsX0_push) := goodIn_app (goodIn_of _ (by decide +kernel)) ggX9_fileComplaint_X0_push
set_option maxRecDepth 20000 in
theorem ggX9_fileComplaint_X5_add : GoodIn wsX9_fileComplaint wsX5_add := goodIn_r _ [83, 22, 24, 25, 76, 77, 23, 78, 79, 94, 95, 96, 97, 98, 99, 100, 101] (by decide +kernel) (by decide +kernel)
set_option maxRecDepth 20000 in
theorem gX9_fileComplaint_X5_add : GoodIn wsX9_fileComplaint (wsV RX9 276 RX5 yX5_add wsX5_add) := goodIn_app (goodIn_of _ (by decide +kernel)) ggX9_fileComplaint_X5_add
theorem dX9_fileComplaint_0 : decode cX9_fileComplaint 0 = .ok (.iload_n 1, 1) := by decide +kernel
theorem dX9_fileComplaint_1 : decode cX9_fileComplaint 1 = .ok (.iconst 0, 1) := by decide +kernel
theorem dX9_fileComplaint_2 : decode cX9_fileComplaint 2 = .ok (.bipush 99, 2) := by decide +kernel
theorem dX9_fileComplaint_4 : decode cX9_fileComplaint 4 = .ok (.invokestatic 201, 3) := by decide +kernel
theorem dX9_fileComplaint_7 : decode cX9_fileComplaint 7 = .ok (.iload_n 2, 1) := by decide +kernel
theorem dX9_fileComplaint_8 : decode cX9_fileComplaint 8 = .ok (.invokestatic 159, 3) := by decide +kernel
theorem dX9_fileComplaint_11 : decode cX9_fileComplaint 11 = .ok (.iload_n 3, 1) := by decide +kernel
theorem dX9_fileComplaint_12 : decode cX9_fileComplaint 12 = .ok (.iconst 1, 1) := by decide +kernel
theorem dX9_fileComplaint_13 : decode cX9_fileComplaint 13 = .ok (.bipush 9, 2) := by decide +kernel
theorem dX9_fileComplaint_15 : decode cX9_fileComplaint 15 = .ok (.invokestatic 201, 3) := by decide +kernel
theorem dX9_fileComplaint_18 : decode cX9_fileComplaint 18 = .ok (.aload_n 0, 1) := by decide +kernel
theorem dX9_fileComplaint_19 : decode cX9_fileComplaint 19 = .ok (.getfield 19, 3) := by decide +kernel
theorem dX9_fileComplaint_22 : decode cX9_fileComplaint 22 = .ok (.getfield 107, 3) := by decide +kernel
theorem dX9_fileComplaint_25 : decode cX9_fileComplaint 25 = .ok (.getfield 111, 3) := by decide +kernel
theorem dX9_fileComplaint_28 : decode cX9_fileComplaint 28 = .ok (.bipush 24, 2) := by decide +kernel
theorem dX9_fileComplaint_30 : decode cX9_fileComplaint 30 = .ok (.if_icmp .lt 14, 3) := by decide +kernel
theorem dX9_fileComplaint_33 : decode cX9_fileComplaint 33 = .ok (.new 82, 3) := by decide +kernel
theorem dX9_fileComplaint_36 : decode cX9_fileComplaint 36 = .ok (.dup, 1) := by decide +kernel
theorem dX9_fileComplaint_37 : decode cX9_fileComplaint 37 = .ok (.ldc_w 269, 3) := by decide +kernel
theorem dX9_fileComplaint_40 : decode cX9_fileComplaint 40 = .ok (.invokespecial 86, 3) := by decide +kernel
theorem dX9_fileComplaint_43 : decode cX9_fileComplaint 43 = .ok (.athrow, 1) := by decide +kernel
theorem dX9_fileComplaint_44 : decode cX9_fileComplaint 44 = .ok (.aload_n 0, 1) := by decide +kernel
theorem dX9_fileComplaint_45 : decode cX9_fileComplaint 45 = .ok (.getfield 19, 3) := by decide +kernel
theorem dX9_fileComplaint_48 : decode cX9_fileComplaint 48 = .ok (.getfield 107, 3) := by decide +kernel
theorem dX9_fileComplaint_51 : decode cX9_fileComplaint 51 = .ok (.iload_n 1, 1) := by decide +kernel
theorem dX9_fileComplaint_52 : decode cX9_fileComplaint 52 = .ok (.iload_n 2, 1) := by decide +kernel
theorem dX9_fileComplaint_53 : decode cX9_fileComplaint 53 = .ok (.invokevirtual 205, 3) := by decide +kernel
theorem dX9_fileComplaint_56 : decode cX9_fileComplaint 56 = .ok (.iconst (-1), 1) := by decide +kernel
theorem dX9_fileComplaint_57 : decode cX9_fileComplaint 57 = .ok (.if_icmp .eq 14, 3) := by decide +kernel
theorem dX9_fileComplaint_60 : decode cX9_fileComplaint 60 = .ok (.new 82, 3) := by decide +kernel
theorem dX9_fileComplaint_63 : decode cX9_fileComplaint 63 = .ok (.dup, 1) := by decide +kernel
theorem dX9_fileComplaint_64 : decode cX9_fileComplaint 64 = .ok (.ldc_w 271, 3) := by decide +kernel
theorem dX9_fileComplaint_67 : decode cX9_fileComplaint 67 = .ok (.invokespecial 86, 3) := by decide +kernel
theorem dX9_fileComplaint_70 : decode cX9_fileComplaint 70 = .ok (.athrow, 1) := by decide +kernel
theorem dX9_fileComplaint_71 : decode cX9_fileComplaint 71 = .ok (.aload_n 0, 1) := by decide +kernel
theorem dX9_fileComplaint_72 : decode cX9_fileComplaint 72 = .ok (.getfield 29, 3) := by decide +kernel
theorem dX9_fileComplaint_75 : decode cX9_fileComplaint 75 = .ok (.aload_n 0, 1) := by decide +kernel
theorem dX9_fileComplaint_76 : decode cX9_fileComplaint 76 = .ok (.getfield 19, 3) := by decide +kernel
theorem dX9_fileComplaint_79 : decode cX9_fileComplaint 79 = .ok (.invokevirtual 273, 3) := by decide +kernel
theorem dX9_fileComplaint_82 : decode cX9_fileComplaint 82 = .ok (.aload_n 0, 1) := by decide +kernel
theorem dX9_fileComplaint_83 : decode cX9_fileComplaint 83 = .ok (.getfield 19, 3) := by decide +kernel
theorem dX9_fileComplaint_86 : decode cX9_fileComplaint 86 = .ok (.getfield 107, 3) := by decide +kernel
theorem dX9_fileComplaint_89 : decode cX9_fileComplaint 89 = .ok (.iload_n 1, 1) := by decide +kernel
theorem dX9_fileComplaint_90 : decode cX9_fileComplaint 90 = .ok (.iload_n 2, 1) := by decide +kernel
theorem dX9_fileComplaint_91 : decode cX9_fileComplaint 91 = .ok (.iload_n 3, 1) := by decide +kernel
theorem dX9_fileComplaint_92 : decode cX9_fileComplaint 92 = .ok (.aload_n 0, 1) := by decide +kernel
theorem dX9_fileComplaint_93 : decode cX9_fileComplaint 93 = .ok (.getfield 19, 3) := by decide +kernel
theorem dX9_fileComplaint_96 : decode cX9_fileComplaint 96 = .ok (.getfield 124, 3) := by decide +kernel
theorem dX9_fileComplaint_99 : decode cX9_fileComplaint 99 = .ok (.invokevirtual 276, 3) := by decide +kernel
theorem dX9_fileComplaint_102 : decode cX9_fileComplaint 102 = .ok (.aload_n 0, 1) := by decide +kernel
theorem dX9_fileComplaint_103 : decode cX9_fileComplaint 103 = .ok (.getfield 19, 3) := by decide +kernel
theorem dX9_fileComplaint_106 : decode cX9_fileComplaint 106 = .ok (.getfield 107, 3) := by decide +kernel
theorem dX9_fileComplaint_109 : decode cX9_fileComplaint 109 = .ok (.getfield 111, 3) := by decide +kernel
theorem dX9_fileComplaint_112 : decode cX9_fileComplaint 112 = .ok (.iconst 1, 1) := by decide +kernel
theorem dX9_fileComplaint_113 : decode cX9_fileComplaint 113 = .ok (.isub, 1) := by decide +kernel
theorem dX9_fileComplaint_114 : decode cX9_fileComplaint 114 = .ok (.ireturn, 1) := by decide +kernel
set_option maxRecDepth 20000 in
theorem ggX9_giveUp_X9_checkComplaint : GoodIn wsX9_giveUp wsX9_checkComplaint := goodIn_ca (goodIn_r _ [10, 11, 12, 2, 3, 13, 14, 15, 16, 17, 18, 88, 89, 90, 91, 92, 93, 94, 95, 96, 97, 98, 99, 100, 101, 102, 103, 104, 105] (by decide +kernel) (by decide +kernel)) (goodIn_sub (fun _ h => List.mem_cons_of_mem _ (List.mem_append_left _ (List.mem_append_right _ h))) (by decide +kernel))
set_option maxRecDepth 20000 in
theorem gX9_giveUp_X9_checkComplaint : GoodIn wsX9_giveUp (wsV RX9 172 RX9 yX9_checkComplaint wsX9_checkComplaint) := goodIn_app (goodIn_of _ (by decide +kernel)) ggX9_giveUp_X9_checkComplaint
set_option maxRecDepth 20000 in
theorem ggX9_giveUp_X9_checkWaiting : GoodIn wsX9_giveUp wsX9_checkWaiting := goodIn_ca (goodIn_r _ [22, 23, 24, 2, 3, 25, 88, 89, 90, 91, 92, 93, 94, 95, 96, 97, 98, 99, 100, 101, 102, 103, 104, 105] (by decide +kernel) (by decide +kernel)) (goodIn_sub (fun _ h => List.mem_cons_of_mem _ (List.mem_append_right _ h)) (by decide +kernel))
set_option maxRecDepth 20000 in
theorem gX9_giveUp_X9_checkWaiting : GoodIn wsX9_giveUp (wsV RX9 263 RX9 yX9_checkWaiting wsX9_checkWaiting) := goodIn_app (goodIn_of _ (by decide +kernel)) ggX9_giveUp_X9_checkWaiting
set_option maxRecDepth 20000 in
theorem ggX9_giveUp_X0_push : GoodIn wsX9_giveUp wsX0_push := goodIn_r _ [30, 31, 32, 33, 34, 35, 36, 37, 38, 39, 40, 41, 42, 43, 44, 45, 46, 47, 48, 49, 50, 51, 52, 53, 54, 55, 56, 57, 58, 59, 60, 61, 62, 63, 64, 65, 66, 67, 68, 69, 70, 71, 72, 73, 16, 74, 18, 75, 76, 77, 78, 79, 80, 81, 82, 106, 107, 108, 94, 95, 96, 97, 109, 110, 111, 112, 113, 114, 115, 116, 117, 98, 99, 100, 101, 102, 103, 104, 105] (by decide +kernel) (by decide +kernel)
set_option maxRecDepth 20000 in
theorem gX9_giveUp_X0_push : GoodIn wsX9_giveUp (wsV RX9 273 RX0 yX0_push wsX0_push) := goodIn_app (goodIn_of _ (by decide +kernel)) ggX9_giveUp_X0_push
set_option maxRecDepth 20000 in
theorem ggX9_giveUp_X5_close : GoodIn wsX9_giveUp wsX5_close := goodIn_r _ [86, 80, 81, 82, 87, 14, 15, 16, 17, 18, 98, 99, 100, 101, 102, 103, 104, 105] (by decide +kernel) (by decide +kernel)
set_option maxRecDepth 20000 in
theorem gX9_giveUp_X5_close : GoodIn wsX9_giveUp (wsV RX9 280 RX5 yX5_close wsX5_close) := goodIn_app (goodIn_of _ (by decide +kernel)) ggX9_giveUp_X5_close
theorem dX9_giveUp_0 : decode cX9_giveUp 0 = .ok (.aload_n 0, 1) := by decide +kernel
theorem dX9_giveUp_1 : decode cX9_giveUp 1 = .ok (.iload_n 1, 1) := by decide +kernel
theorem dX9_giveUp_2 : decode cX9_giveUp 2 = .ok (.invokevirtual 172, 3) := by decide +kernel
theorem dX9_giveUp_5 : decode cX9_giveUp 5 = .ok (.aload_n 0, 1) := by decide +kernel
theorem dX9_giveUp_6 : decode cX9_giveUp 6 = .ok (.iload_n 1, 1) := by decide +kernel
theorem dX9_giveUp_7 : decode cX9_giveUp 7 = .ok (.invokevirtual 263, 3) := by decide +kernel
theorem dX9_giveUp_10 : decode cX9_giveUp 10 = .ok (.aload_n 0, 1) := by decide +kernel
theorem dX9_giveUp_11 : decode cX9_giveUp 11 = .ok (.getfield 29, 3) := by decide +kernel
theorem dX9_giveUp_14 : decode cX9_giveUp 14 = .ok (.aload_n 0, 1) := by decide +kernel
theorem dX9_giveUp_15 : decode cX9_giveUp 15 = .ok (.getfield 19, 3) := by decide +kernel
theorem dX9_giveUp_18 : decode cX9_giveUp 18 = .ok (.invokevirtual 273, 3) := by decide +kernel
theorem dX9_giveUp_21 : decode cX9_giveUp 21 = .ok (.aload_n 0, 1) := by decide +kernel
theorem dX9_giveUp_22 : decode cX9_giveUp 22 = .ok (.getfield 19, 3) := by decide +kernel
theorem dX9_giveUp_25 : decode cX9_giveUp 25 = .ok (.getfield 107, 3) := by decide +kernel
theorem dX9_giveUp_28 : decode cX9_giveUp 28 = .ok (.iload_n 1, 1) := by decide +kernel
theorem dX9_giveUp_29 : decode cX9_giveUp 29 = .ok (.iconst 3, 1) := by decide +kernel
theorem dX9_giveUp_30 : decode cX9_giveUp 30 = .ok (.aload_n 0, 1) := by decide +kernel
theorem dX9_giveUp_31 : decode cX9_giveUp 31 = .ok (.getfield 19, 3) := by decide +kernel
theorem dX9_giveUp_34 : decode cX9_giveUp 34 = .ok (.getfield 124, 3) := by decide +kernel
theorem dX9_giveUp_37 : decode cX9_giveUp 37 = .ok (.iconst (-1), 1) := by decide +kernel
theorem dX9_giveUp_38 : decode cX9_giveUp 38 = .ok (.invokevirtual 280, 3) := by decide +kernel
theorem dX9_giveUp_41 : decode cX9_giveUp 41 = .ok (.aload_n 0, 1) := by decide +kernel
theorem dX9_giveUp_42 : decode cX9_giveUp 42 = .ok (.getfield 19, 3) := by decide +kernel
theorem dX9_giveUp_45 : decode cX9_giveUp 45 = .ok (.getfield 124, 3) := by decide +kernel
theorem dX9_giveUp_48 : decode cX9_giveUp 48 = .ok (.aload_n 0, 1) := by decide +kernel
theorem dX9_giveUp_49 : decode cX9_giveUp 49 = .ok (.getfield 19, 3) := by decide +kernel
theorem dX9_giveUp_52 : decode cX9_giveUp 52 = .ok (.getfield 107, 3) := by decide +kernel
theorem dX9_giveUp_55 : decode cX9_giveUp 55 = .ok (.getfield 185, 3) := by decide +kernel
theorem dX9_giveUp_58 : decode cX9_giveUp 58 = .ok (.iload_n 1, 1) := by decide +kernel
theorem dX9_giveUp_59 : decode cX9_giveUp 59 = .ok (.iaload, 1) := by decide +kernel
theorem dX9_giveUp_60 : decode cX9_giveUp 60 = .ok (.isub, 1) := by decide +kernel
theorem dX9_giveUp_61 : decode cX9_giveUp 61 = .ok (.ireturn, 1) := by decide +kernel
set_option maxRecDepth 20000 in
theorem ggX9_addClerk_X9_checkRange : GoodIn wsX9_addClerk wsX9_checkRange := goodIn_ca (goodIn_r _ [10, 11, 12] (by decide +kernel) (by decide +kernel)) (goodIn_sub (fun _ h => List.mem_cons_of_mem _ (List.mem_append_right _ h)) (by decide +kernel))
set_option maxRecDepth 20000 in
theorem gX9_addClerk_X9_checkRange : GoodIn wsX9_addClerk (va_wsS RX9 201 yX9_checkRange wsX9_checkRange) := goodIn_app (goodIn_of _ (by decide +kernel)) ggX9_addClerk_X9_checkRange
set_option maxRecDepth 20000 in
theorem ggX9_addClerk_X0_push : GoodIn wsX9_addClerk wsX0_push := goodIn_r _ [17, 18, 19, 20, 21, 22, 23, 24, 25, 26, 27, 28, 29, 30, 31, 32, 33, 34, 35, 36, 37, 38, 39, 40, 41, 42, 43, 44, 45, 46, 47, 48, 49, 50, 51, 52, 53, 54, 55, 56, 57, 58, 59, 60, 61, 62, 63, 64, 65, 66, 67, 68, 69, 70, 71, 90, 91, 92, 82, 83, 84, 85, 93, 94, 95, 96, 97, 86, 87, 88, 89, 98, 99, 100, 101, 102, 103, 104, 105] (by decide +kernel) (by decide +kernel)
set_option maxRecDepth 20000 in
theorem gX9_addClerk_X0_push : GoodIn wsX9_addClerk (wsV RX9 273 RX0 yX0_push wsX0_push) := goodIn_app (goodIn_of _ (by decide +kernel)) ggX9_addClerk_X0_push
set_option maxRecDepth 20000 in
theorem ggX9_addClerk_X8_add : GoodIn wsX9_addClerk wsX8_add := goodIn_r _ [75, 53, 55, 57, 86, 87, 88, 89] (by decide +kernel) (by decide +kernel)
set_option maxRecDepth 20000 in
theorem gX9_addClerk_X8_add : GoodIn wsX9_addClerk (wsV RX9 285 RX8 yX8_add wsX8_add) := goodIn_app (goodIn_of _ (by decide +kernel)) ggX9_addClerk_X8_add
theorem dX9_addClerk_0 : decode cX9_addClerk 0 = .ok (.iload_n 1, 1) := by decide +kernel
theorem dX9_addClerk_1 : decode cX9_addClerk 1 = .ok (.iconst 1, 1) := by decide +kernel
theorem dX9_addClerk_2 : decode cX9_addClerk 2 = .ok (.bipush 9, 2) := by decide +kernel
theorem dX9_addClerk_4 : decode cX9_addClerk 4 = .ok (.invokestatic 201, 3) := by decide +kernel
theorem dX9_addClerk_7 : decode cX9_addClerk 7 = .ok (.iload_n 2, 1) := by decide +kernel
theorem dX9_addClerk_8 : decode cX9_addClerk 8 = .ok (.iconst 0, 1) := by decide +kernel
theorem dX9_addClerk_9 : decode cX9_addClerk 9 = .ok (.bipush 99, 2) := by decide +kernel
theorem dX9_addClerk_11 : decode cX9_addClerk 11 = .ok (.invokestatic 201, 3) := by decide +kernel
theorem dX9_addClerk_14 : decode cX9_addClerk 14 = .ok (.aload_n 0, 1) := by decide +kernel
theorem dX9_addClerk_15 : decode cX9_addClerk 15 = .ok (.getfield 19, 3) := by decide +kernel
theorem dX9_addClerk_18 : decode cX9_addClerk 18 = .ok (.getfield 224, 3) := by decide +kernel
theorem dX9_addClerk_21 : decode cX9_addClerk 21 = .ok (.getfield 228, 3) := by decide +kernel
theorem dX9_addClerk_24 : decode cX9_addClerk 24 = .ok (.iconst 5, 1) := by decide +kernel
theorem dX9_addClerk_25 : decode cX9_addClerk 25 = .ok (.if_icmp .lt 14, 3) := by decide +kernel
theorem dX9_addClerk_28 : decode cX9_addClerk 28 = .ok (.new 82, 3) := by decide +kernel
theorem dX9_addClerk_31 : decode cX9_addClerk 31 = .ok (.dup, 1) := by decide +kernel
theorem dX9_addClerk_32 : decode cX9_addClerk 32 = .ok (.ldc_w 283, 3) := by decide +kernel
theorem dX9_addClerk_35 : decode cX9_addClerk 35 = .ok (.invokespecial 86, 3) := by decide +kernel
theorem dX9_addClerk_38 : decode cX9_addClerk 38 = .ok (.athrow, 1) := by decide +kernel
theorem dX9_addClerk_39 : decode cX9_addClerk 39 = .ok (.aload_n 0, 1) := by decide +kernel
theorem dX9_addClerk_40 : decode cX9_addClerk 40 = .ok (.getfield 29, 3) := by decide +kernel
theorem dX9_addClerk_43 : decode cX9_addClerk 43 = .ok (.aload_n 0, 1) := by decide +kernel
theorem dX9_addClerk_44 : decode cX9_addClerk 44 = .ok (.getfield 19, 3) := by decide +kernel
theorem dX9_addClerk_47 : decode cX9_addClerk 47 = .ok (.invokevirtual 273, 3) := by decide +kernel
theorem dX9_addClerk_50 : decode cX9_addClerk 50 = .ok (.aload_n 0, 1) := by decide +kernel
theorem dX9_addClerk_51 : decode cX9_addClerk 51 = .ok (.getfield 19, 3) := by decide +kernel
theorem dX9_addClerk_54 : decode cX9_addClerk 54 = .ok (.getfield 224, 3) := by decide +kernel
theorem dX9_addClerk_57 : decode cX9_addClerk 57 = .ok (.iload_n 1, 1) := by decide +kernel
theorem dX9_addClerk_58 : decode cX9_addClerk 58 = .ok (.iload_n 2, 1) := by decide +kernel
theorem dX9_addClerk_59 : decode cX9_addClerk 59 = .ok (.invokevirtual 285, 3) := by decide +kernel
theorem dX9_addClerk_62 : decode cX9_addClerk 62 = .ok (.aload_n 0, 1) := by decide +kernel
theorem dX9_addClerk_63 : decode cX9_addClerk 63 = .ok (.getfield 19, 3) := by decide +kernel
theorem dX9_addClerk_66 : decode cX9_addClerk 66 = .ok (.getfield 224, 3) := by decide +kernel
theorem dX9_addClerk_69 : decode cX9_addClerk 69 = .ok (.getfield 228, 3) := by decide +kernel
theorem dX9_addClerk_72 : decode cX9_addClerk 72 = .ok (.iconst 1, 1) := by decide +kernel
theorem dX9_addClerk_73 : decode cX9_addClerk 73 = .ok (.isub, 1) := by decide +kernel
theorem dX9_addClerk_74 : decode cX9_addClerk 74 = .ok (.ireturn, 1) := by decide +kernel
set_option maxRecDepth 20000 in
theorem ggX9_refill_X9_checkClerk : GoodIn wsX9_refill wsX9_checkClerk := goodIn_ca (goodIn_r _ [13, 14, 15, 2, 3, 16, 17, 18, 19, 20, 21, 81, 82, 83, 84, 85, 86, 87, 88, 89, 90, 91, 92, 93, 94] (by decide +kernel) (by decide +kernel)) (goodIn_sub (fun _ h => List.mem_cons_of_mem _ (List.mem_append_left _ (List.mem_append_right _ h))) (by decide +kernel))
set_option maxRecDepth 20000 in
theorem gX9_refill_X9_checkClerk : GoodIn wsX9_refill (wsV RX9 236 RX9 yX9_checkClerk wsX9_checkClerk) := goodIn_app (goodIn_of _ (by decide +kernel)) ggX9_refill_X9_checkClerk
set_option maxRecDepth 20000 in
theorem ggX9_refill_X9_checkRange : GoodIn wsX9_refill wsX9_checkRange := goodIn_ca (goodIn_r _ [24, 25, 26] (by decide +kernel) (by decide +kernel)) (goodIn_sub (fun _ h => List.mem_cons_of_mem _ (List.mem_append_right _ h)) (by decide +kernel))
set_option maxRecDepth 20000 in
theorem gX9_refill_X9_checkRange : GoodIn wsX9_refill (va_wsS RX9 201 yX9_checkRange wsX9_checkRange) := goodIn_app (goodIn_of _ (by decide +kernel)) ggX9_refill_X9_checkRange
set_option maxRecDepth 20000 in
theorem ggX9_refill_X0_push : GoodIn wsX9_refill wsX0_push := goodIn_r _ [31, 32, 33, 34, 35, 6, 7, 8, 36, 37, 38, 39, 40, 41, 42, 43, 44, 45, 46, 47, 48, 49, 50, 51, 52, 53, 54, 55, 56, 57, 58, 59, 60, 61, 19, 62, 21, 63, 64, 65, 66, 67, 68, 69, 70, 71, 72, 73, 74, 75, 76, 77, 78, 79, 80, 95, 96, 97, 87, 88, 89, 90, 98, 99, 100, 101, 102, 91, 92, 93, 94, 103, 104, 105, 106, 107, 108, 109, 110] (by decide +kernel) (by decide +kernel)
set_option maxRecDepth 20000 in
theorem gX9_refill_X0_push : GoodIn wsX9_refill (wsV RX9 273 RX0 yX0_push wsX0_push) := goodIn_app (goodIn_of _ (by decide +kernel)) ggX9_refill_X0_push
theorem dX9_refill_0 : decode cX9_refill 0 = .ok (.aload_n 0, 1) := by decide +kernel
theorem dX9_refill_1 : decode cX9_refill 1 = .ok (.iload_n 1, 1) := by decide +kernel
theorem dX9_refill_2 : decode cX9_refill 2 = .ok (.invokevirtual 236, 3) := by decide +kernel
theorem dX9_refill_5 : decode cX9_refill 5 = .ok (.iload_n 2, 1) := by decide +kernel
theorem dX9_refill_6 : decode cX9_refill 6 = .ok (.iconst 1, 1) := by decide +kernel
theorem dX9_refill_7 : decode cX9_refill 7 = .ok (.bipush 99, 2) := by decide +kernel
theorem dX9_refill_9 : decode cX9_refill 9 = .ok (.invokestatic 201, 3) := by decide +kernel
theorem dX9_refill_12 : decode cX9_refill 12 = .ok (.aload_n 0, 1) := by decide +kernel
theorem dX9_refill_13 : decode cX9_refill 13 = .ok (.getfield 29, 3) := by decide +kernel
theorem dX9_refill_16 : decode cX9_refill 16 = .ok (.aload_n 0, 1) := by decide +kernel
theorem dX9_refill_17 : decode cX9_refill 17 = .ok (.getfield 19, 3) := by decide +kernel
theorem dX9_refill_20 : decode cX9_refill 20 = .ok (.invokevirtual 273, 3) := by decide +kernel
theorem dX9_refill_23 : decode cX9_refill 23 = .ok (.aload_n 0, 1) := by decide +kernel
theorem dX9_refill_24 : decode cX9_refill 24 = .ok (.getfield 19, 3) := by decide +kernel
theorem dX9_refill_27 : decode cX9_refill 27 = .ok (.getfield 224, 3) := by decide +kernel
theorem dX9_refill_30 : decode cX9_refill 30 = .ok (.getfield 242, 3) := by decide +kernel
theorem dX9_refill_33 : decode cX9_refill 33 = .ok (.iload_n 1, 1) := by decide +kernel
theorem dX9_refill_34 : decode cX9_refill 34 = .ok (.bipush 99, 2) := by decide +kernel
theorem dX9_refill_36 : decode cX9_refill 36 = .ok (.aload_n 0, 1) := by decide +kernel
theorem dX9_refill_37 : decode cX9_refill 37 = .ok (.getfield 19, 3) := by decide +kernel
theorem dX9_refill_40 : decode cX9_refill 40 = .ok (.getfield 224, 3) := by decide +kernel
theorem dX9_refill_43 : decode cX9_refill 43 = .ok (.getfield 242, 3) := by decide +kernel
theorem dX9_refill_46 : decode cX9_refill 46 = .ok (.iload_n 1, 1) := by decide +kernel
theorem dX9_refill_47 : decode cX9_refill 47 = .ok (.iaload, 1) := by decide +kernel
theorem dX9_refill_48 : decode cX9_refill 48 = .ok (.iload_n 2, 1) := by decide +kernel
theorem dX9_refill_49 : decode cX9_refill 49 = .ok (.iadd, 1) := by decide +kernel
theorem dX9_refill_50 : decode cX9_refill 50 = .ok (.invokestatic 288, 3) := by decide +kernel
theorem dX9_refill_53 : decode cX9_refill 53 = .ok (.iastore, 1) := by decide +kernel
theorem dX9_refill_54 : decode cX9_refill 54 = .ok (.aload_n 0, 1) := by decide +kernel
theorem dX9_refill_55 : decode cX9_refill 55 = .ok (.getfield 19, 3) := by decide +kernel
theorem dX9_refill_58 : decode cX9_refill 58 = .ok (.getfield 224, 3) := by decide +kernel
theorem dX9_refill_61 : decode cX9_refill 61 = .ok (.getfield 242, 3) := by decide +kernel
theorem dX9_refill_64 : decode cX9_refill 64 = .ok (.iload_n 1, 1) := by decide +kernel
theorem dX9_refill_65 : decode cX9_refill 65 = .ok (.iaload, 1) := by decide +kernel
theorem dX9_refill_66 : decode cX9_refill 66 = .ok (.ireturn, 1) := by decide +kernel
set_option maxRecDepth 20000 in
theorem ggX9_setCloud_X6_hasCloud : GoodIn wsX9_setCloud wsX6_hasCloud := goodIn_r _ [11, 12, 86, 87, 88, 89, 90] (by decide +kernel) (by decide +kernel)
set_option maxRecDepth 20000 in
theorem gX9_setCloud_X6_hasCloud : GoodIn wsX9_setCloud (wsV RX9 293 RX6 yX6_hasCloud wsX6_hasCloud) := goodIn_app (goodIn_of _ (by decide +kernel)) ggX9_setCloud_X6_hasCloud
set_option maxRecDepth 20000 in
theorem ggX9_setCloud_X9_checkRange : GoodIn wsX9_setCloud wsX9_checkRange := goodIn_ca (goodIn_r _ [16, 17, 18] (by decide +kernel) (by decide +kernel)) (goodIn_sub (fun _ h => List.mem_cons_of_mem _ (List.mem_append_right _ h)) (by decide +kernel))
set_option maxRecDepth 20000 in
theorem gX9_setCloud_X9_checkRange : GoodIn wsX9_setCloud (va_wsS RX9 201 yX9_checkRange wsX9_checkRange) := goodIn_app (goodIn_of _ (by decide +kernel)) ggX9_setCloud_X9_checkRange
set_option maxRecDepth 20000 in
theorem ggX9_setCloud_X0_push : GoodIn wsX9_setCloud wsX0_push := goodIn_r _ [23, 24, 25, 26, 27, 28, 29, 30, 31, 32, 33, 34, 35, 36, 37, 38, 39, 40, 41, 42, 10, 43, 44, 45, 46, 12, 47, 48, 49, 50, 51, 52, 53, 54, 55, 56, 57, 58, 59, 60, 61, 62, 63, 64, 65, 66, 67, 68, 69, 70, 71, 72, 73, 74, 75, 91, 92, 93, 82, 83, 84, 85, 86, 87, 88, 89, 90, 94, 95, 96, 97, 98, 99, 100, 101, 102, 103, 104, 105] (by decide +kernel) (by decide +kernel)
set_option maxRecDepth 20000 in
theorem gX9_setCloud_X0_push : GoodIn wsX9_setCloud (wsV RX9 273 RX0 yX0_push wsX0_push) := goodIn_app (goodIn_of _ (by decide +kernel)) ggX9_setCloud_X0_push
theorem dX9_setCloud_0 : decode cX9_setCloud 0 = .ok (.aload_n 0, 1) := by decide +kernel
theorem dX9_setCloud_1 : decode cX9_setCloud 1 = .ok (.getfield 19, 3) := by decide +kernel
theorem dX9_setCloud_4 : decode cX9_setCloud 4 = .ok (.getfield 139, 3) := by decide +kernel
theorem dX9_setCloud_7 : decode cX9_setCloud 7 = .ok (.iload_n 1, 1) := by decide +kernel
theorem dX9_setCloud_8 : decode cX9_setCloud 8 = .ok (.invokevirtual 293, 3) := by decide +kernel
theorem dX9_setCloud_11 : decode cX9_setCloud 11 = .ok (.ifCond .ne 14, 3) := by decide +kernel
theorem dX9_setCloud_14 : decode cX9_setCloud 14 = .ok (.new 297, 3) := by decide +kernel
theorem dX9_setCloud_17 : decode cX9_setCloud 17 = .ok (.dup, 1) := by decide +kernel
theorem dX9_setCloud_18 : decode cX9_setCloud 18 = .ok (.ldc_w 299, 3) := by decide +kernel
theorem dX9_setCloud_21 : decode cX9_setCloud 21 = .ok (.invokespecial 301, 3) := by decide +kernel
theorem dX9_setCloud_24 : decode cX9_setCloud 24 = .ok (.athrow, 1) := by decide +kernel
theorem dX9_setCloud_25 : decode cX9_setCloud 25 = .ok (.iload_n 2, 1) := by decide +kernel
theorem dX9_setCloud_26 : decode cX9_setCloud 26 = .ok (.iconst 0, 1) := by decide +kernel
theorem dX9_setCloud_27 : decode cX9_setCloud 27 = .ok (.bipush 9, 2) := by decide +kernel
theorem dX9_setCloud_29 : decode cX9_setCloud 29 = .ok (.invokestatic 201, 3) := by decide +kernel
theorem dX9_setCloud_32 : decode cX9_setCloud 32 = .ok (.aload_n 0, 1) := by decide +kernel
theorem dX9_setCloud_33 : decode cX9_setCloud 33 = .ok (.getfield 29, 3) := by decide +kernel
theorem dX9_setCloud_36 : decode cX9_setCloud 36 = .ok (.aload_n 0, 1) := by decide +kernel
theorem dX9_setCloud_37 : decode cX9_setCloud 37 = .ok (.getfield 19, 3) := by decide +kernel
theorem dX9_setCloud_40 : decode cX9_setCloud 40 = .ok (.invokevirtual 273, 3) := by decide +kernel
theorem dX9_setCloud_43 : decode cX9_setCloud 43 = .ok (.aload_n 0, 1) := by decide +kernel
theorem dX9_setCloud_44 : decode cX9_setCloud 44 = .ok (.getfield 19, 3) := by decide +kernel
theorem dX9_setCloud_47 : decode cX9_setCloud 47 = .ok (.getfield 139, 3) := by decide +kernel
theorem dX9_setCloud_50 : decode cX9_setCloud 50 = .ok (.getfield 302, 3) := by decide +kernel
theorem dX9_setCloud_53 : decode cX9_setCloud 53 = .ok (.iload_n 1, 1) := by decide +kernel
theorem dX9_setCloud_54 : decode cX9_setCloud 54 = .ok (.iaload, 1) := by decide +kernel
theorem dX9_setCloud_55 : decode cX9_setCloud 55 = .ok (.istore_n 3, 1) := by decide +kernel
theorem dX9_setCloud_56 : decode cX9_setCloud 56 = .ok (.aload_n 0, 1) := by decide +kernel
theorem dX9_setCloud_57 : decode cX9_setCloud 57 = .ok (.getfield 19, 3) := by decide +kernel
theorem dX9_setCloud_60 : decode cX9_setCloud 60 = .ok (.getfield 139, 3) := by decide +kernel
theorem dX9_setCloud_63 : decode cX9_setCloud 63 = .ok (.getfield 302, 3) := by decide +kernel
theorem dX9_setCloud_66 : decode cX9_setCloud 66 = .ok (.iload_n 1, 1) := by decide +kernel
theorem dX9_setCloud_67 : decode cX9_setCloud 67 = .ok (.iload_n 2, 1) := by decide +kernel
theorem dX9_setCloud_68 : decode cX9_setCloud 68 = .ok (.iastore, 1) := by decide +kernel
theorem dX9_setCloud_69 : decode cX9_setCloud 69 = .ok (.iload_n 3, 1) := by decide +kernel
theorem dX9_setCloud_70 : decode cX9_setCloud 70 = .ok (.ireturn, 1) := by decide +kernel
set_option maxRecDepth 20000 in
theorem ggX9_setGlareLimit_X9_checkRange : GoodIn wsX9_setGlareLimit wsX9_checkRange := goodIn_ca (goodIn_r _ [8, 9, 10] (by decide +kernel) (by decide +kernel)) (goodIn_sub (fun _ h => List.mem_cons_of_mem _ (List.mem_append_right _ h)) (by decide +kernel))
set_option maxRecDepth 20000 in
theorem gX9_setGlareLimit_X9_checkRange : GoodIn wsX9_setGlareLimit (va_wsS RX9 201 yX9_checkRange wsX9_checkRange) := goodIn_app (goodIn_of _ (by decide +kernel)) ggX9_setGlareLimit_X9_checkRange
set_option maxRecDepth 20000 in
theorem ggX9_setGlareLimit_X0_push : GoodIn wsX9_setGlareLimit wsX0_push := goodIn_r _ [15, 16, 17, 18, 19, 20, 21, 22, 23, 24, 25, 26, 27, 28, 29, 30, 31, 32, 33, 34, 35, 36, 37, 38, 39, 40, 41, 42, 43, 44, 45, 46, 47, 48, 49, 50, 51, 52, 53, 54, 55, 56, 57, 58, 59, 60, 61, 62, 63, 64, 65, 66, 67, 68, 69, 85, 86, 87, 76, 77, 78, 79, 80, 81, 82, 83, 84, 88, 89, 90, 91, 92, 93, 94, 95, 96, 97, 98, 99] (by decide +kernel) (by decide +kernel)
set_option maxRecDepth 20000 in
theorem gX9_setGlareLimit_X0_push : GoodIn wsX9_setGlareLimit (wsV RX9 273 RX0 yX0_push wsX0_push) := goodIn_app (goodIn_of _ (by decide +kernel)) ggX9_setGlareLimit_X0_push
theorem dX9_setGlareLimit_0 : decode cX9_setGlareLimit 0 = .ok (.iload_n 1, 1) := by decide +kernel
theorem dX9_setGlareLimit_1 : decode cX9_setGlareLimit 1 = .ok (.iconst 1, 1) := by decide +kernel
theorem dX9_setGlareLimit_2 : decode cX9_setGlareLimit 2 = .ok (.bipush 14, 2) := by decide +kernel
theorem dX9_setGlareLimit_4 : decode cX9_setGlareLimit 4 = .ok (.invokestatic 201, 3) := by decide +kernel
theorem dX9_setGlareLimit_7 : decode cX9_setGlareLimit 7 = .ok (.aload_n 0, 1) := by decide +kernel
theorem dX9_setGlareLimit_8 : decode cX9_setGlareLimit 8 = .ok (.getfield 29, 3) := by decide +kernel
theorem dX9_setGlareLimit_11 : decode cX9_setGlareLimit 11 = .ok (.aload_n 0, 1) := by decide +kernel
theorem dX9_setGlareLimit_12 : decode cX9_setGlareLimit 12 = .ok (.getfield 19, 3) := by decide +kernel
theorem dX9_setGlareLimit_15 : decode cX9_setGlareLimit 15 = .ok (.invokevirtual 273, 3) := by decide +kernel
theorem dX9_setGlareLimit_18 : decode cX9_setGlareLimit 18 = .ok (.aload_n 0, 1) := by decide +kernel
theorem dX9_setGlareLimit_19 : decode cX9_setGlareLimit 19 = .ok (.getfield 19, 3) := by decide +kernel
theorem dX9_setGlareLimit_22 : decode cX9_setGlareLimit 22 = .ok (.getfield 139, 3) := by decide +kernel
theorem dX9_setGlareLimit_25 : decode cX9_setGlareLimit 25 = .ok (.getfield 149, 3) := by decide +kernel
theorem dX9_setGlareLimit_28 : decode cX9_setGlareLimit 28 = .ok (.istore_n 2, 1) := by decide +kernel
theorem dX9_setGlareLimit_29 : decode cX9_setGlareLimit 29 = .ok (.aload_n 0, 1) := by decide +kernel
theorem dX9_setGlareLimit_30 : decode cX9_setGlareLimit 30 = .ok (.getfield 19, 3) := by decide +kernel
theorem dX9_setGlareLimit_33 : decode cX9_setGlareLimit 33 = .ok (.getfield 139, 3) := by decide +kernel
theorem dX9_setGlareLimit_36 : decode cX9_setGlareLimit 36 = .ok (.iload_n 1, 1) := by decide +kernel
theorem dX9_setGlareLimit_37 : decode cX9_setGlareLimit 37 = .ok (.putfield 149, 3) := by decide +kernel
theorem dX9_setGlareLimit_40 : decode cX9_setGlareLimit 40 = .ok (.iload_n 2, 1) := by decide +kernel
theorem dX9_setGlareLimit_41 : decode cX9_setGlareLimit 41 = .ok (.ireturn, 1) := by decide +kernel
set_option maxRecDepth 20000 in
theorem ggX9_setGloomLimit_X9_checkRange : GoodIn wsX9_setGloomLimit wsX9_checkRange := goodIn_ca (goodIn_r _ [8, 9, 10] (by decide +kernel) (by decide +kernel)) (goodIn_sub (fun _ h => List.mem_cons_of_mem _ (List.mem_append_right _ h)) (by decide +kernel))
set_option maxRecDepth 20000 in
theorem gX9_setGloomLimit_X9_checkRange : GoodIn wsX9_setGloomLimit (va_wsS RX9 201 yX9_checkRange wsX9_checkRange) := goodIn_app (goodIn_of _ (by decide +kernel)) ggX9_setGloomLimit_X9_checkRange
set_option maxRecDepth 20000 in
theorem ggX9_setGloomLimit_X0_push : GoodIn wsX9_setGloomLimit wsX0_push := goodIn_r _ [15, 16, 17, 18, 19, 20, 21, 22, 23, 24, 25, 26, 27, 28, 29, 30, 31, 32, 33, 34, 35, 36, 37, 38, 39, 40, 41, 42, 43, 44, 45, 46, 47, 48, 49, 50, 51, 52, 53, 54, 55, 56, 57, 58, 59, 60, 61, 62, 63, 64, 65, 66, 67, 68, 69, 85, 86, 87, 76, 77, 78, 79, 80, 81, 82, 83, 84, 88, 89, 90, 91, 92, 93, 94, 95, 96, 97, 98, 99] (by decide +kernel) (by decide +kernel)
set_option maxRecDepth 20000 in
theorem gX9_setGloomLimit_X0_push : GoodIn wsX9_setGloomLimit (wsV RX9 273 RX0 yX0_push wsX0_push) := goodIn_app (goodIn_of _ (by decide +kernel)) ggX9_setGloomLimit_X0_push
theorem dX9_setGloomLimit_0 : decode cX9_setGloomLimit 0 = .ok (.iload_n 1, 1) := by decide +kernel
theorem dX9_setGloomLimit_1 : decode cX9_setGloomLimit 1 = .ok (.iconst 0, 1) := by decide +kernel
theorem dX9_setGloomLimit_2 : decode cX9_setGloomLimit 2 = .ok (.bipush 13, 2) := by decide +kernel
theorem dX9_setGloomLimit_4 : decode cX9_setGloomLimit 4 = .ok (.invokestatic 201, 3) := by decide +kernel
theorem dX9_setGloomLimit_7 : decode cX9_setGloomLimit 7 = .ok (.aload_n 0, 1) := by decide +kernel
theorem dX9_setGloomLimit_8 : decode cX9_setGloomLimit 8 = .ok (.getfield 29, 3) := by decide +kernel
theorem dX9_setGloomLimit_11 : decode cX9_setGloomLimit 11 = .ok (.aload_n 0, 1) := by decide +kernel
theorem dX9_setGloomLimit_12 : decode cX9_setGloomLimit 12 = .ok (.getfield 19, 3) := by decide +kernel
theorem dX9_setGloomLimit_15 : decode cX9_setGloomLimit 15 = .ok (.invokevirtual 273, 3) := by decide +kernel
theorem dX9_setGloomLimit_18 : decode cX9_setGloomLimit 18 = .ok (.aload_n 0, 1) := by decide +kernel
theorem dX9_setGloomLimit_19 : decode cX9_setGloomLimit 19 = .ok (.getfield 19, 3) := by decide +kernel
theorem dX9_setGloomLimit_22 : decode cX9_setGloomLimit 22 = .ok (.getfield 139, 3) := by decide +kernel
theorem dX9_setGloomLimit_25 : decode cX9_setGloomLimit 25 = .ok (.getfield 152, 3) := by decide +kernel
theorem dX9_setGloomLimit_28 : decode cX9_setGloomLimit 28 = .ok (.istore_n 2, 1) := by decide +kernel
theorem dX9_setGloomLimit_29 : decode cX9_setGloomLimit 29 = .ok (.aload_n 0, 1) := by decide +kernel
theorem dX9_setGloomLimit_30 : decode cX9_setGloomLimit 30 = .ok (.getfield 19, 3) := by decide +kernel
theorem dX9_setGloomLimit_33 : decode cX9_setGloomLimit 33 = .ok (.getfield 139, 3) := by decide +kernel
theorem dX9_setGloomLimit_36 : decode cX9_setGloomLimit 36 = .ok (.iload_n 1, 1) := by decide +kernel
theorem dX9_setGloomLimit_37 : decode cX9_setGloomLimit 37 = .ok (.putfield 152, 3) := by decide +kernel
theorem dX9_setGloomLimit_40 : decode cX9_setGloomLimit 40 = .ok (.iload_n 2, 1) := by decide +kernel
theorem dX9_setGloomLimit_41 : decode cX9_setGloomLimit 41 = .ok (.ireturn, 1) := by decide +kernel
set_option maxRecDepth 20000 in
theorem ggX9_setTideLimit_X9_checkRange : GoodIn wsX9_setTideLimit wsX9_checkRange := goodIn_ca (goodIn_r _ [8, 9, 10] (by decide +kernel) (by decide +kernel)) (goodIn_sub (fun _ h => List.mem_cons_of_mem _ (List.mem_append_right _ h)) (by decide +kernel))
set_option maxRecDepth 20000 in
theorem gX9_setTideLimit_X9_checkRange : GoodIn wsX9_setTideLimit (va_wsS RX9 201 yX9_checkRange wsX9_checkRange) := goodIn_app (goodIn_of _ (by decide +kernel)) ggX9_setTideLimit_X9_checkRange
set_option maxRecDepth 20000 in
theorem ggX9_setTideLimit_X0_push : GoodIn wsX9_setTideLimit wsX0_push := goodIn_r _ [15, 16, 17, 18, 19, 20, 21, 22, 23, 24, 25, 26, 27, 28, 29, 30, 31, 32, 33, 34, 35, 36, 37, 38, 39, 40, 41, 42, 43, 44, 45, 46, 47, 48, 49, 50, 51, 52, 53, 54, 55, 56, 57, 58, 59, 60, 61, 62, 63, 64, 65, 66, 67, 68, 69, 85, 86, 87, 76, 77, 78, 79, 80, 81, 82, 83, 84, 88, 89, 90, 91, 92, 93, 94, 95, 96, 97, 98, 99] (by decide +kernel) (by decide +kernel)
set_option maxRecDepth 20000 in
theorem gX9_setTideLimit_X0_push : GoodIn wsX9_setTideLimit (wsV RX9 273 RX0 yX0_push wsX0_push) := goodIn_app (goodIn_of _ (by decide +kernel)) ggX9_setTideLimit_X0_push
theorem dX9_setTideLimit_0 : decode cX9_setTideLimit 0 = .ok (.iload_n 1, 1) := by decide +kernel
theorem dX9_setTideLimit_1 : decode cX9_setTideLimit 1 = .ok (.iconst 0, 1) := by decide +kernel
theorem dX9_setTideLimit_2 : decode cX9_setTideLimit 2 = .ok (.bipush 7, 2) := by decide +kernel
theorem dX9_setTideLimit_4 : decode cX9_setTideLimit 4 = .ok (.invokestatic 201, 3) := by decide +kernel
theorem dX9_setTideLimit_7 : decode cX9_setTideLimit 7 = .ok (.aload_n 0, 1) := by decide +kernel
theorem dX9_setTideLimit_8 : decode cX9_setTideLimit 8 = .ok (.getfield 29, 3) := by decide +kernel
theorem dX9_setTideLimit_11 : decode cX9_setTideLimit 11 = .ok (.aload_n 0, 1) := by decide +kernel
theorem dX9_setTideLimit_12 : decode cX9_setTideLimit 12 = .ok (.getfield 19, 3) := by decide +kernel
theorem dX9_setTideLimit_15 : decode cX9_setTideLimit 15 = .ok (.invokevirtual 273, 3) := by decide +kernel
theorem dX9_setTideLimit_18 : decode cX9_setTideLimit 18 = .ok (.aload_n 0, 1) := by decide +kernel
theorem dX9_setTideLimit_19 : decode cX9_setTideLimit 19 = .ok (.getfield 19, 3) := by decide +kernel
theorem dX9_setTideLimit_22 : decode cX9_setTideLimit 22 = .ok (.getfield 139, 3) := by decide +kernel
theorem dX9_setTideLimit_25 : decode cX9_setTideLimit 25 = .ok (.getfield 155, 3) := by decide +kernel
theorem dX9_setTideLimit_28 : decode cX9_setTideLimit 28 = .ok (.istore_n 2, 1) := by decide +kernel
theorem dX9_setTideLimit_29 : decode cX9_setTideLimit 29 = .ok (.aload_n 0, 1) := by decide +kernel
theorem dX9_setTideLimit_30 : decode cX9_setTideLimit 30 = .ok (.getfield 19, 3) := by decide +kernel
theorem dX9_setTideLimit_33 : decode cX9_setTideLimit 33 = .ok (.getfield 139, 3) := by decide +kernel
theorem dX9_setTideLimit_36 : decode cX9_setTideLimit 36 = .ok (.iload_n 1, 1) := by decide +kernel
theorem dX9_setTideLimit_37 : decode cX9_setTideLimit 37 = .ok (.putfield 155, 3) := by decide +kernel
theorem dX9_setTideLimit_40 : decode cX9_setTideLimit 40 = .ok (.iload_n 2, 1) := by decide +kernel
theorem dX9_setTideLimit_41 : decode cX9_setTideLimit 41 = .ok (.ireturn, 1) := by decide +kernel
set_option maxRecDepth 20000 in
theorem ggX9_endNights_X9_checkRange : GoodIn wsX9_endNights wsX9_checkRange := goodIn_ca (goodIn_r _ [9, 10, 11] (by decide +kernel) (by decide +kernel)) (goodIn_sub (fun _ h => List.mem_cons_of_mem _ (List.mem_append_right _ h)) (by decide +kernel))
set_option maxRecDepth 20000 in
theorem gX9_endNights_X9_checkRange : GoodIn wsX9_endNights (va_wsS RX9 201 yX9_checkRange wsX9_checkRange) := goodIn_app (goodIn_of _ (by decide +kernel)) ggX9_endNights_X9_checkRange
set_option maxRecDepth 20000 in
theorem ggX9_endNights_X0_push : GoodIn wsX9_endNights wsX0_push := goodIn_r _ [16, 17, 18, 19, 20, 21, 22, 23, 24, 25, 26, 27, 28, 29, 30, 31, 32, 33, 34, 35, 36, 37, 38, 39, 40, 41, 42, 43, 44, 45, 46, 47, 48, 49, 50, 51, 52, 53, 54, 55, 56, 57, 58, 59, 60, 61, 62, 63, 64, 65, 66, 67, 68, 69, 70, 155, 156, 157, 151, 152, 153, 154, 158, 159, 160, 161, 162, 163, 164, 165, 166, 167, 168, 169, 170, 171, 172, 173, 174] (by decide +kernel) (by decide +kernel)
set_option maxRecDepth 20000 in
theorem gX9_endNights_X0_push : GoodIn wsX9_endNights (wsV RX9 273 RX0 yX0_push wsX0_push) := goodIn_app (goodIn_of _ (by decide +kernel)) ggX9_endNights_X0_push
set_option maxRecDepth 20000 in
theorem ggX9_endNights_X3_endOneNight : GoodIn wsX9_endNights wsX3_endOneNight := goodIn_r _ [74, 30, 29, 31, 75, 32, 76, 77, 78, 36, 79, 80, 81, 82, 83, 38, 39, 40, 84, 85, 86, 87, 88, 89, 90, 91, 92, 22, 93, 94, 95, 96, 97, 41, 42, 98, 99, 100, 101, 102, 103, 104, 105, 106, 107, 27, 108, 109, 110, 111, 112, 113, 60, 114, 62, 68, 65, 66, 115, 116, 117, 118, 69, 70, 119, 120, 121, 122, 123, 124, 125, 126, 127, 128, 129, 130, 67, 131, 132, 133, 50, 134, 56, 53, 135, 136, 137, 138, 52, 139, 140, 141, 142, 143, 21, 23, 144, 151, 152, 153, 154, 163, 164, 165, 166, 158, 159, 160, 161, 162, 167, 168, 169, 170, 171, 172, 173, 174] (by decide +kernel) (by decide +kernel)
set_option maxRecDepth 20000 in
theorem gX9_endNights_X3_endOneNight : GoodIn wsX9_endNights (wsV RX9 260 RX3 yX3_endOneNight wsX3_endOneNight) := goodIn_app (goodIn_of _ (by decide +kernel)) ggX9_endNights_X3_endOneNight
theorem dX9_endNights_0 : decode cX9_endNights 0 = .ok (.iload_n 1, 1) := by decide +kernel
theorem dX9_endNights_1 : decode cX9_endNights 1 = .ok (.iconst 1, 1) := by decide +kernel
theorem dX9_endNights_2 : decode cX9_endNights 2 = .ok (.bipush 60, 2) := by decide +kernel
theorem dX9_endNights_4 : decode cX9_endNights 4 = .ok (.invokestatic 201, 3) := by decide +kernel
theorem dX9_endNights_7 : decode cX9_endNights 7 = .ok (.aload_n 0, 1) := by decide +kernel
theorem dX9_endNights_8 : decode cX9_endNights 8 = .ok (.getfield 19, 3) := by decide +kernel
theorem dX9_endNights_11 : decode cX9_endNights 11 = .ok (.getfield 124, 3) := by decide +kernel
theorem dX9_endNights_14 : decode cX9_endNights 14 = .ok (.iload_n 1, 1) := by decide +kernel
theorem dX9_endNights_15 : decode cX9_endNights 15 = .ok (.iadd, 1) := by decide +kernel
theorem dX9_endNights_16 : decode cX9_endNights 16 = .ok (.sipush 999, 3) := by decide +kernel
theorem dX9_endNights_19 : decode cX9_endNights 19 = .ok (.if_icmp .le 14, 3) := by decide +kernel
theorem dX9_endNights_22 : decode cX9_endNights 22 = .ok (.new 82, 3) := by decide +kernel
theorem dX9_endNights_25 : decode cX9_endNights 25 = .ok (.dup, 1) := by decide +kernel
theorem dX9_endNights_26 : decode cX9_endNights 26 = .ok (.ldc_w 305, 3) := by decide +kernel
theorem dX9_endNights_29 : decode cX9_endNights 29 = .ok (.invokespecial 86, 3) := by decide +kernel
theorem dX9_endNights_32 : decode cX9_endNights 32 = .ok (.athrow, 1) := by decide +kernel
theorem dX9_endNights_33 : decode cX9_endNights 33 = .ok (.aload_n 0, 1) := by decide +kernel
theorem dX9_endNights_34 : decode cX9_endNights 34 = .ok (.getfield 29, 3) := by decide +kernel
theorem dX9_endNights_37 : decode cX9_endNights 37 = .ok (.aload_n 0, 1) := by decide +kernel
theorem dX9_endNights_38 : decode cX9_endNights 38 = .ok (.getfield 19, 3) := by decide +kernel
theorem dX9_endNights_41 : decode cX9_endNights 41 = .ok (.invokevirtual 273, 3) := by decide +kernel
theorem dX9_endNights_44 : decode cX9_endNights 44 = .ok (.iconst 0, 1) := by decide +kernel
theorem dX9_endNights_45 : decode cX9_endNights 45 = .ok (.istore_n 2, 1) := by decide +kernel
theorem dX9_endNights_46 : decode cX9_endNights 46 = .ok (.iconst 0, 1) := by decide +kernel
theorem dX9_endNights_47 : decode cX9_endNights 47 = .ok (.istore_n 3, 1) := by decide +kernel
theorem dX9_endNights_48 : decode cX9_endNights 48 = .ok (.iload_n 3, 1) := by decide +kernel
theorem dX9_endNights_49 : decode cX9_endNights 49 = .ok (.iload_n 1, 1) := by decide +kernel
theorem dX9_endNights_50 : decode cX9_endNights 50 = .ok (.if_icmp .ge 19, 3) := by decide +kernel
theorem dX9_endNights_53 : decode cX9_endNights 53 = .ok (.iload_n 2, 1) := by decide +kernel
theorem dX9_endNights_54 : decode cX9_endNights 54 = .ok (.aload_n 0, 1) := by decide +kernel
theorem dX9_endNights_55 : decode cX9_endNights 55 = .ok (.getfield 19, 3) := by decide +kernel
theorem dX9_endNights_58 : decode cX9_endNights 58 = .ok (.invokevirtual 260, 3) := by decide +kernel
theorem dX9_endNights_61 : decode cX9_endNights 61 = .ok (.iadd, 1) := by decide +kernel
theorem dX9_endNights_62 : decode cX9_endNights 62 = .ok (.istore_n 2, 1) := by decide +kernel
theorem dX9_endNights_63 : decode cX9_endNights 63 = .ok (.iinc 3 1, 3) := by decide +kernel
theorem dX9_endNights_66 : decode cX9_endNights 66 = .ok (.goto (-18), 3) := by decide +kernel
theorem dX9_endNights_69 : decode cX9_endNights 69 = .ok (.iload_n 2, 1) := by decide +kernel
theorem dX9_endNights_70 : decode cX9_endNights 70 = .ok (.ireturn, 1) := by decide +kernel
set_option maxRecDepth 20000 in
theorem ggX9_undo_X0_pop : GoodIn wsX9_undo wsX0_pop := goodIn_r _ [10, 11, 12, 13, 14, 15, 16, 17, 18, 19, 20, 21, 22, 23, 24, 25, 26, 27, 28, 29, 30, 31, 32, 33, 34, 35, 36, 37, 38, 39, 40, 41, 42, 43, 44, 45, 46, 47, 48, 49, 50, 51, 52, 53, 54, 55, 56, 57, 58, 59, 60, 67, 68, 69, 70, 71, 72, 73, 74, 75, 76, 77, 78, 79, 80, 81, 82, 83, 84, 85, 86, 87, 88, 89, 90] (by decide +kernel) (by decide +kernel)
set_option maxRecDepth 20000 in
theorem gX9_undo_X0_pop : GoodIn wsX9_undo (wsV RX9 312 RX0 yX0_pop wsX0_pop) := goodIn_app (goodIn_of _ (by decide +kernel)) ggX9_undo_X0_pop
theorem dX9_undo_0 : decode cX9_undo 0 = .ok (.aload_n 0, 1) := by decide +kernel
theorem dX9_undo_1 : decode cX9_undo 1 = .ok (.getfield 29, 3) := by decide +kernel
theorem dX9_undo_4 : decode cX9_undo 4 = .ok (.getfield 307, 3) := by decide +kernel
theorem dX9_undo_7 : decode cX9_undo 7 = .ok (.ifCond .ne 14, 3) := by decide +kernel
theorem dX9_undo_10 : decode cX9_undo 10 = .ok (.new 82, 3) := by decide +kernel
theorem dX9_undo_13 : decode cX9_undo 13 = .ok (.dup, 1) := by decide +kernel
theorem dX9_undo_14 : decode cX9_undo 14 = .ok (.ldc_w 310, 3) := by decide +kernel
theorem dX9_undo_17 : decode cX9_undo 17 = .ok (.invokespecial 86, 3) := by decide +kernel
theorem dX9_undo_20 : decode cX9_undo 20 = .ok (.athrow, 1) := by decide +kernel
theorem dX9_undo_21 : decode cX9_undo 21 = .ok (.aload_n 0, 1) := by decide +kernel
theorem dX9_undo_22 : decode cX9_undo 22 = .ok (.getfield 29, 3) := by decide +kernel
theorem dX9_undo_25 : decode cX9_undo 25 = .ok (.aload_n 0, 1) := by decide +kernel
theorem dX9_undo_26 : decode cX9_undo 26 = .ok (.getfield 19, 3) := by decide +kernel
theorem dX9_undo_29 : decode cX9_undo 29 = .ok (.invokevirtual 312, 3) := by decide +kernel
theorem dX9_undo_32 : decode cX9_undo 32 = .ok (.aload_n 0, 1) := by decide +kernel
theorem dX9_undo_33 : decode cX9_undo 33 = .ok (.getfield 29, 3) := by decide +kernel
theorem dX9_undo_36 : decode cX9_undo 36 = .ok (.getfield 307, 3) := by decide +kernel
theorem dX9_undo_39 : decode cX9_undo 39 = .ok (.ireturn, 1) := by decide +kernel
set_option maxRecDepth 20000 in
theorem ggX9_saveSnapshot_X9_checkSlot : GoodIn wsX9_saveSnapshot wsX9_checkSlot := goodIn_ca (goodIn_r _ [7, 8, 9] (by decide +kernel) (by decide +kernel)) (goodIn_sub (fun _ h => List.mem_cons_of_mem _ (List.mem_append_right _ h)) (by decide +kernel))
set_option maxRecDepth 20000 in
theorem gX9_saveSnapshot_X9_checkSlot : GoodIn wsX9_saveSnapshot (va_wsS RX9 315 yX9_checkSlot wsX9_checkSlot) := goodIn_app (goodIn_of _ (by decide +kernel)) ggX9_saveSnapshot_X9_checkSlot
set_option maxRecDepth 20000 in
theorem ggX9_saveSnapshot_X7_put : GoodIn wsX9_saveSnapshot wsX7_put := goodIn_r _ [14, 15, 16, 17, 18, 19, 20, 21, 22, 23, 24, 25, 26, 27, 28, 29, 30, 31, 32, 33, 34, 35, 36, 37, 38, 39, 40, 41, 42, 43, 44, 45, 46, 47, 48, 49, 50, 51, 52, 53, 54, 55, 56, 57, 58, 59, 60, 61, 62, 63, 74, 75, 70, 71, 72, 73, 76, 77, 78, 79, 80, 81, 82, 83, 84, 85, 86, 87, 88, 89, 90, 91, 92] (by decide +kernel) (by decide +kernel)
set_option maxRecDepth 20000 in
theorem gX9_saveSnapshot_X7_put : GoodIn wsX9_saveSnapshot (wsV RX9 318 RX7 yX7_put wsX7_put) := goodIn_app (goodIn_of _ (by decide +kernel)) ggX9_saveSnapshot_X7_put
theorem dX9_saveSnapshot_0 : decode cX9_saveSnapshot 0 = .ok (.iload_n 1, 1) := by decide +kernel
theorem dX9_saveSnapshot_1 : decode cX9_saveSnapshot 1 = .ok (.invokestatic 315, 3) := by decide +kernel
theorem dX9_saveSnapshot_4 : decode cX9_saveSnapshot 4 = .ok (.aload_n 0, 1) := by decide +kernel
theorem dX9_saveSnapshot_5 : decode cX9_saveSnapshot 5 = .ok (.getfield 36, 3) := by decide +kernel
theorem dX9_saveSnapshot_8 : decode cX9_saveSnapshot 8 = .ok (.iload_n 1, 1) := by decide +kernel
theorem dX9_saveSnapshot_9 : decode cX9_saveSnapshot 9 = .ok (.aload_n 0, 1) := by decide +kernel
theorem dX9_saveSnapshot_10 : decode cX9_saveSnapshot 10 = .ok (.getfield 19, 3) := by decide +kernel
theorem dX9_saveSnapshot_13 : decode cX9_saveSnapshot 13 = .ok (.invokevirtual 318, 3) := by decide +kernel
theorem dX9_saveSnapshot_16 : decode cX9_saveSnapshot 16 = .ok (.aload_n 0, 1) := by decide +kernel
theorem dX9_saveSnapshot_17 : decode cX9_saveSnapshot 17 = .ok (.getfield 19, 3) := by decide +kernel
theorem dX9_saveSnapshot_20 : decode cX9_saveSnapshot 20 = .ok (.getfield 124, 3) := by decide +kernel
theorem dX9_saveSnapshot_23 : decode cX9_saveSnapshot 23 = .ok (.ireturn, 1) := by decide +kernel
set_option maxRecDepth 20000 in
theorem ggX9_restoreSnapshot_X9_checkSlot : GoodIn wsX9_restoreSnapshot wsX9_checkSlot := goodIn_ca (goodIn_r _ [12, 13, 14] (by decide +kernel) (by decide +kernel)) (goodIn_sub (fun _ h => List.mem_cons_of_mem _ (List.mem_append_right _ h)) (by decide +kernel))
set_option maxRecDepth 20000 in
theorem gX9_restoreSnapshot_X9_checkSlot : GoodIn wsX9_restoreSnapshot (va_wsS RX9 315 yX9_checkSlot wsX9_checkSlot) := goodIn_app (goodIn_of _ (by decide +kernel)) ggX9_restoreSnapshot_X9_checkSlot
set_option maxRecDepth 20000 in
theorem ggX9_restoreSnapshot_X0_push : GoodIn wsX9_restoreSnapshot wsX0_push := goodIn_r _ [19, 20, 21, 22, 23, 24, 25, 26, 27, 28, 29, 30, 31, 32, 33, 34, 35, 36, 37, 38, 39, 40, 41, 42, 43, 44, 45, 46, 47, 48, 49, 50, 51, 52, 53, 54, 55, 56, 57, 58, 59, 60, 61, 62, 63, 64, 65, 66, 67, 68, 69, 70, 71, 72, 73, 87, 88, 89, 83, 84, 85, 86, 90, 91, 92, 93, 94, 95, 96, 97, 98, 99, 100, 101, 102, 103, 104, 105, 106] (by decide +kernel) (by decide +kernel)
set_option maxRecDepth 20000 in
theorem gX9_restoreSnapshot_X0_push : GoodIn wsX9_restoreSnapshot (wsV RX9 273 RX0 yX0_push wsX0_push) := goodIn_app (goodIn_of _ (by decide +kernel)) ggX9_restoreSnapshot_X0_push
set_option maxRecDepth 20000 in
theorem ggX9_restoreSnapshot_X3_copyFrom : GoodIn wsX9_restoreSnapshot wsX3_copyFrom := goodIn_r _ [31, 32, 33, 34, 35, 36, 37, 38, 39, 40, 41, 42, 43, 44, 45, 46, 47, 48, 49, 50, 51, 52, 53, 54, 55, 56, 57, 58, 59, 60, 61, 62, 63, 64, 65, 66, 67, 68, 69, 70, 71, 72, 73, 83, 84, 85, 86, 90, 91, 92, 93, 94, 95, 96, 97, 98, 99, 100, 101, 102, 103, 104, 105, 106] (by decide +kernel) (by decide +kernel)
set_option maxRecDepth 20000 in
theorem gX9_restoreSnapshot_X3_copyFrom : GoodIn wsX9_restoreSnapshot (wsV RX9 75 RX3 yX3_copyFrom wsX3_copyFrom) := goodIn_app (goodIn_of _ (by decide +kernel)) ggX9_restoreSnapshot_X3_copyFrom
theorem dX9_restoreSnapshot_0 : decode cX9_restoreSnapshot 0 = .ok (.iload_n 1, 1) := by decide +kernel
theorem dX9_restoreSnapshot_1 : decode cX9_restoreSnapshot 1 = .ok (.invokestatic 315, 3) := by decide +kernel
theorem dX9_restoreSnapshot_4 : decode cX9_restoreSnapshot 4 = .ok (.aload_n 0, 1) := by decide +kernel
theorem dX9_restoreSnapshot_5 : decode cX9_restoreSnapshot 5 = .ok (.getfield 36, 3) := by decide +kernel
theorem dX9_restoreSnapshot_8 : decode cX9_restoreSnapshot 8 = .ok (.getfield 321, 3) := by decide +kernel
theorem dX9_restoreSnapshot_11 : decode cX9_restoreSnapshot 11 = .ok (.iload_n 1, 1) := by decide +kernel
theorem dX9_restoreSnapshot_12 : decode cX9_restoreSnapshot 12 = .ok (.baload, 1) := by decide +kernel
theorem dX9_restoreSnapshot_13 : decode cX9_restoreSnapshot 13 = .ok (.ifCond .ne 14, 3) := by decide +kernel
theorem dX9_restoreSnapshot_16 : decode cX9_restoreSnapshot 16 = .ok (.new 116, 3) := by decide +kernel
theorem dX9_restoreSnapshot_19 : decode cX9_restoreSnapshot 19 = .ok (.dup, 1) := by decide +kernel
theorem dX9_restoreSnapshot_20 : decode cX9_restoreSnapshot 20 = .ok (.ldc_w 325, 3) := by decide +kernel
theorem dX9_restoreSnapshot_23 : decode cX9_restoreSnapshot 23 = .ok (.invokespecial 120, 3) := by decide +kernel
theorem dX9_restoreSnapshot_26 : decode cX9_restoreSnapshot 26 = .ok (.athrow, 1) := by decide +kernel
theorem dX9_restoreSnapshot_27 : decode cX9_restoreSnapshot 27 = .ok (.aload_n 0, 1) := by decide +kernel
theorem dX9_restoreSnapshot_28 : decode cX9_restoreSnapshot 28 = .ok (.getfield 29, 3) := by decide +kernel
theorem dX9_restoreSnapshot_31 : decode cX9_restoreSnapshot 31 = .ok (.aload_n 0, 1) := by decide +kernel
theorem dX9_restoreSnapshot_32 : decode cX9_restoreSnapshot 32 = .ok (.getfield 19, 3) := by decide +kernel
theorem dX9_restoreSnapshot_35 : decode cX9_restoreSnapshot 35 = .ok (.invokevirtual 273, 3) := by decide +kernel
theorem dX9_restoreSnapshot_38 : decode cX9_restoreSnapshot 38 = .ok (.aload_n 0, 1) := by decide +kernel
theorem dX9_restoreSnapshot_39 : decode cX9_restoreSnapshot 39 = .ok (.getfield 19, 3) := by decide +kernel
theorem dX9_restoreSnapshot_42 : decode cX9_restoreSnapshot 42 = .ok (.aload_n 0, 1) := by decide +kernel
theorem dX9_restoreSnapshot_43 : decode cX9_restoreSnapshot 43 = .ok (.getfield 36, 3) := by decide +kernel
theorem dX9_restoreSnapshot_46 : decode cX9_restoreSnapshot 46 = .ok (.getfield 327, 3) := by decide +kernel
theorem dX9_restoreSnapshot_49 : decode cX9_restoreSnapshot 49 = .ok (.iload_n 1, 1) := by decide +kernel
theorem dX9_restoreSnapshot_50 : decode cX9_restoreSnapshot 50 = .ok (.aaload, 1) := by decide +kernel
theorem dX9_restoreSnapshot_51 : decode cX9_restoreSnapshot 51 = .ok (.invokevirtual 75, 3) := by decide +kernel
theorem dX9_restoreSnapshot_54 : decode cX9_restoreSnapshot 54 = .ok (.aload_n 0, 1) := by decide +kernel
theorem dX9_restoreSnapshot_55 : decode cX9_restoreSnapshot 55 = .ok (.getfield 19, 3) := by decide +kernel
theorem dX9_restoreSnapshot_58 : decode cX9_restoreSnapshot 58 = .ok (.getfield 124, 3) := by decide +kernel
theorem dX9_restoreSnapshot_61 : decode cX9_restoreSnapshot 61 = .ok (.ireturn, 1) := by decide +kernel
set_option maxRecDepth 20000 in
theorem ggX9_writeComplaints_X9_checkRange : GoodIn wsX9_writeComplaints wsX9_checkRange := goodIn_ca (goodIn_r _ [11, 12, 13] (by decide +kernel) (by decide +kernel)) (goodIn_sub (fun _ h => List.mem_cons_of_mem _ (List.mem_append_right _ h)) (by decide +kernel))
set_option maxRecDepth 20000 in
theorem gX9_writeComplaints_X9_checkRange : GoodIn wsX9_writeComplaints (va_wsS RX9 201 yX9_checkRange wsX9_checkRange) := goodIn_app (goodIn_of _ (by decide +kernel)) ggX9_writeComplaints_X9_checkRange
set_option maxRecDepth 20000 in
theorem ggX9_writeComplaints_X4_writeLine : GoodIn wsX9_writeComplaints wsX4_writeLine := goodIn_r _ [18, 19, 20, 21, 17, 22, 23, 24, 25, 26, 27, 34, 35] (by decide +kernel) (by decide +kernel)
set_option maxRecDepth 20000 in
theorem gX9_writeComplaints_X4_writeLine : GoodIn wsX9_writeComplaints (wsV RX9 332 RX4 yX4_writeLine wsX4_writeLine) := goodIn_app (goodIn_of _ (by decide +kernel)) ggX9_writeComplaints_X4_writeLine
theorem dX9_writeComplaints_0 : decode cX9_writeComplaints 0 = .ok (.iload_n 1, 1) := by decide +kernel
theorem dX9_writeComplaints_1 : decode cX9_writeComplaints 1 = .ok (.iconst 0, 1) := by decide +kernel
theorem dX9_writeComplaints_2 : decode cX9_writeComplaints 2 = .ok (.bipush 99, 2) := by decide +kernel
theorem dX9_writeComplaints_4 : decode cX9_writeComplaints 4 = .ok (.invokestatic 201, 3) := by decide +kernel
theorem dX9_writeComplaints_7 : decode cX9_writeComplaints 7 = .ok (.aload_n 0, 1) := by decide +kernel
theorem dX9_writeComplaints_8 : decode cX9_writeComplaints 8 = .ok (.getfield 43, 3) := by decide +kernel
theorem dX9_writeComplaints_11 : decode cX9_writeComplaints 11 = .ok (.iconst 0, 1) := by decide +kernel
theorem dX9_writeComplaints_12 : decode cX9_writeComplaints 12 = .ok (.putfield 331, 3) := by decide +kernel
theorem dX9_writeComplaints_15 : decode cX9_writeComplaints 15 = .ok (.iconst 0, 1) := by decide +kernel
theorem dX9_writeComplaints_16 : decode cX9_writeComplaints 16 = .ok (.istore_n 2, 1) := by decide +kernel
theorem dX9_writeComplaints_17 : decode cX9_writeComplaints 17 = .ok (.iload_n 2, 1) := by decide +kernel
theorem dX9_writeComplaints_18 : decode cX9_writeComplaints 18 = .ok (.aload_n 0, 1) := by decide +kernel
theorem dX9_writeComplaints_19 : decode cX9_writeComplaints 19 = .ok (.getfield 19, 3) := by decide +kernel
theorem dX9_writeComplaints_22 : decode cX9_writeComplaints 22 = .ok (.getfield 107, 3) := by decide +kernel
theorem dX9_writeComplaints_25 : decode cX9_writeComplaints 25 = .ok (.getfield 111, 3) := by decide +kernel
theorem dX9_writeComplaints_28 : decode cX9_writeComplaints 28 = .ok (.if_icmp .ge 45, 3) := by decide +kernel
theorem dX9_writeComplaints_31 : decode cX9_writeComplaints 31 = .ok (.aload_n 0, 1) := by decide +kernel
theorem dX9_writeComplaints_32 : decode cX9_writeComplaints 32 = .ok (.getfield 19, 3) := by decide +kernel
theorem dX9_writeComplaints_35 : decode cX9_writeComplaints 35 = .ok (.getfield 107, 3) := by decide +kernel
theorem dX9_writeComplaints_38 : decode cX9_writeComplaints 38 = .ok (.getfield 175, 3) := by decide +kernel
theorem dX9_writeComplaints_41 : decode cX9_writeComplaints 41 = .ok (.iload_n 2, 1) := by decide +kernel
theorem dX9_writeComplaints_42 : decode cX9_writeComplaints 42 = .ok (.iaload, 1) := by decide +kernel
theorem dX9_writeComplaints_43 : decode cX9_writeComplaints 43 = .ok (.iload_n 1, 1) := by decide +kernel
theorem dX9_writeComplaints_44 : decode cX9_writeComplaints 44 = .ok (.if_icmp .ne 23, 3) := by decide +kernel
theorem dX9_writeComplaints_47 : decode cX9_writeComplaints 47 = .ok (.aload_n 0, 1) := by decide +kernel
theorem dX9_writeComplaints_48 : decode cX9_writeComplaints 48 = .ok (.getfield 43, 3) := by decide +kernel
theorem dX9_writeComplaints_51 : decode cX9_writeComplaints 51 = .ok (.iload_n 2, 1) := by decide +kernel
theorem dX9_writeComplaints_52 : decode cX9_writeComplaints 52 = .ok (.aload_n 0, 1) := by decide +kernel
theorem dX9_writeComplaints_53 : decode cX9_writeComplaints 53 = .ok (.getfield 19, 3) := by decide +kernel
theorem dX9_writeComplaints_56 : decode cX9_writeComplaints 56 = .ok (.getfield 107, 3) := by decide +kernel
theorem dX9_writeComplaints_59 : decode cX9_writeComplaints 59 = .ok (.getfield 188, 3) := by decide +kernel
theorem dX9_writeComplaints_62 : decode cX9_writeComplaints 62 = .ok (.iload_n 2, 1) := by decide +kernel
theorem dX9_writeComplaints_63 : decode cX9_writeComplaints 63 = .ok (.iaload, 1) := by decide +kernel
theorem dX9_writeComplaints_64 : decode cX9_writeComplaints 64 = .ok (.invokevirtual 332, 3) := by decide +kernel
theorem dX9_writeComplaints_67 : decode cX9_writeComplaints 67 = .ok (.iinc 2 1, 3) := by decide +kernel
theorem dX9_writeComplaints_70 : decode cX9_writeComplaints 70 = .ok (.goto (-53), 3) := by decide +kernel
theorem dX9_writeComplaints_73 : decode cX9_writeComplaints 73 = .ok (.aload_n 0, 1) := by decide +kernel
theorem dX9_writeComplaints_74 : decode cX9_writeComplaints 74 = .ok (.getfield 43, 3) := by decide +kernel
theorem dX9_writeComplaints_77 : decode cX9_writeComplaints 77 = .ok (.getfield 331, 3) := by decide +kernel
theorem dX9_writeComplaints_80 : decode cX9_writeComplaints 80 = .ok (.ireturn, 1) := by decide +kernel
theorem dX9_writtenByte_0 : decode cX9_writtenByte 0 = .ok (.iload_n 1, 1) := by decide +kernel
theorem dX9_writtenByte_1 : decode cX9_writtenByte 1 = .ok (.ifCond .lt 14, 3) := by decide +kernel
theorem dX9_writtenByte_4 : decode cX9_writtenByte 4 = .ok (.iload_n 1, 1) := by decide +kernel
theorem dX9_writtenByte_5 : decode cX9_writtenByte 5 = .ok (.aload_n 0, 1) := by decide +kernel
theorem dX9_writtenByte_6 : decode cX9_writtenByte 6 = .ok (.getfield 43, 3) := by decide +kernel
theorem dX9_writtenByte_9 : decode cX9_writtenByte 9 = .ok (.getfield 331, 3) := by decide +kernel
theorem dX9_writtenByte_12 : decode cX9_writtenByte 12 = .ok (.if_icmp .lt 14, 3) := by decide +kernel
theorem dX9_writtenByte_15 : decode cX9_writtenByte 15 = .ok (.new 297, 3) := by decide +kernel
theorem dX9_writtenByte_18 : decode cX9_writtenByte 18 = .ok (.dup, 1) := by decide +kernel
theorem dX9_writtenByte_19 : decode cX9_writtenByte 19 = .ok (.ldc_w 335, 3) := by decide +kernel
theorem dX9_writtenByte_22 : decode cX9_writtenByte 22 = .ok (.invokespecial 301, 3) := by decide +kernel
theorem dX9_writtenByte_25 : decode cX9_writtenByte 25 = .ok (.athrow, 1) := by decide +kernel
theorem dX9_writtenByte_26 : decode cX9_writtenByte 26 = .ok (.aload_n 0, 1) := by decide +kernel
theorem dX9_writtenByte_27 : decode cX9_writtenByte 27 = .ok (.getfield 43, 3) := by decide +kernel
theorem dX9_writtenByte_30 : decode cX9_writtenByte 30 = .ok (.getfield 337, 3) := by decide +kernel
theorem dX9_writtenByte_33 : decode cX9_writtenByte 33 = .ok (.iload_n 1, 1) := by decide +kernel
theorem dX9_writtenByte_34 : decode cX9_writtenByte 34 = .ok (.iaload, 1) := by decide +kernel
theorem dX9_writtenByte_35 : decode cX9_writtenByte 35 = .ok (.ireturn, 1) := by decide +kernel
theorem dX9_checkRange_0 : decode cX9_checkRange 0 = .ok (.iload_n 0, 1) := by decide +kernel
theorem dX9_checkRange_1 : decode cX9_checkRange 1 = .ok (.iload_n 1, 1) := by decide +kernel
theorem dX9_checkRange_2 : decode cX9_checkRange 2 = .ok (.if_icmp .lt 8, 3) := by decide +kernel
theorem dX9_checkRange_5 : decode cX9_checkRange 5 = .ok (.iload_n 0, 1) := by decide +kernel
theorem dX9_checkRange_6 : decode cX9_checkRange 6 = .ok (.iload_n 2, 1) := by decide +kernel
theorem dX9_checkRange_7 : decode cX9_checkRange 7 = .ok (.if_icmp .le 14, 3) := by decide +kernel
theorem dX9_checkRange_10 : decode cX9_checkRange 10 = .ok (.new 92, 3) := by decide +kernel
theorem dX9_checkRange_13 : decode cX9_checkRange 13 = .ok (.dup, 1) := by decide +kernel
theorem dX9_checkRange_14 : decode cX9_checkRange 14 = .ok (.ldc_w 340, 3) := by decide +kernel
theorem dX9_checkRange_17 : decode cX9_checkRange 17 = .ok (.invokespecial 96, 3) := by decide +kernel
theorem dX9_checkRange_20 : decode cX9_checkRange 20 = .ok (.athrow, 1) := by decide +kernel
theorem dX9_checkRange_21 : decode cX9_checkRange 21 = .ok (.return_, 1) := by decide +kernel
set_option maxRecDepth 20000 in
theorem ggX9_checkNight_X9_checkRange : GoodIn wsX9_checkNight wsX9_checkRange := goodIn_ca (goodIn_r _ [4, 5, 6] (by decide +kernel) (by decide +kernel)) (goodIn_sub (fun _ h => List.mem_cons_of_mem _ (List.mem_append_right _ h)) (by decide +kernel))
set_option maxRecDepth 20000 in
theorem gX9_checkNight_X9_checkRange : GoodIn wsX9_checkNight (va_wsS RX9 201 yX9_checkRange wsX9_checkRange) := goodIn_app (goodIn_of _ (by decide +kernel)) ggX9_checkNight_X9_checkRange
theorem dX9_checkNight_0 : decode cX9_checkNight 0 = .ok (.iload_n 0, 1) := by decide +kernel
theorem dX9_checkNight_1 : decode cX9_checkNight 1 = .ok (.iconst 0, 1) := by decide +kernel
theorem dX9_checkNight_2 : decode cX9_checkNight 2 = .ok (.sipush 2000, 3) := by decide +kernel
theorem dX9_checkNight_5 : decode cX9_checkNight 5 = .ok (.invokestatic 201, 3) := by decide +kernel
theorem dX9_checkNight_8 : decode cX9_checkNight 8 = .ok (.return_, 1) := by decide +kernel
set_option maxRecDepth 20000 in
theorem ggX9_checkSort_X9_checkRange : GoodIn wsX9_checkSort wsX9_checkRange := goodIn_ca (goodIn_r _ [4, 5, 6] (by decide +kernel) (by decide +kernel)) (goodIn_sub (fun _ h => List.mem_cons_of_mem _ (List.mem_append_right _ h)) (by decide +kernel))
set_option maxRecDepth 20000 in
theorem gX9_checkSort_X9_checkRange : GoodIn wsX9_checkSort (va_wsS RX9 201 yX9_checkRange wsX9_checkRange) := goodIn_app (goodIn_of _ (by decide +kernel)) ggX9_checkSort_X9_checkRange
theorem dX9_checkSort_0 : decode cX9_checkSort 0 = .ok (.iload_n 0, 1) := by decide +kernel
theorem dX9_checkSort_1 : decode cX9_checkSort 1 = .ok (.iconst 0, 1) := by decide +kernel
theorem dX9_checkSort_2 : decode cX9_checkSort 2 = .ok (.iconst 3, 1) := by decide +kernel
theorem dX9_checkSort_3 : decode cX9_checkSort 3 = .ok (.invokestatic 201, 3) := by decide +kernel
theorem dX9_checkSort_6 : decode cX9_checkSort 6 = .ok (.return_, 1) := by decide +kernel
theorem dX9_checkSlot_0 : decode cX9_checkSlot 0 = .ok (.iload_n 0, 1) := by decide +kernel
theorem dX9_checkSlot_1 : decode cX9_checkSlot 1 = .ok (.ifCond .lt 8, 3) := by decide +kernel
theorem dX9_checkSlot_4 : decode cX9_checkSlot 4 = .ok (.iload_n 0, 1) := by decide +kernel
theorem dX9_checkSlot_5 : decode cX9_checkSlot 5 = .ok (.iconst 2, 1) := by decide +kernel
theorem dX9_checkSlot_6 : decode cX9_checkSlot 6 = .ok (.if_icmp .lt 14, 3) := by decide +kernel
theorem dX9_checkSlot_9 : decode cX9_checkSlot 9 = .ok (.new 297, 3) := by decide +kernel
theorem dX9_checkSlot_12 : decode cX9_checkSlot 12 = .ok (.dup, 1) := by decide +kernel
theorem dX9_checkSlot_13 : decode cX9_checkSlot 13 = .ok (.ldc_w 342, 3) := by decide +kernel
theorem dX9_checkSlot_16 : decode cX9_checkSlot 16 = .ok (.invokespecial 301, 3) := by decide +kernel
theorem dX9_checkSlot_19 : decode cX9_checkSlot 19 = .ok (.athrow, 1) := by decide +kernel
theorem dX9_checkSlot_20 : decode cX9_checkSlot 20 = .ok (.return_, 1) := by decide +kernel
set_option maxRecDepth 20000 in
theorem ggX9_checkComplaint_X5_has : GoodIn wsX9_checkComplaint wsX5_has := goodIn_r _ [9, 10, 21, 22, 23, 24, 25, 26, 27, 28] (by decide +kernel) (by decide +kernel)
set_option maxRecDepth 20000 in
theorem gX9_checkComplaint_X5_has : GoodIn wsX9_checkComplaint (wsV RX9 344 RX5 yX5_has wsX5_has) := goodIn_app (goodIn_of _ (by decide +kernel)) ggX9_checkComplaint_X5_has
theorem dX9_checkComplaint_0 : decode cX9_checkComplaint 0 = .ok (.aload_n 0, 1) := by decide +kernel
theorem dX9_checkComplaint_1 : decode cX9_checkComplaint 1 = .ok (.getfield 19, 3) := by decide +kernel
theorem dX9_checkComplaint_4 : decode cX9_checkComplaint 4 = .ok (.getfield 107, 3) := by decide +kernel
theorem dX9_checkComplaint_7 : decode cX9_checkComplaint 7 = .ok (.iload_n 1, 1) := by decide +kernel
theorem dX9_checkComplaint_8 : decode cX9_checkComplaint 8 = .ok (.invokevirtual 344, 3) := by decide +kernel
theorem dX9_checkComplaint_11 : decode cX9_checkComplaint 11 = .ok (.ifCond .ne 14, 3) := by decide +kernel
theorem dX9_checkComplaint_14 : decode cX9_checkComplaint 14 = .ok (.new 297, 3) := by decide +kernel
theorem dX9_checkComplaint_17 : decode cX9_checkComplaint 17 = .ok (.dup, 1) := by decide +kernel
theorem dX9_checkComplaint_18 : decode cX9_checkComplaint 18 = .ok (.ldc_w 347, 3) := by decide +kernel
theorem dX9_checkComplaint_21 : decode cX9_checkComplaint 21 = .ok (.invokespecial 301, 3) := by decide +kernel
theorem dX9_checkComplaint_24 : decode cX9_checkComplaint 24 = .ok (.athrow, 1) := by decide +kernel
theorem dX9_checkComplaint_25 : decode cX9_checkComplaint 25 = .ok (.return_, 1) := by decide +kernel
set_option maxRecDepth 20000 in
theorem ggX9_checkClerk_X8_has : GoodIn wsX9_checkClerk wsX8_has := goodIn_r _ [9, 10, 21, 22, 23, 24] (by decide +kernel) (by decide +kernel)
set_option maxRecDepth 20000 in
theorem gX9_checkClerk_X8_has : GoodIn wsX9_checkClerk (wsV RX9 349 RX8 yX8_has wsX8_has) := goodIn_app (goodIn_of _ (by decide +kernel)) ggX9_checkClerk_X8_has
theorem dX9_checkClerk_0 : decode cX9_checkClerk 0 = .ok (.aload_n 0, 1) := by decide +kernel
theorem dX9_checkClerk_1 : decode cX9_checkClerk 1 = .ok (.getfield 19, 3) := by decide +kernel
theorem dX9_checkClerk_4 : decode cX9_checkClerk 4 = .ok (.getfield 224, 3) := by decide +kernel
theorem dX9_checkClerk_7 : decode cX9_checkClerk 7 = .ok (.iload_n 1, 1) := by decide +kernel
theorem dX9_checkClerk_8 : decode cX9_checkClerk 8 = .ok (.invokevirtual 349, 3) := by decide +kernel
theorem dX9_checkClerk_11 : decode cX9_checkClerk 11 = .ok (.ifCond .ne 14, 3) := by decide +kernel
theorem dX9_checkClerk_14 : decode cX9_checkClerk 14 = .ok (.new 297, 3) := by decide +kernel
theorem dX9_checkClerk_17 : decode cX9_checkClerk 17 = .ok (.dup, 1) := by decide +kernel
theorem dX9_checkClerk_18 : decode cX9_checkClerk 18 = .ok (.ldc_w 350, 3) := by decide +kernel
theorem dX9_checkClerk_21 : decode cX9_checkClerk 21 = .ok (.invokespecial 301, 3) := by decide +kernel
theorem dX9_checkClerk_24 : decode cX9_checkClerk 24 = .ok (.athrow, 1) := by decide +kernel
theorem dX9_checkClerk_25 : decode cX9_checkClerk 25 = .ok (.return_, 1) := by decide +kernel
theorem dX9_checkWaiting_0 : decode cX9_checkWaiting 0 = .ok (.aload_n 0, 1) := by decide +kernel
theorem dX9_checkWaiting_1 : decode cX9_checkWaiting 1 = .ok (.getfield 19, 3) := by decide +kernel
theorem dX9_checkWaiting_4 : decode cX9_checkWaiting 4 = .ok (.getfield 107, 3) := by decide +kernel
theorem dX9_checkWaiting_7 : decode cX9_checkWaiting 7 = .ok (.getfield 188, 3) := by decide +kernel
theorem dX9_checkWaiting_10 : decode cX9_checkWaiting 10 = .ok (.iload_n 1, 1) := by decide +kernel
theorem dX9_checkWaiting_11 : decode cX9_checkWaiting 11 = .ok (.iaload, 1) := by decide +kernel
theorem dX9_checkWaiting_12 : decode cX9_checkWaiting 12 = .ok (.ifCond .eq 14, 3) := by decide +kernel
theorem dX9_checkWaiting_15 : decode cX9_checkWaiting 15 = .ok (.new 82, 3) := by decide +kernel
theorem dX9_checkWaiting_18 : decode cX9_checkWaiting 18 = .ok (.dup, 1) := by decide +kernel
theorem dX9_checkWaiting_19 : decode cX9_checkWaiting 19 = .ok (.ldc_w 352, 3) := by decide +kernel
theorem dX9_checkWaiting_22 : decode cX9_checkWaiting 22 = .ok (.invokespecial 86, 3) := by decide +kernel
theorem dX9_checkWaiting_25 : decode cX9_checkWaiting 25 = .ok (.athrow, 1) := by decide +kernel
theorem dX9_checkWaiting_26 : decode cX9_checkWaiting 26 = .ok (.return_, 1) := by decide +kernel
set_option maxRecDepth 20000 in
theorem ggX9_tryUntilClosed_X3_copyFrom : GoodIn wsX9_tryUntilClosed wsX3_copyFrom := goodIn_r _ [9, 10, 11, 12, 13, 14, 15, 16, 17, 18, 19, 20, 21, 22, 23, 24, 25, 26, 27, 28, 29, 30, 31, 32, 33, 34, 35, 36, 37, 38, 39, 40, 41, 42, 43, 44, 45, 46, 47, 48, 49, 50, 51, 135, 136, 137, 138, 147, 148, 149, 150, 151, 152, 153, 154, 155, 139, 140, 141, 142, 143, 144, 145, 146] (by decide +kernel) (by decide +kernel)
set_option maxRecDepth 20000 in
theorem gX9_tryUntilClosed_X3_copyFrom : GoodIn wsX9_tryUntilClosed (wsV RX9 75 RX3 yX3_copyFrom wsX3_copyFrom) := goodIn_app (goodIn_of _ (by decide +kernel)) ggX9_tryUntilClosed_X3_copyFrom
set_option maxRecDepth 20000 in
theorem ggX9_tryUntilClosed_X3_endOneNight : GoodIn wsX9_tryUntilClosed wsX3_endOneNight := goodIn_r _ [55, 11, 10, 12, 56, 13, 57, 58, 59, 17, 60, 61, 62, 63, 64, 19, 20, 21, 65, 66, 67, 68, 69, 70, 71, 72, 73, 74, 75, 76, 77, 78, 79, 22, 23, 80, 81, 82, 83, 84, 85, 86, 87, 88, 89, 8, 90, 91, 92, 93, 94, 95, 41, 96, 43, 49, 46, 47, 97, 98, 99, 100, 50, 51, 101, 102, 103, 104, 105, 106, 107, 108, 109, 110, 111, 112, 48, 113, 114, 115, 31, 116, 37, 34, 117, 118, 119, 120, 33, 121, 122, 123, 124, 125, 126, 127, 128, 135, 136, 137, 138, 152, 153, 154, 155, 147, 148, 149, 150, 151, 139, 140, 141, 142, 143, 144, 145, 146] (by decide +kernel) (by decide +kernel)
set_option maxRecDepth 20000 in
theorem gX9_tryUntilClosed_X3_endOneNight : GoodIn wsX9_tryUntilClosed (wsV RX9 260 RX3 yX3_endOneNight wsX3_endOneNight) := goodIn_app (goodIn_of _ (by decide +kernel)) ggX9_tryUntilClosed_X3_endOneNight
theorem dX9_tryUntilClosed_0 : decode cX9_tryUntilClosed 0 = .ok (.aload_n 0, 1) := by decide +kernel
theorem dX9_tryUntilClosed_1 : decode cX9_tryUntilClosed 1 = .ok (.getfield 23, 3) := by decide +kernel
theorem dX9_tryUntilClosed_4 : decode cX9_tryUntilClosed 4 = .ok (.aload_n 0, 1) := by decide +kernel
theorem dX9_tryUntilClosed_5 : decode cX9_tryUntilClosed 5 = .ok (.getfield 19, 3) := by decide +kernel
theorem dX9_tryUntilClosed_8 : decode cX9_tryUntilClosed 8 = .ok (.invokevirtual 75, 3) := by decide +kernel
theorem dX9_tryUntilClosed_11 : decode cX9_tryUntilClosed 11 = .ok (.iconst 0, 1) := by decide +kernel
theorem dX9_tryUntilClosed_12 : decode cX9_tryUntilClosed 12 = .ok (.istore_n 2, 1) := by decide +kernel
theorem dX9_tryUntilClosed_13 : decode cX9_tryUntilClosed 13 = .ok (.iload_n 2, 1) := by decide +kernel
theorem dX9_tryUntilClosed_14 : decode cX9_tryUntilClosed 14 = .ok (.bipush 56, 2) := by decide +kernel
theorem dX9_tryUntilClosed_16 : decode cX9_tryUntilClosed 16 = .ok (.if_icmp .ge 32, 3) := by decide +kernel
theorem dX9_tryUntilClosed_19 : decode cX9_tryUntilClosed 19 = .ok (.aload_n 0, 1) := by decide +kernel
theorem dX9_tryUntilClosed_20 : decode cX9_tryUntilClosed 20 = .ok (.getfield 23, 3) := by decide +kernel
theorem dX9_tryUntilClosed_23 : decode cX9_tryUntilClosed 23 = .ok (.getfield 107, 3) := by decide +kernel
theorem dX9_tryUntilClosed_26 : decode cX9_tryUntilClosed 26 = .ok (.getfield 188, 3) := by decide +kernel
theorem dX9_tryUntilClosed_29 : decode cX9_tryUntilClosed 29 = .ok (.iload_n 1, 1) := by decide +kernel
theorem dX9_tryUntilClosed_30 : decode cX9_tryUntilClosed 30 = .ok (.iaload, 1) := by decide +kernel
theorem dX9_tryUntilClosed_31 : decode cX9_tryUntilClosed 31 = .ok (.ifCond .ne 17, 3) := by decide +kernel
theorem dX9_tryUntilClosed_34 : decode cX9_tryUntilClosed 34 = .ok (.aload_n 0, 1) := by decide +kernel
theorem dX9_tryUntilClosed_35 : decode cX9_tryUntilClosed 35 = .ok (.getfield 23, 3) := by decide +kernel
theorem dX9_tryUntilClosed_38 : decode cX9_tryUntilClosed 38 = .ok (.invokevirtual 260, 3) := by decide +kernel
theorem dX9_tryUntilClosed_41 : decode cX9_tryUntilClosed 41 = .ok (.pop, 1) := by decide +kernel
theorem dX9_tryUntilClosed_42 : decode cX9_tryUntilClosed 42 = .ok (.iinc 2 1, 3) := by decide +kernel
theorem dX9_tryUntilClosed_45 : decode cX9_tryUntilClosed 45 = .ok (.goto (-32), 3) := by decide +kernel
theorem dX9_tryUntilClosed_48 : decode cX9_tryUntilClosed 48 = .ok (.iload_n 2, 1) := by decide +kernel
theorem dX9_tryUntilClosed_49 : decode cX9_tryUntilClosed 49 = .ok (.ireturn, 1) := by decide +kernel
