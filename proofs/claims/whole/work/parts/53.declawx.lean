set_option maxRecDepth 20000 in
theorem ggL_append_X9_append : GoodIn wsL_append wsX9_append := goodIn_ca (goodIn_r _ [6, 7, 8, 9, 10, 11, 12, 13, 14, 15, 16, 17, 18, 19, 20, 21, 22, 23, 24, 25, 26, 27, 28, 29, 30, 31, 32, 33, 34, 35, 36, 37] (by decide +kernel) (by decide +kernel)) (goodIn_sub (fun _ h => List.mem_cons_of_mem _ (List.mem_append_right _ h)) (by decide +kernel))
set_option maxRecDepth 20000 in
theorem gL_append_X9_append : GoodIn wsL_append (wsV RL 7 RX9 yX9_append wsX9_append) := goodIn_app (goodIn_of _ (by decide +kernel)) ggL_append_X9_append
theorem dL_append_0 : decode cL_append 0 = .ok (.aload 6, 2) := by decide +kernel
theorem dL_append_2 : decode cL_append 2 = .ok (.iconst 0, 1) := by decide +kernel
theorem dL_append_3 : decode cL_append 3 = .ok (.aload_n 0, 1) := by decide +kernel
theorem dL_append_4 : decode cL_append 4 = .ok (.iload_n 1, 1) := by decide +kernel
theorem dL_append_5 : decode cL_append 5 = .ok (.iload_n 2, 1) := by decide +kernel
theorem dL_append_6 : decode cL_append 6 = .ok (.iload_n 3, 1) := by decide +kernel
theorem dL_append_7 : decode cL_append 7 = .ok (.iload 4, 2) := by decide +kernel
theorem dL_append_9 : decode cL_append 9 = .ok (.iload 5, 2) := by decide +kernel
theorem dL_append_11 : decode cL_append 11 = .ok (.invokevirtual 7, 3) := by decide +kernel
theorem dL_append_14 : decode cL_append 14 = .ok (.i2l, 1) := by decide +kernel
theorem dL_append_15 : decode cL_append 15 = .ok (.lastore, 1) := by decide +kernel
theorem dL_append_16 : decode cL_append 16 = .ok (.goto 7, 3) := by decide +kernel
theorem dL_append_19 : decode cL_append 19 = .ok (.astore 7, 2) := by decide +kernel
theorem dL_append_21 : decode cL_append 21 = .ok (.iconst 1, 1) := by decide +kernel
theorem dL_append_22 : decode cL_append 22 = .ok (.ireturn, 1) := by decide +kernel
theorem dL_append_23 : decode cL_append 23 = .ok (.iconst 0, 1) := by decide +kernel
theorem dL_append_24 : decode cL_append 24 = .ok (.ireturn, 1) := by decide +kernel
set_option maxRecDepth 20000 in
theorem ggL_shorten_X9_shorten : GoodIn wsL_shorten wsX9_shorten := goodIn_ca (goodIn_r _ [6, 7, 8, 9, 10, 11, 12, 13, 14, 15, 16, 17, 18, 19, 20, 21, 22, 23, 24, 25, 26] (by decide +kernel) (by decide +kernel)) (goodIn_sub (fun _ h => List.mem_cons_of_mem _ (List.mem_append_right _ h)) (by decide +kernel))
set_option maxRecDepth 20000 in
theorem gL_shorten_X9_shorten : GoodIn wsL_shorten (wsV RL 15 RX9 yX9_shorten wsX9_shorten) := goodIn_app (goodIn_of _ (by decide +kernel)) ggL_shorten_X9_shorten
theorem dL_shorten_0 : decode cL_shorten 0 = .ok (.aload_n 2, 1) := by decide +kernel
theorem dL_shorten_1 : decode cL_shorten 1 = .ok (.iconst 0, 1) := by decide +kernel
theorem dL_shorten_2 : decode cL_shorten 2 = .ok (.aload_n 0, 1) := by decide +kernel
theorem dL_shorten_3 : decode cL_shorten 3 = .ok (.iload_n 1, 1) := by decide +kernel
theorem dL_shorten_4 : decode cL_shorten 4 = .ok (.invokevirtual 15, 3) := by decide +kernel
theorem dL_shorten_7 : decode cL_shorten 7 = .ok (.i2l, 1) := by decide +kernel
theorem dL_shorten_8 : decode cL_shorten 8 = .ok (.lastore, 1) := by decide +kernel
theorem dL_shorten_9 : decode cL_shorten 9 = .ok (.goto 6, 3) := by decide +kernel
theorem dL_shorten_12 : decode cL_shorten 12 = .ok (.astore_n 3, 1) := by decide +kernel
theorem dL_shorten_13 : decode cL_shorten 13 = .ok (.iconst 1, 1) := by decide +kernel
theorem dL_shorten_14 : decode cL_shorten 14 = .ok (.ireturn, 1) := by decide +kernel
theorem dL_shorten_15 : decode cL_shorten 15 = .ok (.iconst 0, 1) := by decide +kernel
theorem dL_shorten_16 : decode cL_shorten 16 = .ok (.ireturn, 1) := by decide +kernel
set_option maxRecDepth 20000 in
theorem ggL_load_X9_load : GoodIn wsL_load wsX9_load := goodIn_ca (goodIn_r _ [6, 7, 8, 9, 10, 11, 12, 13, 14, 15, 16, 17, 18, 19, 20, 21, 22, 23, 24, 25, 26, 27, 28, 29, 30, 31, 32, 33, 34, 35, 36, 37, 38, 39, 40, 41, 42, 43, 44, 45, 46, 47, 48, 49, 50, 51, 52, 53, 54, 55, 56, 57, 58, 59, 60, 61, 62, 63, 64, 65, 66, 67, 68, 69, 70, 71, 72, 73, 74, 75, 76, 77, 78, 79, 80, 81, 82, 83, 84, 85, 86, 87, 88, 89, 90, 91, 92, 93, 94, 95, 96, 97, 98, 99, 100, 101, 102, 103, 104, 105, 106, 107, 108, 109, 110, 111, 112, 113, 114, 115, 116, 117, 118, 119, 120, 121, 122, 123, 124, 125, 126, 127, 128, 129, 130, 131, 132, 133, 134, 135, 136, 137, 138, 139, 140, 141, 142, 143, 144, 145, 146, 147, 148, 149, 150, 151, 152, 153, 154, 155, 156, 157, 158, 159, 160, 161, 162, 163, 164, 165, 166, 167, 168, 169, 170, 171, 172, 173, 174, 175, 176, 177, 178, 179, 180, 181, 182, 183, 184, 185, 186, 187, 188, 189, 190, 191, 192, 193, 194, 195, 196, 197, 198, 199, 200, 201, 202, 203, 204, 205, 206, 207, 208, 209, 210, 211, 212, 213, 214, 215, 216, 217, 218, 219, 220, 221, 222, 223, 224, 225, 226, 227, 228, 229, 230, 231, 232, 233, 234, 235, 236, 237, 238, 239, 240, 241, 242, 243, 244, 245, 246, 247, 248, 249, 250, 251, 252, 253, 254, 255, 256, 257, 258, 259, 260, 261, 262, 263, 264, 265, 266, 267, 268, 269, 270, 271, 272, 273, 274, 275, 276, 277, 278, 279, 280, 281, 282, 283, 284, 285, 286, 287, 288, 289, 290, 291] (by decide +kernel) (by decide +kernel)) (goodIn_sub (fun _ h => List.mem_cons_of_mem _ (List.mem_append_right _ h)) (by decide +kernel))
set_option maxRecDepth 20000 in
theorem gL_load_X9_load : GoodIn wsL_load (wsV RL 21 RX9 yX9_load wsX9_load) := goodIn_app (goodIn_of _ (by decide +kernel)) ggL_load_X9_load
theorem dL_load_0 : decode cL_load 0 = .ok (.aload_n 1, 1) := by decide +kernel
theorem dL_load_1 : decode cL_load 1 = .ok (.iconst 0, 1) := by decide +kernel
theorem dL_load_2 : decode cL_load 2 = .ok (.aload_n 0, 1) := by decide +kernel
theorem dL_load_3 : decode cL_load 3 = .ok (.invokevirtual 21, 3) := by decide +kernel
theorem dL_load_6 : decode cL_load 6 = .ok (.i2l, 1) := by decide +kernel
theorem dL_load_7 : decode cL_load 7 = .ok (.lastore, 1) := by decide +kernel
theorem dL_load_8 : decode cL_load 8 = .ok (.goto 6, 3) := by decide +kernel
theorem dL_load_11 : decode cL_load 11 = .ok (.astore_n 2, 1) := by decide +kernel
theorem dL_load_12 : decode cL_load 12 = .ok (.iconst 1, 1) := by decide +kernel
theorem dL_load_13 : decode cL_load 13 = .ok (.ireturn, 1) := by decide +kernel
theorem dL_load_14 : decode cL_load 14 = .ok (.iconst 0, 1) := by decide +kernel
theorem dL_load_15 : decode cL_load 15 = .ok (.ireturn, 1) := by decide +kernel
set_option maxRecDepth 20000 in
theorem ggL_errorOffset_X9_errorOffset : GoodIn wsL_errorOffset wsX9_errorOffset := goodIn_ca (goodIn_r _ [6, 7, 8, 9, 10, 11, 12, 13, 14, 15, 16, 17, 18, 19, 20, 21] (by decide +kernel) (by decide +kernel)) (goodIn_sub (fun _ h => List.mem_cons_of_mem _ (List.mem_append_right _ h)) (by decide +kernel))
set_option maxRecDepth 20000 in
theorem gL_errorOffset_X9_errorOffset : GoodIn wsL_errorOffset (wsV RL 25 RX9 yX9_errorOffset wsX9_errorOffset) := goodIn_app (goodIn_of _ (by decide +kernel)) ggL_errorOffset_X9_errorOffset
theorem dL_errorOffset_0 : decode cL_errorOffset 0 = .ok (.aload_n 1, 1) := by decide +kernel
theorem dL_errorOffset_1 : decode cL_errorOffset 1 = .ok (.iconst 0, 1) := by decide +kernel
theorem dL_errorOffset_2 : decode cL_errorOffset 2 = .ok (.aload_n 0, 1) := by decide +kernel
theorem dL_errorOffset_3 : decode cL_errorOffset 3 = .ok (.invokevirtual 25, 3) := by decide +kernel
theorem dL_errorOffset_6 : decode cL_errorOffset 6 = .ok (.i2l, 1) := by decide +kernel
theorem dL_errorOffset_7 : decode cL_errorOffset 7 = .ok (.lastore, 1) := by decide +kernel
theorem dL_errorOffset_8 : decode cL_errorOffset 8 = .ok (.goto 6, 3) := by decide +kernel
theorem dL_errorOffset_11 : decode cL_errorOffset 11 = .ok (.astore_n 2, 1) := by decide +kernel
theorem dL_errorOffset_12 : decode cL_errorOffset 12 = .ok (.iconst 1, 1) := by decide +kernel
theorem dL_errorOffset_13 : decode cL_errorOffset 13 = .ok (.ireturn, 1) := by decide +kernel
theorem dL_errorOffset_14 : decode cL_errorOffset 14 = .ok (.iconst 0, 1) := by decide +kernel
theorem dL_errorOffset_15 : decode cL_errorOffset 15 = .ok (.ireturn, 1) := by decide +kernel
set_option maxRecDepth 20000 in
theorem ggL_lightOf_X9_lightOf : GoodIn wsL_lightOf wsX9_lightOf := goodIn_ca (goodIn_r _ [6, 7, 8, 5, 9, 10, 11, 12, 13, 14, 15, 16, 17, 18, 19, 20, 21, 22] (by decide +kernel) (by decide +kernel)) (goodIn_sub (fun _ h => List.mem_cons_of_mem _ (List.mem_append_right _ h)) (by decide +kernel))
set_option maxRecDepth 20000 in
theorem gL_lightOf_X9_lightOf : GoodIn wsL_lightOf (wsV RL 30 RX9 yX9_lightOf wsX9_lightOf) := goodIn_app (goodIn_of _ (by decide +kernel)) ggL_lightOf_X9_lightOf
theorem dL_lightOf_0 : decode cL_lightOf 0 = .ok (.aload_n 2, 1) := by decide +kernel
theorem dL_lightOf_1 : decode cL_lightOf 1 = .ok (.iconst 0, 1) := by decide +kernel
theorem dL_lightOf_2 : decode cL_lightOf 2 = .ok (.aload_n 0, 1) := by decide +kernel
theorem dL_lightOf_3 : decode cL_lightOf 3 = .ok (.iload_n 1, 1) := by decide +kernel
theorem dL_lightOf_4 : decode cL_lightOf 4 = .ok (.invokevirtual 30, 3) := by decide +kernel
theorem dL_lightOf_7 : decode cL_lightOf 7 = .ok (.i2l, 1) := by decide +kernel
theorem dL_lightOf_8 : decode cL_lightOf 8 = .ok (.lastore, 1) := by decide +kernel
theorem dL_lightOf_9 : decode cL_lightOf 9 = .ok (.goto 6, 3) := by decide +kernel
theorem dL_lightOf_12 : decode cL_lightOf 12 = .ok (.astore_n 3, 1) := by decide +kernel
theorem dL_lightOf_13 : decode cL_lightOf 13 = .ok (.iconst 1, 1) := by decide +kernel
theorem dL_lightOf_14 : decode cL_lightOf 14 = .ok (.ireturn, 1) := by decide +kernel
theorem dL_lightOf_15 : decode cL_lightOf 15 = .ok (.iconst 0, 1) := by decide +kernel
theorem dL_lightOf_16 : decode cL_lightOf 16 = .ok (.ireturn, 1) := by decide +kernel
set_option maxRecDepth 20000 in
theorem ggL_tideOf_X9_tideOf : GoodIn wsL_tideOf wsX9_tideOf := goodIn_ca (goodIn_r _ [6, 7, 8, 5, 9, 10, 11, 12, 13, 14, 15, 16, 17, 18, 19, 20, 21, 22] (by decide +kernel) (by decide +kernel)) (goodIn_sub (fun _ h => List.mem_cons_of_mem _ (List.mem_append_right _ h)) (by decide +kernel))
set_option maxRecDepth 20000 in
theorem gL_tideOf_X9_tideOf : GoodIn wsL_tideOf (wsV RL 33 RX9 yX9_tideOf wsX9_tideOf) := goodIn_app (goodIn_of _ (by decide +kernel)) ggL_tideOf_X9_tideOf
theorem dL_tideOf_0 : decode cL_tideOf 0 = .ok (.aload_n 2, 1) := by decide +kernel
theorem dL_tideOf_1 : decode cL_tideOf 1 = .ok (.iconst 0, 1) := by decide +kernel
theorem dL_tideOf_2 : decode cL_tideOf 2 = .ok (.aload_n 0, 1) := by decide +kernel
theorem dL_tideOf_3 : decode cL_tideOf 3 = .ok (.iload_n 1, 1) := by decide +kernel
theorem dL_tideOf_4 : decode cL_tideOf 4 = .ok (.invokevirtual 33, 3) := by decide +kernel
theorem dL_tideOf_7 : decode cL_tideOf 7 = .ok (.i2l, 1) := by decide +kernel
theorem dL_tideOf_8 : decode cL_tideOf 8 = .ok (.lastore, 1) := by decide +kernel
theorem dL_tideOf_9 : decode cL_tideOf 9 = .ok (.goto 6, 3) := by decide +kernel
theorem dL_tideOf_12 : decode cL_tideOf 12 = .ok (.astore_n 3, 1) := by decide +kernel
theorem dL_tideOf_13 : decode cL_tideOf 13 = .ok (.iconst 1, 1) := by decide +kernel
theorem dL_tideOf_14 : decode cL_tideOf 14 = .ok (.ireturn, 1) := by decide +kernel
theorem dL_tideOf_15 : decode cL_tideOf 15 = .ok (.iconst 0, 1) := by decide +kernel
theorem dL_tideOf_16 : decode cL_tideOf 16 = .ok (.ireturn, 1) := by decide +kernel
set_option maxRecDepth 20000 in
theorem ggL_cloudOf_X9_cloudOf : GoodIn wsL_cloudOf wsX9_cloudOf := goodIn_ca (goodIn_r _ [6, 7, 8, 9, 10, 5, 11, 12, 13, 14, 15, 16, 17, 18, 19, 20, 21, 22, 23, 24, 25, 26, 27, 28, 29, 30, 31, 32, 33, 34, 35, 36, 37, 38] (by decide +kernel) (by decide +kernel)) (goodIn_sub (fun _ h => List.mem_cons_of_mem _ (List.mem_append_right _ h)) (by decide +kernel))
set_option maxRecDepth 20000 in
theorem gL_cloudOf_X9_cloudOf : GoodIn wsL_cloudOf (wsV RL 36 RX9 yX9_cloudOf wsX9_cloudOf) := goodIn_app (goodIn_of _ (by decide +kernel)) ggL_cloudOf_X9_cloudOf
theorem dL_cloudOf_0 : decode cL_cloudOf 0 = .ok (.aload_n 2, 1) := by decide +kernel
theorem dL_cloudOf_1 : decode cL_cloudOf 1 = .ok (.iconst 0, 1) := by decide +kernel
theorem dL_cloudOf_2 : decode cL_cloudOf 2 = .ok (.aload_n 0, 1) := by decide +kernel
theorem dL_cloudOf_3 : decode cL_cloudOf 3 = .ok (.iload_n 1, 1) := by decide +kernel
theorem dL_cloudOf_4 : decode cL_cloudOf 4 = .ok (.invokevirtual 36, 3) := by decide +kernel
theorem dL_cloudOf_7 : decode cL_cloudOf 7 = .ok (.i2l, 1) := by decide +kernel
theorem dL_cloudOf_8 : decode cL_cloudOf 8 = .ok (.lastore, 1) := by decide +kernel
theorem dL_cloudOf_9 : decode cL_cloudOf 9 = .ok (.goto 6, 3) := by decide +kernel
theorem dL_cloudOf_12 : decode cL_cloudOf 12 = .ok (.astore_n 3, 1) := by decide +kernel
theorem dL_cloudOf_13 : decode cL_cloudOf 13 = .ok (.iconst 1, 1) := by decide +kernel
theorem dL_cloudOf_14 : decode cL_cloudOf 14 = .ok (.ireturn, 1) := by decide +kernel
theorem dL_cloudOf_15 : decode cL_cloudOf 15 = .ok (.iconst 0, 1) := by decide +kernel
theorem dL_cloudOf_16 : decode cL_cloudOf 16 = .ok (.ireturn, 1) := by decide +kernel
set_option maxRecDepth 20000 in
theorem ggL_visibleLight_X9_visibleLight : GoodIn wsL_visibleLight wsX9_visibleLight := goodIn_ca (goodIn_r _ [6, 7, 8, 9, 10, 5, 11, 12, 13, 14, 15, 16, 17, 18, 19, 20, 21, 22, 23, 24, 25, 26, 27, 28, 29, 30, 31, 32, 33, 34, 35, 36, 37, 38, 39, 40, 41, 42, 43, 44, 45, 46, 47, 48, 49] (by decide +kernel) (by decide +kernel)) (goodIn_sub (fun _ h => List.mem_cons_of_mem _ (List.mem_append_right _ h)) (by decide +kernel))
set_option maxRecDepth 20000 in
theorem gL_visibleLight_X9_visibleLight : GoodIn wsL_visibleLight (wsV RL 39 RX9 yX9_visibleLight wsX9_visibleLight) := goodIn_app (goodIn_of _ (by decide +kernel)) ggL_visibleLight_X9_visibleLight
theorem dL_visibleLight_0 : decode cL_visibleLight 0 = .ok (.aload_n 2, 1) := by decide +kernel
theorem dL_visibleLight_1 : decode cL_visibleLight 1 = .ok (.iconst 0, 1) := by decide +kernel
theorem dL_visibleLight_2 : decode cL_visibleLight 2 = .ok (.aload_n 0, 1) := by decide +kernel
theorem dL_visibleLight_3 : decode cL_visibleLight 3 = .ok (.iload_n 1, 1) := by decide +kernel
theorem dL_visibleLight_4 : decode cL_visibleLight 4 = .ok (.invokevirtual 39, 3) := by decide +kernel
theorem dL_visibleLight_7 : decode cL_visibleLight 7 = .ok (.i2l, 1) := by decide +kernel
theorem dL_visibleLight_8 : decode cL_visibleLight 8 = .ok (.lastore, 1) := by decide +kernel
theorem dL_visibleLight_9 : decode cL_visibleLight 9 = .ok (.goto 6, 3) := by decide +kernel
theorem dL_visibleLight_12 : decode cL_visibleLight 12 = .ok (.astore_n 3, 1) := by decide +kernel
theorem dL_visibleLight_13 : decode cL_visibleLight 13 = .ok (.iconst 1, 1) := by decide +kernel
theorem dL_visibleLight_14 : decode cL_visibleLight 14 = .ok (.ireturn, 1) := by decide +kernel
theorem dL_visibleLight_15 : decode cL_visibleLight 15 = .ok (.iconst 0, 1) := by decide +kernel
theorem dL_visibleLight_16 : decode cL_visibleLight 16 = .ok (.ireturn, 1) := by decide +kernel
set_option maxRecDepth 20000 in
theorem ggL_isJustified_X9_isJustified : GoodIn wsL_isJustified wsX9_isJustified := goodIn_ca (goodIn_r _ [6, 7, 8, 9, 10, 5, 11, 12, 13, 14, 15, 16, 17, 18, 19, 20, 21, 22, 23, 24, 25, 26, 27, 28, 29, 30, 31, 32, 33, 34, 35, 36, 37, 38, 39, 40, 41, 42, 43, 44, 45, 46, 47, 48, 49, 50, 51, 52, 53, 54, 55, 56, 57, 58, 59, 60, 61, 62] (by decide +kernel) (by decide +kernel)) (goodIn_sub (fun _ h => List.mem_cons_of_mem _ (List.mem_append_right _ h)) (by decide +kernel))
set_option maxRecDepth 20000 in
theorem gL_isJustified_X9_isJustified : GoodIn wsL_isJustified (wsV RL 42 RX9 yX9_isJustified wsX9_isJustified) := goodIn_app (goodIn_of _ (by decide +kernel)) ggL_isJustified_X9_isJustified
theorem dL_isJustified_0 : decode cL_isJustified 0 = .ok (.aload_n 3, 1) := by decide +kernel
theorem dL_isJustified_1 : decode cL_isJustified 1 = .ok (.iconst 0, 1) := by decide +kernel
theorem dL_isJustified_2 : decode cL_isJustified 2 = .ok (.aload_n 0, 1) := by decide +kernel
theorem dL_isJustified_3 : decode cL_isJustified 3 = .ok (.iload_n 1, 1) := by decide +kernel
theorem dL_isJustified_4 : decode cL_isJustified 4 = .ok (.iload_n 2, 1) := by decide +kernel
theorem dL_isJustified_5 : decode cL_isJustified 5 = .ok (.invokevirtual 42, 3) := by decide +kernel
theorem dL_isJustified_8 : decode cL_isJustified 8 = .ok (.ifCond .eq 7, 3) := by decide +kernel
theorem dL_isJustified_11 : decode cL_isJustified 11 = .ok (.lconst 1, 1) := by decide +kernel
theorem dL_isJustified_12 : decode cL_isJustified 12 = .ok (.goto 4, 3) := by decide +kernel
theorem dL_isJustified_15 : decode cL_isJustified 15 = .ok (.lconst 0, 1) := by decide +kernel
theorem dL_isJustified_16 : decode cL_isJustified 16 = .ok (.lastore, 1) := by decide +kernel
theorem dL_isJustified_17 : decode cL_isJustified 17 = .ok (.goto 7, 3) := by decide +kernel
theorem dL_isJustified_20 : decode cL_isJustified 20 = .ok (.astore 4, 2) := by decide +kernel
theorem dL_isJustified_22 : decode cL_isJustified 22 = .ok (.iconst 1, 1) := by decide +kernel
theorem dL_isJustified_23 : decode cL_isJustified 23 = .ok (.ireturn, 1) := by decide +kernel
theorem dL_isJustified_24 : decode cL_isJustified 24 = .ok (.iconst 0, 1) := by decide +kernel
theorem dL_isJustified_25 : decode cL_isJustified 25 = .ok (.ireturn, 1) := by decide +kernel
set_option maxRecDepth 20000 in
theorem ggL_nextJustified_X9_nextJustified : GoodIn wsL_nextJustified wsX9_nextJustified := goodIn_ca (goodIn_ca (goodIn_r _ [7, 8, 9, 10, 11, 12, 13, 14, 6, 15, 16, 17, 18, 19, 20, 21, 22, 23, 24, 25, 26, 27, 28, 29, 30, 31, 32, 33, 34, 35, 36, 37, 38, 39, 40, 41, 42, 43, 44, 45, 46, 47, 48, 49, 50, 51, 52, 53, 54, 55, 56, 57, 58, 59, 60, 61, 62, 63] (by decide +kernel) (by decide +kernel)) (goodIn_sub (fun _ h => List.mem_cons_of_mem _ (List.mem_append_left _ (List.mem_append_right _ h))) (by decide +kernel))) (goodIn_sub (fun _ h => List.mem_cons_of_mem _ (List.mem_append_right _ h)) (by decide +kernel))
set_option maxRecDepth 20000 in
theorem gL_nextJustified_X9_nextJustified : GoodIn wsL_nextJustified (wsV RL 46 RX9 yX9_nextJustified wsX9_nextJustified) := goodIn_app (goodIn_of _ (by decide +kernel)) ggL_nextJustified_X9_nextJustified
theorem dL_nextJustified_0 : decode cL_nextJustified 0 = .ok (.aload_n 2, 1) := by decide +kernel
theorem dL_nextJustified_1 : decode cL_nextJustified 1 = .ok (.iconst 0, 1) := by decide +kernel
theorem dL_nextJustified_2 : decode cL_nextJustified 2 = .ok (.aload_n 0, 1) := by decide +kernel
theorem dL_nextJustified_3 : decode cL_nextJustified 3 = .ok (.iload_n 1, 1) := by decide +kernel
theorem dL_nextJustified_4 : decode cL_nextJustified 4 = .ok (.invokevirtual 46, 3) := by decide +kernel
theorem dL_nextJustified_7 : decode cL_nextJustified 7 = .ok (.i2l, 1) := by decide +kernel
theorem dL_nextJustified_8 : decode cL_nextJustified 8 = .ok (.lastore, 1) := by decide +kernel
theorem dL_nextJustified_9 : decode cL_nextJustified 9 = .ok (.goto 9, 3) := by decide +kernel
theorem dL_nextJustified_12 : decode cL_nextJustified 12 = .ok (.astore_n 3, 1) := by decide +kernel
theorem dL_nextJustified_13 : decode cL_nextJustified 13 = .ok (.iconst 1, 1) := by decide +kernel
theorem dL_nextJustified_14 : decode cL_nextJustified 14 = .ok (.ireturn, 1) := by decide +kernel
theorem dL_nextJustified_15 : decode cL_nextJustified 15 = .ok (.astore_n 3, 1) := by decide +kernel
theorem dL_nextJustified_16 : decode cL_nextJustified 16 = .ok (.iconst 2, 1) := by decide +kernel
theorem dL_nextJustified_17 : decode cL_nextJustified 17 = .ok (.ireturn, 1) := by decide +kernel
theorem dL_nextJustified_18 : decode cL_nextJustified 18 = .ok (.iconst 0, 1) := by decide +kernel
theorem dL_nextJustified_19 : decode cL_nextJustified 19 = .ok (.ireturn, 1) := by decide +kernel
set_option maxRecDepth 20000 in
theorem ggL_justifiedNights_X9_justifiedNights : GoodIn wsL_justifiedNights wsX9_justifiedNights := goodIn_ca (goodIn_r _ [6, 7, 8, 9, 10, 11, 5, 12, 13, 14, 15, 16, 17, 18, 19, 20, 21, 22, 23, 24, 25, 26, 27, 28, 29, 30, 31, 32, 33, 34, 35, 36, 37, 38, 39, 40, 41, 42, 43, 44, 45, 46, 47, 48, 49, 50, 51, 52, 53, 54, 55, 56, 57, 58, 59, 60, 61, 62, 63, 64] (by decide +kernel) (by decide +kernel)) (goodIn_sub (fun _ h => List.mem_cons_of_mem _ (List.mem_append_right _ h)) (by decide +kernel))
set_option maxRecDepth 20000 in
theorem gL_justifiedNights_X9_justifiedNights : GoodIn wsL_justifiedNights (wsV RL 49 RX9 yX9_justifiedNights wsX9_justifiedNights) := goodIn_app (goodIn_of _ (by decide +kernel)) ggL_justifiedNights_X9_justifiedNights
theorem dL_justifiedNights_0 : decode cL_justifiedNights 0 = .ok (.aload_n 2, 1) := by decide +kernel
theorem dL_justifiedNights_1 : decode cL_justifiedNights 1 = .ok (.iconst 0, 1) := by decide +kernel
theorem dL_justifiedNights_2 : decode cL_justifiedNights 2 = .ok (.aload_n 0, 1) := by decide +kernel
theorem dL_justifiedNights_3 : decode cL_justifiedNights 3 = .ok (.iload_n 1, 1) := by decide +kernel
theorem dL_justifiedNights_4 : decode cL_justifiedNights 4 = .ok (.invokevirtual 49, 3) := by decide +kernel
theorem dL_justifiedNights_7 : decode cL_justifiedNights 7 = .ok (.i2l, 1) := by decide +kernel
theorem dL_justifiedNights_8 : decode cL_justifiedNights 8 = .ok (.lastore, 1) := by decide +kernel
theorem dL_justifiedNights_9 : decode cL_justifiedNights 9 = .ok (.goto 6, 3) := by decide +kernel
theorem dL_justifiedNights_12 : decode cL_justifiedNights 12 = .ok (.astore_n 3, 1) := by decide +kernel
theorem dL_justifiedNights_13 : decode cL_justifiedNights 13 = .ok (.iconst 1, 1) := by decide +kernel
theorem dL_justifiedNights_14 : decode cL_justifiedNights 14 = .ok (.ireturn, 1) := by decide +kernel
theorem dL_justifiedNights_15 : decode cL_justifiedNights 15 = .ok (.iconst 0, 1) := by decide +kernel
theorem dL_justifiedNights_16 : decode cL_justifiedNights 16 = .ok (.ireturn, 1) := by decide +kernel
set_option maxRecDepth 20000 in
theorem ggL_personOf_X9_personOf : GoodIn wsL_personOf wsX9_personOf := goodIn_ca (goodIn_r _ [6, 7, 8, 9, 10, 11, 12, 5, 13, 14, 15, 16, 17, 18, 19, 20, 21, 22, 23, 24, 25, 26, 27, 28, 29, 30, 31, 32, 33, 34, 35, 36, 37, 38, 39] (by decide +kernel) (by decide +kernel)) (goodIn_sub (fun _ h => List.mem_cons_of_mem _ (List.mem_append_right _ h)) (by decide +kernel))
set_option maxRecDepth 20000 in
theorem gL_personOf_X9_personOf : GoodIn wsL_personOf (wsV RL 52 RX9 yX9_personOf wsX9_personOf) := goodIn_app (goodIn_of _ (by decide +kernel)) ggL_personOf_X9_personOf
theorem dL_personOf_0 : decode cL_personOf 0 = .ok (.aload_n 2, 1) := by decide +kernel
theorem dL_personOf_1 : decode cL_personOf 1 = .ok (.iconst 0, 1) := by decide +kernel
theorem dL_personOf_2 : decode cL_personOf 2 = .ok (.aload_n 0, 1) := by decide +kernel
theorem dL_personOf_3 : decode cL_personOf 3 = .ok (.iload_n 1, 1) := by decide +kernel
theorem dL_personOf_4 : decode cL_personOf 4 = .ok (.invokevirtual 52, 3) := by decide +kernel
theorem dL_personOf_7 : decode cL_personOf 7 = .ok (.i2l, 1) := by decide +kernel
theorem dL_personOf_8 : decode cL_personOf 8 = .ok (.lastore, 1) := by decide +kernel
theorem dL_personOf_9 : decode cL_personOf 9 = .ok (.goto 6, 3) := by decide +kernel
theorem dL_personOf_12 : decode cL_personOf 12 = .ok (.astore_n 3, 1) := by decide +kernel
theorem dL_personOf_13 : decode cL_personOf 13 = .ok (.iconst 1, 1) := by decide +kernel
theorem dL_personOf_14 : decode cL_personOf 14 = .ok (.ireturn, 1) := by decide +kernel
theorem dL_personOf_15 : decode cL_personOf 15 = .ok (.iconst 0, 1) := by decide +kernel
theorem dL_personOf_16 : decode cL_personOf 16 = .ok (.ireturn, 1) := by decide +kernel
set_option maxRecDepth 20000 in
theorem ggL_sortOf_X9_sortOf : GoodIn wsL_sortOf wsX9_sortOf := goodIn_ca (goodIn_r _ [6, 7, 8, 9, 10, 11, 12, 5, 13, 14, 15, 16, 17, 18, 19, 20, 21, 22, 23, 24, 25, 26, 27, 28, 29, 30, 31, 32, 33, 34, 35, 36, 37, 38, 39] (by decide +kernel) (by decide +kernel)) (goodIn_sub (fun _ h => List.mem_cons_of_mem _ (List.mem_append_right _ h)) (by decide +kernel))
set_option maxRecDepth 20000 in
theorem gL_sortOf_X9_sortOf : GoodIn wsL_sortOf (wsV RL 57 RX9 yX9_sortOf wsX9_sortOf) := goodIn_app (goodIn_of _ (by decide +kernel)) ggL_sortOf_X9_sortOf
theorem dL_sortOf_0 : decode cL_sortOf 0 = .ok (.aload_n 2, 1) := by decide +kernel
theorem dL_sortOf_1 : decode cL_sortOf 1 = .ok (.iconst 0, 1) := by decide +kernel
theorem dL_sortOf_2 : decode cL_sortOf 2 = .ok (.aload_n 0, 1) := by decide +kernel
theorem dL_sortOf_3 : decode cL_sortOf 3 = .ok (.iload_n 1, 1) := by decide +kernel
theorem dL_sortOf_4 : decode cL_sortOf 4 = .ok (.invokevirtual 57, 3) := by decide +kernel
theorem dL_sortOf_7 : decode cL_sortOf 7 = .ok (.i2l, 1) := by decide +kernel
theorem dL_sortOf_8 : decode cL_sortOf 8 = .ok (.lastore, 1) := by decide +kernel
theorem dL_sortOf_9 : decode cL_sortOf 9 = .ok (.goto 6, 3) := by decide +kernel
theorem dL_sortOf_12 : decode cL_sortOf 12 = .ok (.astore_n 3, 1) := by decide +kernel
theorem dL_sortOf_13 : decode cL_sortOf 13 = .ok (.iconst 1, 1) := by decide +kernel
theorem dL_sortOf_14 : decode cL_sortOf 14 = .ok (.ireturn, 1) := by decide +kernel
theorem dL_sortOf_15 : decode cL_sortOf 15 = .ok (.iconst 0, 1) := by decide +kernel
theorem dL_sortOf_16 : decode cL_sortOf 16 = .ok (.ireturn, 1) := by decide +kernel
set_option maxRecDepth 20000 in
theorem ggL_angerOf_X9_angerOf : GoodIn wsL_angerOf wsX9_angerOf := goodIn_ca (goodIn_r _ [6, 7, 8, 9, 10, 11, 12, 5, 13, 14, 15, 16, 17, 18, 19, 20, 21, 22, 23, 24, 25, 26, 27, 28, 29, 30, 31, 32, 33, 34, 35, 36, 37, 38, 39] (by decide +kernel) (by decide +kernel)) (goodIn_sub (fun _ h => List.mem_cons_of_mem _ (List.mem_append_right _ h)) (by decide +kernel))
set_option maxRecDepth 20000 in
theorem gL_angerOf_X9_angerOf : GoodIn wsL_angerOf (wsV RL 60 RX9 yX9_angerOf wsX9_angerOf) := goodIn_app (goodIn_of _ (by decide +kernel)) ggL_angerOf_X9_angerOf
theorem dL_angerOf_0 : decode cL_angerOf 0 = .ok (.aload_n 2, 1) := by decide +kernel
theorem dL_angerOf_1 : decode cL_angerOf 1 = .ok (.iconst 0, 1) := by decide +kernel
theorem dL_angerOf_2 : decode cL_angerOf 2 = .ok (.aload_n 0, 1) := by decide +kernel
theorem dL_angerOf_3 : decode cL_angerOf 3 = .ok (.iload_n 1, 1) := by decide +kernel
theorem dL_angerOf_4 : decode cL_angerOf 4 = .ok (.invokevirtual 60, 3) := by decide +kernel
theorem dL_angerOf_7 : decode cL_angerOf 7 = .ok (.i2l, 1) := by decide +kernel
theorem dL_angerOf_8 : decode cL_angerOf 8 = .ok (.lastore, 1) := by decide +kernel
theorem dL_angerOf_9 : decode cL_angerOf 9 = .ok (.goto 6, 3) := by decide +kernel
theorem dL_angerOf_12 : decode cL_angerOf 12 = .ok (.astore_n 3, 1) := by decide +kernel
theorem dL_angerOf_13 : decode cL_angerOf 13 = .ok (.iconst 1, 1) := by decide +kernel
theorem dL_angerOf_14 : decode cL_angerOf 14 = .ok (.ireturn, 1) := by decide +kernel
theorem dL_angerOf_15 : decode cL_angerOf 15 = .ok (.iconst 0, 1) := by decide +kernel
theorem dL_angerOf_16 : decode cL_angerOf 16 = .ok (.ireturn, 1) := by decide +kernel
set_option maxRecDepth 20000 in
theorem ggL_filedIn_X9_filedIn : GoodIn wsL_filedIn wsX9_filedIn := goodIn_ca (goodIn_r _ [6, 7, 8, 9, 10, 11, 12, 5, 13, 14, 15, 16, 17, 18, 19, 20, 21, 22, 23, 24, 25, 26, 27, 28, 29, 30, 31, 32, 33, 34, 35, 36, 37, 38, 39] (by decide +kernel) (by decide +kernel)) (goodIn_sub (fun _ h => List.mem_cons_of_mem _ (List.mem_append_right _ h)) (by decide +kernel))
set_option maxRecDepth 20000 in
theorem gL_filedIn_X9_filedIn : GoodIn wsL_filedIn (wsV RL 63 RX9 yX9_filedIn wsX9_filedIn) := goodIn_app (goodIn_of _ (by decide +kernel)) ggL_filedIn_X9_filedIn
theorem dL_filedIn_0 : decode cL_filedIn 0 = .ok (.aload_n 2, 1) := by decide +kernel
theorem dL_filedIn_1 : decode cL_filedIn 1 = .ok (.iconst 0, 1) := by decide +kernel
theorem dL_filedIn_2 : decode cL_filedIn 2 = .ok (.aload_n 0, 1) := by decide +kernel
theorem dL_filedIn_3 : decode cL_filedIn 3 = .ok (.iload_n 1, 1) := by decide +kernel
theorem dL_filedIn_4 : decode cL_filedIn 4 = .ok (.invokevirtual 63, 3) := by decide +kernel
theorem dL_filedIn_7 : decode cL_filedIn 7 = .ok (.i2l, 1) := by decide +kernel
theorem dL_filedIn_8 : decode cL_filedIn 8 = .ok (.lastore, 1) := by decide +kernel
theorem dL_filedIn_9 : decode cL_filedIn 9 = .ok (.goto 6, 3) := by decide +kernel
theorem dL_filedIn_12 : decode cL_filedIn 12 = .ok (.astore_n 3, 1) := by decide +kernel
theorem dL_filedIn_13 : decode cL_filedIn 13 = .ok (.iconst 1, 1) := by decide +kernel
theorem dL_filedIn_14 : decode cL_filedIn 14 = .ok (.ireturn, 1) := by decide +kernel
theorem dL_filedIn_15 : decode cL_filedIn 15 = .ok (.iconst 0, 1) := by decide +kernel
theorem dL_filedIn_16 : decode cL_filedIn 16 = .ok (.ireturn, 1) := by decide +kernel
set_option maxRecDepth 20000 in
theorem ggL_isWaiting_X9_isWaiting : GoodIn wsL_isWaiting wsX9_isWaiting := goodIn_ca (goodIn_r _ [6, 7, 8, 9, 10, 11, 12, 5, 13, 14, 15, 16, 17, 18, 19, 20, 21, 22, 23, 24, 25, 26, 27, 28, 29, 30, 31, 32, 33, 34, 35, 36, 37, 38, 39] (by decide +kernel) (by decide +kernel)) (goodIn_sub (fun _ h => List.mem_cons_of_mem _ (List.mem_append_right _ h)) (by decide +kernel))
set_option maxRecDepth 20000 in
theorem gL_isWaiting_X9_isWaiting : GoodIn wsL_isWaiting (wsV RL 66 RX9 yX9_isWaiting wsX9_isWaiting) := goodIn_app (goodIn_of _ (by decide +kernel)) ggL_isWaiting_X9_isWaiting
theorem dL_isWaiting_0 : decode cL_isWaiting 0 = .ok (.aload_n 2, 1) := by decide +kernel
theorem dL_isWaiting_1 : decode cL_isWaiting 1 = .ok (.iconst 0, 1) := by decide +kernel
theorem dL_isWaiting_2 : decode cL_isWaiting 2 = .ok (.aload_n 0, 1) := by decide +kernel
theorem dL_isWaiting_3 : decode cL_isWaiting 3 = .ok (.iload_n 1, 1) := by decide +kernel
theorem dL_isWaiting_4 : decode cL_isWaiting 4 = .ok (.invokevirtual 66, 3) := by decide +kernel
theorem dL_isWaiting_7 : decode cL_isWaiting 7 = .ok (.ifCond .eq 7, 3) := by decide +kernel
theorem dL_isWaiting_10 : decode cL_isWaiting 10 = .ok (.lconst 1, 1) := by decide +kernel
theorem dL_isWaiting_11 : decode cL_isWaiting 11 = .ok (.goto 4, 3) := by decide +kernel
theorem dL_isWaiting_14 : decode cL_isWaiting 14 = .ok (.lconst 0, 1) := by decide +kernel
theorem dL_isWaiting_15 : decode cL_isWaiting 15 = .ok (.lastore, 1) := by decide +kernel
theorem dL_isWaiting_16 : decode cL_isWaiting 16 = .ok (.goto 6, 3) := by decide +kernel
theorem dL_isWaiting_19 : decode cL_isWaiting 19 = .ok (.astore_n 3, 1) := by decide +kernel
theorem dL_isWaiting_20 : decode cL_isWaiting 20 = .ok (.iconst 1, 1) := by decide +kernel
theorem dL_isWaiting_21 : decode cL_isWaiting 21 = .ok (.ireturn, 1) := by decide +kernel
theorem dL_isWaiting_22 : decode cL_isWaiting 22 = .ok (.iconst 0, 1) := by decide +kernel
theorem dL_isWaiting_23 : decode cL_isWaiting 23 = .ok (.ireturn, 1) := by decide +kernel
set_option maxRecDepth 20000 in
theorem ggL_isAnswered_X9_isAnswered : GoodIn wsL_isAnswered wsX9_isAnswered := goodIn_ca (goodIn_r _ [6, 7, 8, 9, 10, 11, 12, 5, 13, 14, 15, 16, 17, 18, 19, 20, 21, 22, 23, 24, 25, 26, 27, 28, 29, 30, 31, 32, 33, 34, 35, 36, 37, 38, 39] (by decide +kernel) (by decide +kernel)) (goodIn_sub (fun _ h => List.mem_cons_of_mem _ (List.mem_append_right _ h)) (by decide +kernel))
set_option maxRecDepth 20000 in
theorem gL_isAnswered_X9_isAnswered : GoodIn wsL_isAnswered (wsV RL 70 RX9 yX9_isAnswered wsX9_isAnswered) := goodIn_app (goodIn_of _ (by decide +kernel)) ggL_isAnswered_X9_isAnswered
theorem dL_isAnswered_0 : decode cL_isAnswered 0 = .ok (.aload_n 2, 1) := by decide +kernel
theorem dL_isAnswered_1 : decode cL_isAnswered 1 = .ok (.iconst 0, 1) := by decide +kernel
theorem dL_isAnswered_2 : decode cL_isAnswered 2 = .ok (.aload_n 0, 1) := by decide +kernel
theorem dL_isAnswered_3 : decode cL_isAnswered 3 = .ok (.iload_n 1, 1) := by decide +kernel
theorem dL_isAnswered_4 : decode cL_isAnswered 4 = .ok (.invokevirtual 70, 3) := by decide +kernel
theorem dL_isAnswered_7 : decode cL_isAnswered 7 = .ok (.ifCond .eq 7, 3) := by decide +kernel
theorem dL_isAnswered_10 : decode cL_isAnswered 10 = .ok (.lconst 1, 1) := by decide +kernel
theorem dL_isAnswered_11 : decode cL_isAnswered 11 = .ok (.goto 4, 3) := by decide +kernel
theorem dL_isAnswered_14 : decode cL_isAnswered 14 = .ok (.lconst 0, 1) := by decide +kernel
theorem dL_isAnswered_15 : decode cL_isAnswered 15 = .ok (.lastore, 1) := by decide +kernel
theorem dL_isAnswered_16 : decode cL_isAnswered 16 = .ok (.goto 6, 3) := by decide +kernel
theorem dL_isAnswered_19 : decode cL_isAnswered 19 = .ok (.astore_n 3, 1) := by decide +kernel
theorem dL_isAnswered_20 : decode cL_isAnswered 20 = .ok (.iconst 1, 1) := by decide +kernel
theorem dL_isAnswered_21 : decode cL_isAnswered 21 = .ok (.ireturn, 1) := by decide +kernel
theorem dL_isAnswered_22 : decode cL_isAnswered 22 = .ok (.iconst 0, 1) := by decide +kernel
theorem dL_isAnswered_23 : decode cL_isAnswered 23 = .ok (.ireturn, 1) := by decide +kernel
set_option maxRecDepth 20000 in
theorem ggL_isDismissed_X9_isDismissed : GoodIn wsL_isDismissed wsX9_isDismissed := goodIn_ca (goodIn_r _ [6, 7, 8, 9, 10, 11, 12, 5, 13, 14, 15, 16, 17, 18, 19, 20, 21, 22, 23, 24, 25, 26, 27, 28, 29, 30, 31, 32, 33, 34, 35, 36, 37, 38, 39] (by decide +kernel) (by decide +kernel)) (goodIn_sub (fun _ h => List.mem_cons_of_mem _ (List.mem_append_right _ h)) (by decide +kernel))
set_option maxRecDepth 20000 in
theorem gL_isDismissed_X9_isDismissed : GoodIn wsL_isDismissed (wsV RL 73 RX9 yX9_isDismissed wsX9_isDismissed) := goodIn_app (goodIn_of _ (by decide +kernel)) ggL_isDismissed_X9_isDismissed
theorem dL_isDismissed_0 : decode cL_isDismissed 0 = .ok (.aload_n 2, 1) := by decide +kernel
theorem dL_isDismissed_1 : decode cL_isDismissed 1 = .ok (.iconst 0, 1) := by decide +kernel
theorem dL_isDismissed_2 : decode cL_isDismissed 2 = .ok (.aload_n 0, 1) := by decide +kernel
theorem dL_isDismissed_3 : decode cL_isDismissed 3 = .ok (.iload_n 1, 1) := by decide +kernel
theorem dL_isDismissed_4 : decode cL_isDismissed 4 = .ok (.invokevirtual 73, 3) := by decide +kernel
theorem dL_isDismissed_7 : decode cL_isDismissed 7 = .ok (.ifCond .eq 7, 3) := by decide +kernel
theorem dL_isDismissed_10 : decode cL_isDismissed 10 = .ok (.lconst 1, 1) := by decide +kernel
theorem dL_isDismissed_11 : decode cL_isDismissed 11 = .ok (.goto 4, 3) := by decide +kernel
theorem dL_isDismissed_14 : decode cL_isDismissed 14 = .ok (.lconst 0, 1) := by decide +kernel
theorem dL_isDismissed_15 : decode cL_isDismissed 15 = .ok (.lastore, 1) := by decide +kernel
theorem dL_isDismissed_16 : decode cL_isDismissed 16 = .ok (.goto 6, 3) := by decide +kernel
theorem dL_isDismissed_19 : decode cL_isDismissed 19 = .ok (.astore_n 3, 1) := by decide +kernel
theorem dL_isDismissed_20 : decode cL_isDismissed 20 = .ok (.iconst 1, 1) := by decide +kernel
theorem dL_isDismissed_21 : decode cL_isDismissed 21 = .ok (.ireturn, 1) := by decide +kernel
theorem dL_isDismissed_22 : decode cL_isDismissed 22 = .ok (.iconst 0, 1) := by decide +kernel
theorem dL_isDismissed_23 : decode cL_isDismissed 23 = .ok (.ireturn, 1) := by decide +kernel
set_option maxRecDepth 20000 in
theorem ggL_isGivenUp_X9_isGivenUp : GoodIn wsL_isGivenUp wsX9_isGivenUp := goodIn_ca (goodIn_r _ [6, 7, 8, 9, 10, 11, 12, 5, 13, 14, 15, 16, 17, 18, 19, 20, 21, 22, 23, 24, 25, 26, 27, 28, 29, 30, 31, 32, 33, 34, 35, 36, 37, 38, 39] (by decide +kernel) (by decide +kernel)) (goodIn_sub (fun _ h => List.mem_cons_of_mem _ (List.mem_append_right _ h)) (by decide +kernel))
set_option maxRecDepth 20000 in
theorem gL_isGivenUp_X9_isGivenUp : GoodIn wsL_isGivenUp (wsV RL 76 RX9 yX9_isGivenUp wsX9_isGivenUp) := goodIn_app (goodIn_of _ (by decide +kernel)) ggL_isGivenUp_X9_isGivenUp
theorem dL_isGivenUp_0 : decode cL_isGivenUp 0 = .ok (.aload_n 2, 1) := by decide +kernel
theorem dL_isGivenUp_1 : decode cL_isGivenUp 1 = .ok (.iconst 0, 1) := by decide +kernel
theorem dL_isGivenUp_2 : decode cL_isGivenUp 2 = .ok (.aload_n 0, 1) := by decide +kernel
theorem dL_isGivenUp_3 : decode cL_isGivenUp 3 = .ok (.iload_n 1, 1) := by decide +kernel
theorem dL_isGivenUp_4 : decode cL_isGivenUp 4 = .ok (.invokevirtual 76, 3) := by decide +kernel
theorem dL_isGivenUp_7 : decode cL_isGivenUp 7 = .ok (.ifCond .eq 7, 3) := by decide +kernel
theorem dL_isGivenUp_10 : decode cL_isGivenUp 10 = .ok (.lconst 1, 1) := by decide +kernel
theorem dL_isGivenUp_11 : decode cL_isGivenUp 11 = .ok (.goto 4, 3) := by decide +kernel
theorem dL_isGivenUp_14 : decode cL_isGivenUp 14 = .ok (.lconst 0, 1) := by decide +kernel
theorem dL_isGivenUp_15 : decode cL_isGivenUp 15 = .ok (.lastore, 1) := by decide +kernel
theorem dL_isGivenUp_16 : decode cL_isGivenUp 16 = .ok (.goto 6, 3) := by decide +kernel
theorem dL_isGivenUp_19 : decode cL_isGivenUp 19 = .ok (.astore_n 3, 1) := by decide +kernel
theorem dL_isGivenUp_20 : decode cL_isGivenUp 20 = .ok (.iconst 1, 1) := by decide +kernel
theorem dL_isGivenUp_21 : decode cL_isGivenUp 21 = .ok (.ireturn, 1) := by decide +kernel
theorem dL_isGivenUp_22 : decode cL_isGivenUp 22 = .ok (.iconst 0, 1) := by decide +kernel
theorem dL_isGivenUp_23 : decode cL_isGivenUp 23 = .ok (.ireturn, 1) := by decide +kernel
set_option maxRecDepth 20000 in
theorem ggL_closedIn_X9_closedIn : GoodIn wsL_closedIn wsX9_closedIn := goodIn_ca (goodIn_ca (goodIn_r _ [7, 8, 9, 10, 11, 12, 13, 14, 15, 16, 6, 17, 18, 19, 20, 21, 22, 23, 24, 25, 26, 27, 28, 29, 30, 31, 32, 33, 34, 35, 36, 37, 38, 39, 40, 41, 42, 43] (by decide +kernel) (by decide +kernel)) (goodIn_sub (fun _ h => List.mem_cons_of_mem _ (List.mem_append_left _ (List.mem_append_right _ h))) (by decide +kernel))) (goodIn_sub (fun _ h => List.mem_cons_of_mem _ (List.mem_append_right _ h)) (by decide +kernel))
set_option maxRecDepth 20000 in
theorem gL_closedIn_X9_closedIn : GoodIn wsL_closedIn (wsV RL 79 RX9 yX9_closedIn wsX9_closedIn) := goodIn_app (goodIn_of _ (by decide +kernel)) ggL_closedIn_X9_closedIn
theorem dL_closedIn_0 : decode cL_closedIn 0 = .ok (.aload_n 2, 1) := by decide +kernel
theorem dL_closedIn_1 : decode cL_closedIn 1 = .ok (.iconst 0, 1) := by decide +kernel
theorem dL_closedIn_2 : decode cL_closedIn 2 = .ok (.aload_n 0, 1) := by decide +kernel
theorem dL_closedIn_3 : decode cL_closedIn 3 = .ok (.iload_n 1, 1) := by decide +kernel
theorem dL_closedIn_4 : decode cL_closedIn 4 = .ok (.invokevirtual 79, 3) := by decide +kernel
theorem dL_closedIn_7 : decode cL_closedIn 7 = .ok (.i2l, 1) := by decide +kernel
theorem dL_closedIn_8 : decode cL_closedIn 8 = .ok (.lastore, 1) := by decide +kernel
theorem dL_closedIn_9 : decode cL_closedIn 9 = .ok (.goto 9, 3) := by decide +kernel
theorem dL_closedIn_12 : decode cL_closedIn 12 = .ok (.astore_n 3, 1) := by decide +kernel
theorem dL_closedIn_13 : decode cL_closedIn 13 = .ok (.iconst 1, 1) := by decide +kernel
theorem dL_closedIn_14 : decode cL_closedIn 14 = .ok (.ireturn, 1) := by decide +kernel
theorem dL_closedIn_15 : decode cL_closedIn 15 = .ok (.astore_n 3, 1) := by decide +kernel
theorem dL_closedIn_16 : decode cL_closedIn 16 = .ok (.iconst 2, 1) := by decide +kernel
theorem dL_closedIn_17 : decode cL_closedIn 17 = .ok (.ireturn, 1) := by decide +kernel
theorem dL_closedIn_18 : decode cL_closedIn 18 = .ok (.iconst 0, 1) := by decide +kernel
theorem dL_closedIn_19 : decode cL_closedIn 19 = .ok (.ireturn, 1) := by decide +kernel
set_option maxRecDepth 20000 in
theorem ggL_clerkOf_X9_clerkOf : GoodIn wsL_clerkOf wsX9_clerkOf := goodIn_ca (goodIn_ca (goodIn_r _ [7, 8, 9, 10, 11, 12, 13, 14, 15, 6, 16, 17, 18, 19, 20, 21, 22, 23, 24, 25, 26, 27, 28, 29, 30, 31, 32, 33, 34, 35, 36, 37, 38, 39, 40, 41, 42] (by decide +kernel) (by decide +kernel)) (goodIn_sub (fun _ h => List.mem_cons_of_mem _ (List.mem_append_left _ (List.mem_append_right _ h))) (by decide +kernel))) (goodIn_sub (fun _ h => List.mem_cons_of_mem _ (List.mem_append_right _ h)) (by decide +kernel))
set_option maxRecDepth 20000 in
theorem gL_clerkOf_X9_clerkOf : GoodIn wsL_clerkOf (wsV RL 82 RX9 yX9_clerkOf wsX9_clerkOf) := goodIn_app (goodIn_of _ (by decide +kernel)) ggL_clerkOf_X9_clerkOf
theorem dL_clerkOf_0 : decode cL_clerkOf 0 = .ok (.aload_n 2, 1) := by decide +kernel
theorem dL_clerkOf_1 : decode cL_clerkOf 1 = .ok (.iconst 0, 1) := by decide +kernel
theorem dL_clerkOf_2 : decode cL_clerkOf 2 = .ok (.aload_n 0, 1) := by decide +kernel
theorem dL_clerkOf_3 : decode cL_clerkOf 3 = .ok (.iload_n 1, 1) := by decide +kernel
theorem dL_clerkOf_4 : decode cL_clerkOf 4 = .ok (.invokevirtual 82, 3) := by decide +kernel
theorem dL_clerkOf_7 : decode cL_clerkOf 7 = .ok (.i2l, 1) := by decide +kernel
theorem dL_clerkOf_8 : decode cL_clerkOf 8 = .ok (.lastore, 1) := by decide +kernel
theorem dL_clerkOf_9 : decode cL_clerkOf 9 = .ok (.goto 9, 3) := by decide +kernel
theorem dL_clerkOf_12 : decode cL_clerkOf 12 = .ok (.astore_n 3, 1) := by decide +kernel
theorem dL_clerkOf_13 : decode cL_clerkOf 13 = .ok (.iconst 1, 1) := by decide +kernel
theorem dL_clerkOf_14 : decode cL_clerkOf 14 = .ok (.ireturn, 1) := by decide +kernel
theorem dL_clerkOf_15 : decode cL_clerkOf 15 = .ok (.astore_n 3, 1) := by decide +kernel
theorem dL_clerkOf_16 : decode cL_clerkOf 16 = .ok (.iconst 2, 1) := by decide +kernel
theorem dL_clerkOf_17 : decode cL_clerkOf 17 = .ok (.ireturn, 1) := by decide +kernel
theorem dL_clerkOf_18 : decode cL_clerkOf 18 = .ok (.iconst 0, 1) := by decide +kernel
theorem dL_clerkOf_19 : decode cL_clerkOf 19 = .ok (.ireturn, 1) := by decide +kernel
set_option maxRecDepth 20000 in
theorem ggL_waitingOf_X9_waitingOf : GoodIn wsL_waitingOf wsX9_waitingOf := goodIn_ca (goodIn_ca (goodIn_r _ [7, 8, 9, 10, 11, 12, 13, 6, 14, 15, 16, 17, 18, 19, 20, 21, 22, 23, 24, 25, 26, 27, 28, 29, 30, 31, 32, 33, 34, 35, 36, 37, 38, 39, 40, 41, 42, 43, 44, 45, 46] (by decide +kernel) (by decide +kernel)) (goodIn_sub (fun _ h => List.mem_cons_of_mem _ (List.mem_append_left _ (List.mem_append_right _ h))) (by decide +kernel))) (goodIn_sub (fun _ h => List.mem_cons_of_mem _ (List.mem_append_right _ h)) (by decide +kernel))
set_option maxRecDepth 20000 in
theorem gL_waitingOf_X9_waitingOf : GoodIn wsL_waitingOf (wsV RL 85 RX9 yX9_waitingOf wsX9_waitingOf) := goodIn_app (goodIn_of _ (by decide +kernel)) ggL_waitingOf_X9_waitingOf
theorem dL_waitingOf_0 : decode cL_waitingOf 0 = .ok (.aload_n 3, 1) := by decide +kernel
theorem dL_waitingOf_1 : decode cL_waitingOf 1 = .ok (.iconst 0, 1) := by decide +kernel
theorem dL_waitingOf_2 : decode cL_waitingOf 2 = .ok (.aload_n 0, 1) := by decide +kernel
theorem dL_waitingOf_3 : decode cL_waitingOf 3 = .ok (.iload_n 1, 1) := by decide +kernel
theorem dL_waitingOf_4 : decode cL_waitingOf 4 = .ok (.iload_n 2, 1) := by decide +kernel
theorem dL_waitingOf_5 : decode cL_waitingOf 5 = .ok (.invokevirtual 85, 3) := by decide +kernel
theorem dL_waitingOf_8 : decode cL_waitingOf 8 = .ok (.i2l, 1) := by decide +kernel
theorem dL_waitingOf_9 : decode cL_waitingOf 9 = .ok (.lastore, 1) := by decide +kernel
theorem dL_waitingOf_10 : decode cL_waitingOf 10 = .ok (.goto 11, 3) := by decide +kernel
theorem dL_waitingOf_13 : decode cL_waitingOf 13 = .ok (.astore 4, 2) := by decide +kernel
theorem dL_waitingOf_15 : decode cL_waitingOf 15 = .ok (.iconst 1, 1) := by decide +kernel
theorem dL_waitingOf_16 : decode cL_waitingOf 16 = .ok (.ireturn, 1) := by decide +kernel
theorem dL_waitingOf_17 : decode cL_waitingOf 17 = .ok (.astore 4, 2) := by decide +kernel
theorem dL_waitingOf_19 : decode cL_waitingOf 19 = .ok (.iconst 2, 1) := by decide +kernel
theorem dL_waitingOf_20 : decode cL_waitingOf 20 = .ok (.ireturn, 1) := by decide +kernel
theorem dL_waitingOf_21 : decode cL_waitingOf 21 = .ok (.iconst 0, 1) := by decide +kernel
theorem dL_waitingOf_22 : decode cL_waitingOf 22 = .ok (.ireturn, 1) := by decide +kernel
set_option maxRecDepth 20000 in
theorem ggL_oldest_X9_oldest : GoodIn wsL_oldest wsX9_oldest := goodIn_ca (goodIn_r _ [6, 7, 8, 9, 10, 11, 12, 13, 14, 15, 16, 17, 18, 19, 20, 21, 22, 23, 24, 25, 26, 27, 28, 29, 30, 31, 32, 33, 34, 35, 36, 37] (by decide +kernel) (by decide +kernel)) (goodIn_sub (fun _ h => List.mem_cons_of_mem _ (List.mem_append_right _ h)) (by decide +kernel))
set_option maxRecDepth 20000 in
theorem gL_oldest_X9_oldest : GoodIn wsL_oldest (wsV RL 89 RX9 yX9_oldest wsX9_oldest) := goodIn_app (goodIn_of _ (by decide +kernel)) ggL_oldest_X9_oldest
theorem dL_oldest_0 : decode cL_oldest 0 = .ok (.aload_n 1, 1) := by decide +kernel
theorem dL_oldest_1 : decode cL_oldest 1 = .ok (.iconst 0, 1) := by decide +kernel
theorem dL_oldest_2 : decode cL_oldest 2 = .ok (.aload_n 0, 1) := by decide +kernel
theorem dL_oldest_3 : decode cL_oldest 3 = .ok (.invokevirtual 89, 3) := by decide +kernel
theorem dL_oldest_6 : decode cL_oldest 6 = .ok (.i2l, 1) := by decide +kernel
theorem dL_oldest_7 : decode cL_oldest 7 = .ok (.lastore, 1) := by decide +kernel
theorem dL_oldest_8 : decode cL_oldest 8 = .ok (.goto 6, 3) := by decide +kernel
theorem dL_oldest_11 : decode cL_oldest 11 = .ok (.astore_n 2, 1) := by decide +kernel
theorem dL_oldest_12 : decode cL_oldest 12 = .ok (.iconst 1, 1) := by decide +kernel
theorem dL_oldest_13 : decode cL_oldest 13 = .ok (.ireturn, 1) := by decide +kernel
theorem dL_oldest_14 : decode cL_oldest 14 = .ok (.iconst 0, 1) := by decide +kernel
theorem dL_oldest_15 : decode cL_oldest 15 = .ok (.ireturn, 1) := by decide +kernel
set_option maxRecDepth 20000 in
theorem ggL_angriest_X9_angriest : GoodIn wsL_angriest wsX9_angriest := goodIn_ca (goodIn_r _ [6, 7, 8, 9, 10, 11, 12, 13, 14, 15, 16, 17, 18, 19, 20, 21, 22, 23, 24, 25, 26, 27, 28, 29, 30, 31, 32, 33, 34, 35, 36, 37] (by decide +kernel) (by decide +kernel)) (goodIn_sub (fun _ h => List.mem_cons_of_mem _ (List.mem_append_right _ h)) (by decide +kernel))
set_option maxRecDepth 20000 in
theorem gL_angriest_X9_angriest : GoodIn wsL_angriest (wsV RL 92 RX9 yX9_angriest wsX9_angriest) := goodIn_app (goodIn_of _ (by decide +kernel)) ggL_angriest_X9_angriest
theorem dL_angriest_0 : decode cL_angriest 0 = .ok (.aload_n 1, 1) := by decide +kernel
theorem dL_angriest_1 : decode cL_angriest 1 = .ok (.iconst 0, 1) := by decide +kernel
theorem dL_angriest_2 : decode cL_angriest 2 = .ok (.aload_n 0, 1) := by decide +kernel
theorem dL_angriest_3 : decode cL_angriest 3 = .ok (.invokevirtual 92, 3) := by decide +kernel
theorem dL_angriest_6 : decode cL_angriest 6 = .ok (.i2l, 1) := by decide +kernel
theorem dL_angriest_7 : decode cL_angriest 7 = .ok (.lastore, 1) := by decide +kernel
theorem dL_angriest_8 : decode cL_angriest 8 = .ok (.goto 6, 3) := by decide +kernel
theorem dL_angriest_11 : decode cL_angriest 11 = .ok (.astore_n 2, 1) := by decide +kernel
theorem dL_angriest_12 : decode cL_angriest 12 = .ok (.iconst 1, 1) := by decide +kernel
theorem dL_angriest_13 : decode cL_angriest 13 = .ok (.ireturn, 1) := by decide +kernel
theorem dL_angriest_14 : decode cL_angriest 14 = .ok (.iconst 0, 1) := by decide +kernel
theorem dL_angriest_15 : decode cL_angriest 15 = .ok (.ireturn, 1) := by decide +kernel
set_option maxRecDepth 20000 in
theorem ggL_complaintsOf_X9_complaintsOf : GoodIn wsL_complaintsOf wsX9_complaintsOf := goodIn_ca (goodIn_r _ [6, 7, 8, 9, 10, 5, 11, 12, 13, 14, 15, 16, 17, 18, 19, 20, 21, 22, 23, 24, 25, 26, 27, 28, 29, 30, 31, 32, 33, 34, 35, 36, 37, 38] (by decide +kernel) (by decide +kernel)) (goodIn_sub (fun _ h => List.mem_cons_of_mem _ (List.mem_append_right _ h)) (by decide +kernel))
set_option maxRecDepth 20000 in
theorem gL_complaintsOf_X9_complaintsOf : GoodIn wsL_complaintsOf (wsV RL 95 RX9 yX9_complaintsOf wsX9_complaintsOf) := goodIn_app (goodIn_of _ (by decide +kernel)) ggL_complaintsOf_X9_complaintsOf
theorem dL_complaintsOf_0 : decode cL_complaintsOf 0 = .ok (.aload_n 2, 1) := by decide +kernel
theorem dL_complaintsOf_1 : decode cL_complaintsOf 1 = .ok (.iconst 0, 1) := by decide +kernel
theorem dL_complaintsOf_2 : decode cL_complaintsOf 2 = .ok (.aload_n 0, 1) := by decide +kernel
theorem dL_complaintsOf_3 : decode cL_complaintsOf 3 = .ok (.iload_n 1, 1) := by decide +kernel
theorem dL_complaintsOf_4 : decode cL_complaintsOf 4 = .ok (.invokevirtual 95, 3) := by decide +kernel
theorem dL_complaintsOf_7 : decode cL_complaintsOf 7 = .ok (.i2l, 1) := by decide +kernel
theorem dL_complaintsOf_8 : decode cL_complaintsOf 8 = .ok (.lastore, 1) := by decide +kernel
theorem dL_complaintsOf_9 : decode cL_complaintsOf 9 = .ok (.goto 6, 3) := by decide +kernel
theorem dL_complaintsOf_12 : decode cL_complaintsOf 12 = .ok (.astore_n 3, 1) := by decide +kernel
theorem dL_complaintsOf_13 : decode cL_complaintsOf 13 = .ok (.iconst 1, 1) := by decide +kernel
theorem dL_complaintsOf_14 : decode cL_complaintsOf 14 = .ok (.ireturn, 1) := by decide +kernel
theorem dL_complaintsOf_15 : decode cL_complaintsOf 15 = .ok (.iconst 0, 1) := by decide +kernel
theorem dL_complaintsOf_16 : decode cL_complaintsOf 16 = .ok (.ireturn, 1) := by decide +kernel
set_option maxRecDepth 20000 in
theorem ggL_darkestClerk_X9_darkestClerk : GoodIn wsL_darkestClerk wsX9_darkestClerk := goodIn_ca (goodIn_r _ [6, 7, 8, 9, 10, 11, 12, 13, 14, 15, 16, 17, 18, 19, 20, 21, 22, 23, 24, 25, 26, 27, 28, 29, 30, 31] (by decide +kernel) (by decide +kernel)) (goodIn_sub (fun _ h => List.mem_cons_of_mem _ (List.mem_append_right _ h)) (by decide +kernel))
set_option maxRecDepth 20000 in
theorem gL_darkestClerk_X9_darkestClerk : GoodIn wsL_darkestClerk (wsV RL 98 RX9 yX9_darkestClerk wsX9_darkestClerk) := goodIn_app (goodIn_of _ (by decide +kernel)) ggL_darkestClerk_X9_darkestClerk
theorem dL_darkestClerk_0 : decode cL_darkestClerk 0 = .ok (.aload_n 1, 1) := by decide +kernel
theorem dL_darkestClerk_1 : decode cL_darkestClerk 1 = .ok (.iconst 0, 1) := by decide +kernel
theorem dL_darkestClerk_2 : decode cL_darkestClerk 2 = .ok (.aload_n 0, 1) := by decide +kernel
theorem dL_darkestClerk_3 : decode cL_darkestClerk 3 = .ok (.invokevirtual 98, 3) := by decide +kernel
theorem dL_darkestClerk_6 : decode cL_darkestClerk 6 = .ok (.i2l, 1) := by decide +kernel
theorem dL_darkestClerk_7 : decode cL_darkestClerk 7 = .ok (.lastore, 1) := by decide +kernel
theorem dL_darkestClerk_8 : decode cL_darkestClerk 8 = .ok (.goto 6, 3) := by decide +kernel
theorem dL_darkestClerk_11 : decode cL_darkestClerk 11 = .ok (.astore_n 2, 1) := by decide +kernel
theorem dL_darkestClerk_12 : decode cL_darkestClerk 12 = .ok (.iconst 1, 1) := by decide +kernel
theorem dL_darkestClerk_13 : decode cL_darkestClerk 13 = .ok (.ireturn, 1) := by decide +kernel
theorem dL_darkestClerk_14 : decode cL_darkestClerk 14 = .ok (.iconst 0, 1) := by decide +kernel
theorem dL_darkestClerk_15 : decode cL_darkestClerk 15 = .ok (.ireturn, 1) := by decide +kernel
set_option maxRecDepth 20000 in
theorem ggL_skillOf_X9_skillOf : GoodIn wsL_skillOf wsX9_skillOf := goodIn_ca (goodIn_r _ [6, 7, 8, 9, 10, 11, 12, 5, 13, 14, 15, 16, 17, 18, 19, 20, 21, 22, 23, 24, 25, 26, 27, 28, 29, 30, 31, 32, 33, 34, 35] (by decide +kernel) (by decide +kernel)) (goodIn_sub (fun _ h => List.mem_cons_of_mem _ (List.mem_append_right _ h)) (by decide +kernel))
set_option maxRecDepth 20000 in
theorem gL_skillOf_X9_skillOf : GoodIn wsL_skillOf (wsV RL 101 RX9 yX9_skillOf wsX9_skillOf) := goodIn_app (goodIn_of _ (by decide +kernel)) ggL_skillOf_X9_skillOf
theorem dL_skillOf_0 : decode cL_skillOf 0 = .ok (.aload_n 2, 1) := by decide +kernel
theorem dL_skillOf_1 : decode cL_skillOf 1 = .ok (.iconst 0, 1) := by decide +kernel
theorem dL_skillOf_2 : decode cL_skillOf 2 = .ok (.aload_n 0, 1) := by decide +kernel
theorem dL_skillOf_3 : decode cL_skillOf 3 = .ok (.iload_n 1, 1) := by decide +kernel
theorem dL_skillOf_4 : decode cL_skillOf 4 = .ok (.invokevirtual 101, 3) := by decide +kernel
theorem dL_skillOf_7 : decode cL_skillOf 7 = .ok (.i2l, 1) := by decide +kernel
theorem dL_skillOf_8 : decode cL_skillOf 8 = .ok (.lastore, 1) := by decide +kernel
theorem dL_skillOf_9 : decode cL_skillOf 9 = .ok (.goto 6, 3) := by decide +kernel
theorem dL_skillOf_12 : decode cL_skillOf 12 = .ok (.astore_n 3, 1) := by decide +kernel
theorem dL_skillOf_13 : decode cL_skillOf 13 = .ok (.iconst 1, 1) := by decide +kernel
theorem dL_skillOf_14 : decode cL_skillOf 14 = .ok (.ireturn, 1) := by decide +kernel
theorem dL_skillOf_15 : decode cL_skillOf 15 = .ok (.iconst 0, 1) := by decide +kernel
theorem dL_skillOf_16 : decode cL_skillOf 16 = .ok (.ireturn, 1) := by decide +kernel
set_option maxRecDepth 20000 in
theorem ggL_oilOf_X9_oilOf : GoodIn wsL_oilOf wsX9_oilOf := goodIn_ca (goodIn_r _ [6, 7, 8, 9, 10, 11, 12, 5, 13, 14, 15, 16, 17, 18, 19, 20, 21, 22, 23, 24, 25, 26, 27, 28, 29, 30, 31, 32, 33, 34, 35] (by decide +kernel) (by decide +kernel)) (goodIn_sub (fun _ h => List.mem_cons_of_mem _ (List.mem_append_right _ h)) (by decide +kernel))
set_option maxRecDepth 20000 in
theorem gL_oilOf_X9_oilOf : GoodIn wsL_oilOf (wsV RL 104 RX9 yX9_oilOf wsX9_oilOf) := goodIn_app (goodIn_of _ (by decide +kernel)) ggL_oilOf_X9_oilOf
theorem dL_oilOf_0 : decode cL_oilOf 0 = .ok (.aload_n 2, 1) := by decide +kernel
theorem dL_oilOf_1 : decode cL_oilOf 1 = .ok (.iconst 0, 1) := by decide +kernel
theorem dL_oilOf_2 : decode cL_oilOf 2 = .ok (.aload_n 0, 1) := by decide +kernel
theorem dL_oilOf_3 : decode cL_oilOf 3 = .ok (.iload_n 1, 1) := by decide +kernel
theorem dL_oilOf_4 : decode cL_oilOf 4 = .ok (.invokevirtual 104, 3) := by decide +kernel
theorem dL_oilOf_7 : decode cL_oilOf 7 = .ok (.i2l, 1) := by decide +kernel
theorem dL_oilOf_8 : decode cL_oilOf 8 = .ok (.lastore, 1) := by decide +kernel
theorem dL_oilOf_9 : decode cL_oilOf 9 = .ok (.goto 6, 3) := by decide +kernel
theorem dL_oilOf_12 : decode cL_oilOf 12 = .ok (.astore_n 3, 1) := by decide +kernel
theorem dL_oilOf_13 : decode cL_oilOf 13 = .ok (.iconst 1, 1) := by decide +kernel
theorem dL_oilOf_14 : decode cL_oilOf 14 = .ok (.ireturn, 1) := by decide +kernel
theorem dL_oilOf_15 : decode cL_oilOf 15 = .ok (.iconst 0, 1) := by decide +kernel
theorem dL_oilOf_16 : decode cL_oilOf 16 = .ok (.ireturn, 1) := by decide +kernel
set_option maxRecDepth 20000 in
theorem ggL_answeredBy_X9_answeredBy : GoodIn wsL_answeredBy wsX9_answeredBy := goodIn_ca (goodIn_r _ [6, 7, 8, 9, 10, 11, 5, 12, 13, 14, 15, 16, 17, 18, 19, 20, 21, 22, 23, 24, 25, 26, 27, 28, 29, 30, 31, 32, 33, 34, 35, 36, 37, 38, 39, 40, 41, 42, 43, 44, 45, 46, 47, 48, 49, 50, 51] (by decide +kernel) (by decide +kernel)) (goodIn_sub (fun _ h => List.mem_cons_of_mem _ (List.mem_append_right _ h)) (by decide +kernel))
set_option maxRecDepth 20000 in
theorem gL_answeredBy_X9_answeredBy : GoodIn wsL_answeredBy (wsV RL 107 RX9 yX9_answeredBy wsX9_answeredBy) := goodIn_app (goodIn_of _ (by decide +kernel)) ggL_answeredBy_X9_answeredBy
theorem dL_answeredBy_0 : decode cL_answeredBy 0 = .ok (.aload_n 2, 1) := by decide +kernel
theorem dL_answeredBy_1 : decode cL_answeredBy 1 = .ok (.iconst 0, 1) := by decide +kernel
theorem dL_answeredBy_2 : decode cL_answeredBy 2 = .ok (.aload_n 0, 1) := by decide +kernel
theorem dL_answeredBy_3 : decode cL_answeredBy 3 = .ok (.iload_n 1, 1) := by decide +kernel
theorem dL_answeredBy_4 : decode cL_answeredBy 4 = .ok (.invokevirtual 107, 3) := by decide +kernel
theorem dL_answeredBy_7 : decode cL_answeredBy 7 = .ok (.i2l, 1) := by decide +kernel
theorem dL_answeredBy_8 : decode cL_answeredBy 8 = .ok (.lastore, 1) := by decide +kernel
theorem dL_answeredBy_9 : decode cL_answeredBy 9 = .ok (.goto 6, 3) := by decide +kernel
theorem dL_answeredBy_12 : decode cL_answeredBy 12 = .ok (.astore_n 3, 1) := by decide +kernel
theorem dL_answeredBy_13 : decode cL_answeredBy 13 = .ok (.iconst 1, 1) := by decide +kernel
theorem dL_answeredBy_14 : decode cL_answeredBy 14 = .ok (.ireturn, 1) := by decide +kernel
theorem dL_answeredBy_15 : decode cL_answeredBy 15 = .ok (.iconst 0, 1) := by decide +kernel
theorem dL_answeredBy_16 : decode cL_answeredBy 16 = .ok (.ireturn, 1) := by decide +kernel
set_option maxRecDepth 20000 in
theorem ggL_nightsToClose_X9_nightsToClose : GoodIn wsL_nightsToClose wsX9_nightsToClose := goodIn_ca (goodIn_ca (goodIn_r _ [7, 8, 9, 10, 6, 11, 12, 13, 14, 15, 16, 17, 18, 19, 20, 21, 22, 23, 24, 25, 26, 27, 28, 29, 30, 31, 32, 33, 34, 35, 36, 37, 38, 39, 40, 41, 42, 43, 44, 45, 46, 47, 48, 49, 50, 51, 52, 53, 54, 55, 56, 57, 58, 59, 60, 61, 62, 63, 64, 65, 66, 67, 68, 69, 70, 71, 72, 73, 74, 75, 76, 77, 78, 79, 80, 81, 82, 83, 84, 85, 86, 87, 88, 89, 90, 91, 92, 93, 94, 95, 96, 97, 98, 99, 100, 101, 102, 103, 104, 105, 106, 107, 108, 109, 110, 111, 112, 113, 114, 115, 116, 117, 118, 119, 120, 121, 122, 123, 124, 125, 126, 127, 128, 129, 130, 131, 132, 133, 134, 135, 136, 137, 138, 139, 140, 141, 142, 143, 144, 145, 146, 147, 148, 149, 150, 151, 152, 153, 154, 155, 156, 157, 158, 159, 160, 161, 162, 163, 164, 165, 166, 167, 168, 169, 170, 171, 172, 173, 174, 175, 176, 177, 178, 179] (by decide +kernel) (by decide +kernel)) (goodIn_sub (fun _ h => List.mem_cons_of_mem _ (List.mem_append_left _ (List.mem_append_right _ h))) (by decide +kernel))) (goodIn_sub (fun _ h => List.mem_cons_of_mem _ (List.mem_append_right _ h)) (by decide +kernel))
set_option maxRecDepth 20000 in
theorem gL_nightsToClose_X9_nightsToClose : GoodIn wsL_nightsToClose (wsV RL 110 RX9 yX9_nightsToClose wsX9_nightsToClose) := goodIn_app (goodIn_of _ (by decide +kernel)) ggL_nightsToClose_X9_nightsToClose
theorem dL_nightsToClose_0 : decode cL_nightsToClose 0 = .ok (.aload_n 2, 1) := by decide +kernel
theorem dL_nightsToClose_1 : decode cL_nightsToClose 1 = .ok (.iconst 0, 1) := by decide +kernel
theorem dL_nightsToClose_2 : decode cL_nightsToClose 2 = .ok (.aload_n 0, 1) := by decide +kernel
theorem dL_nightsToClose_3 : decode cL_nightsToClose 3 = .ok (.iload_n 1, 1) := by decide +kernel
theorem dL_nightsToClose_4 : decode cL_nightsToClose 4 = .ok (.invokevirtual 110, 3) := by decide +kernel
theorem dL_nightsToClose_7 : decode cL_nightsToClose 7 = .ok (.i2l, 1) := by decide +kernel
theorem dL_nightsToClose_8 : decode cL_nightsToClose 8 = .ok (.lastore, 1) := by decide +kernel
theorem dL_nightsToClose_9 : decode cL_nightsToClose 9 = .ok (.goto 9, 3) := by decide +kernel
theorem dL_nightsToClose_12 : decode cL_nightsToClose 12 = .ok (.astore_n 3, 1) := by decide +kernel
theorem dL_nightsToClose_13 : decode cL_nightsToClose 13 = .ok (.iconst 1, 1) := by decide +kernel
theorem dL_nightsToClose_14 : decode cL_nightsToClose 14 = .ok (.ireturn, 1) := by decide +kernel
theorem dL_nightsToClose_15 : decode cL_nightsToClose 15 = .ok (.astore_n 3, 1) := by decide +kernel
theorem dL_nightsToClose_16 : decode cL_nightsToClose 16 = .ok (.iconst 2, 1) := by decide +kernel
theorem dL_nightsToClose_17 : decode cL_nightsToClose 17 = .ok (.ireturn, 1) := by decide +kernel
theorem dL_nightsToClose_18 : decode cL_nightsToClose 18 = .ok (.iconst 0, 1) := by decide +kernel
theorem dL_nightsToClose_19 : decode cL_nightsToClose 19 = .ok (.ireturn, 1) := by decide +kernel
set_option maxRecDepth 20000 in
theorem ggL_willBeAnswered_X9_willBeAnswered : GoodIn wsL_willBeAnswered wsX9_willBeAnswered := goodIn_ca (goodIn_ca (goodIn_r _ [7, 8, 9, 10, 11, 12, 13, 6, 14, 15, 16, 17, 18, 19, 20, 21, 22, 23, 24, 25, 26, 27, 28, 29, 30, 31, 32, 33, 34, 35, 36, 37, 38, 39, 40, 41, 42, 43, 44, 45, 46, 47, 48, 49, 50, 51, 52, 53, 54, 55, 56, 57, 58, 59, 60, 61, 62, 63, 64, 65, 66, 67, 68, 69, 70, 71, 72, 73, 74, 75, 76, 77, 78, 79, 80, 81, 82, 83, 84, 85, 86, 87, 88, 89, 90, 91, 92, 93, 94, 95, 96, 97, 98, 99, 100, 101, 102, 103, 104, 105, 106, 107, 108, 109, 110, 111, 112, 113, 114, 115, 116, 117, 118, 119, 120, 121, 122, 123, 124, 125, 126, 127, 128, 129, 130, 131, 132, 133, 134, 135, 136, 137, 138, 139, 140, 141, 142, 143, 144, 145, 146, 147, 148, 149, 150, 151, 152, 153, 154, 155, 156, 157, 158, 159, 160, 161, 162, 163, 164, 165, 166, 167, 168, 169, 170, 171, 172, 173, 174, 175, 176, 177, 178, 179] (by decide +kernel) (by decide +kernel)) (goodIn_sub (fun _ h => List.mem_cons_of_mem _ (List.mem_append_left _ (List.mem_append_right _ h))) (by decide +kernel))) (goodIn_sub (fun _ h => List.mem_cons_of_mem _ (List.mem_append_right _ h)) (by decide +kernel))
set_option maxRecDepth 20000 in
theorem gL_willBeAnswered_X9_willBeAnswered : GoodIn wsL_willBeAnswered (wsV RL 113 RX9 yX9_willBeAnswered wsX9_willBeAnswered) := goodIn_app (goodIn_of _ (by decide +kernel)) ggL_willBeAnswered_X9_willBeAnswered
theorem dL_willBeAnswered_0 : decode cL_willBeAnswered 0 = .ok (.aload_n 2, 1) := by decide +kernel
theorem dL_willBeAnswered_1 : decode cL_willBeAnswered 1 = .ok (.iconst 0, 1) := by decide +kernel
theorem dL_willBeAnswered_2 : decode cL_willBeAnswered 2 = .ok (.aload_n 0, 1) := by decide +kernel
theorem dL_willBeAnswered_3 : decode cL_willBeAnswered 3 = .ok (.iload_n 1, 1) := by decide +kernel
theorem dL_willBeAnswered_4 : decode cL_willBeAnswered 4 = .ok (.invokevirtual 113, 3) := by decide +kernel
theorem dL_willBeAnswered_7 : decode cL_willBeAnswered 7 = .ok (.ifCond .eq 7, 3) := by decide +kernel
theorem dL_willBeAnswered_10 : decode cL_willBeAnswered 10 = .ok (.lconst 1, 1) := by decide +kernel
theorem dL_willBeAnswered_11 : decode cL_willBeAnswered 11 = .ok (.goto 4, 3) := by decide +kernel
theorem dL_willBeAnswered_14 : decode cL_willBeAnswered 14 = .ok (.lconst 0, 1) := by decide +kernel
theorem dL_willBeAnswered_15 : decode cL_willBeAnswered 15 = .ok (.lastore, 1) := by decide +kernel
theorem dL_willBeAnswered_16 : decode cL_willBeAnswered 16 = .ok (.goto 9, 3) := by decide +kernel
theorem dL_willBeAnswered_19 : decode cL_willBeAnswered 19 = .ok (.astore_n 3, 1) := by decide +kernel
theorem dL_willBeAnswered_20 : decode cL_willBeAnswered 20 = .ok (.iconst 1, 1) := by decide +kernel
theorem dL_willBeAnswered_21 : decode cL_willBeAnswered 21 = .ok (.ireturn, 1) := by decide +kernel
theorem dL_willBeAnswered_22 : decode cL_willBeAnswered 22 = .ok (.astore_n 3, 1) := by decide +kernel
theorem dL_willBeAnswered_23 : decode cL_willBeAnswered 23 = .ok (.iconst 2, 1) := by decide +kernel
theorem dL_willBeAnswered_24 : decode cL_willBeAnswered 24 = .ok (.ireturn, 1) := by decide +kernel
theorem dL_willBeAnswered_25 : decode cL_willBeAnswered 25 = .ok (.iconst 0, 1) := by decide +kernel
theorem dL_willBeAnswered_26 : decode cL_willBeAnswered 26 = .ok (.ireturn, 1) := by decide +kernel
set_option maxRecDepth 20000 in
theorem ggL_fileComplaint_X9_fileComplaint : GoodIn wsL_fileComplaint wsX9_fileComplaint := goodIn_ca (goodIn_ca (goodIn_r _ [7, 8, 9, 10, 11, 12, 13, 14, 15, 16, 6, 17, 18, 19, 20, 21, 22, 23, 24, 25, 26, 27, 28, 29, 30, 31, 32, 33, 34, 35, 36, 37, 38, 39, 40, 41, 42, 43, 44, 45, 46, 47, 48, 49, 50, 51, 52, 53, 54, 55, 56, 57, 58, 59, 60, 61, 62, 63, 64, 65, 66, 67, 68, 69, 70, 71, 72, 73, 74, 75, 76, 77, 78, 79, 80, 81, 82, 83, 84, 85, 86, 87, 88, 89, 90, 91, 92, 93, 94, 95, 96, 97, 98, 99, 100, 101, 102, 103, 104, 105, 106, 107, 108, 109, 110, 111, 112, 113, 114, 115, 116, 117, 118, 119] (by decide +kernel) (by decide +kernel)) (goodIn_sub (fun _ h => List.mem_cons_of_mem _ (List.mem_append_left _ (List.mem_append_right _ h))) (by decide +kernel))) (goodIn_sub (fun _ h => List.mem_cons_of_mem _ (List.mem_append_right _ h)) (by decide +kernel))
set_option maxRecDepth 20000 in
theorem gL_fileComplaint_X9_fileComplaint : GoodIn wsL_fileComplaint (wsV RL 116 RX9 yX9_fileComplaint wsX9_fileComplaint) := goodIn_app (goodIn_of _ (by decide +kernel)) ggL_fileComplaint_X9_fileComplaint
theorem dL_fileComplaint_0 : decode cL_fileComplaint 0 = .ok (.aload 4, 2) := by decide +kernel
theorem dL_fileComplaint_2 : decode cL_fileComplaint 2 = .ok (.iconst 0, 1) := by decide +kernel
theorem dL_fileComplaint_3 : decode cL_fileComplaint 3 = .ok (.aload_n 0, 1) := by decide +kernel
theorem dL_fileComplaint_4 : decode cL_fileComplaint 4 = .ok (.iload_n 1, 1) := by decide +kernel
theorem dL_fileComplaint_5 : decode cL_fileComplaint 5 = .ok (.iload_n 2, 1) := by decide +kernel
theorem dL_fileComplaint_6 : decode cL_fileComplaint 6 = .ok (.iload_n 3, 1) := by decide +kernel
theorem dL_fileComplaint_7 : decode cL_fileComplaint 7 = .ok (.invokevirtual 116, 3) := by decide +kernel
theorem dL_fileComplaint_10 : decode cL_fileComplaint 10 = .ok (.i2l, 1) := by decide +kernel
theorem dL_fileComplaint_11 : decode cL_fileComplaint 11 = .ok (.lastore, 1) := by decide +kernel
theorem dL_fileComplaint_12 : decode cL_fileComplaint 12 = .ok (.goto 11, 3) := by decide +kernel
theorem dL_fileComplaint_15 : decode cL_fileComplaint 15 = .ok (.astore 5, 2) := by decide +kernel
theorem dL_fileComplaint_17 : decode cL_fileComplaint 17 = .ok (.iconst 1, 1) := by decide +kernel
theorem dL_fileComplaint_18 : decode cL_fileComplaint 18 = .ok (.ireturn, 1) := by decide +kernel
theorem dL_fileComplaint_19 : decode cL_fileComplaint 19 = .ok (.astore 5, 2) := by decide +kernel
theorem dL_fileComplaint_21 : decode cL_fileComplaint 21 = .ok (.iconst 2, 1) := by decide +kernel
theorem dL_fileComplaint_22 : decode cL_fileComplaint 22 = .ok (.ireturn, 1) := by decide +kernel
theorem dL_fileComplaint_23 : decode cL_fileComplaint 23 = .ok (.iconst 0, 1) := by decide +kernel
theorem dL_fileComplaint_24 : decode cL_fileComplaint 24 = .ok (.ireturn, 1) := by decide +kernel
set_option maxRecDepth 20000 in
theorem ggL_giveUp_X9_giveUp : GoodIn wsL_giveUp wsX9_giveUp := goodIn_ca (goodIn_ca (goodIn_r _ [7, 8, 9, 10, 11, 12, 13, 14, 15, 6, 16, 17, 18, 19, 20, 21, 22, 23, 24, 25, 26, 27, 28, 29, 30, 31, 32, 33, 34, 35, 36, 37, 38, 39, 40, 41, 42, 43, 44, 45, 46, 47, 48, 49, 50, 51, 52, 53, 54, 55, 56, 57, 58, 59, 60, 61, 62, 63, 64, 65, 66, 67, 68, 69, 70, 71, 72, 73, 74, 75, 76, 77, 78, 79, 80, 81, 82, 83, 84, 85, 86, 87, 88, 89, 90, 91, 92, 93, 94, 95, 96, 97, 98, 99, 100, 101, 102, 103, 104, 105, 106, 107, 108, 109, 110, 111, 112, 113, 114, 115, 116, 117, 118, 119, 120, 121, 122, 123] (by decide +kernel) (by decide +kernel)) (goodIn_sub (fun _ h => List.mem_cons_of_mem _ (List.mem_append_left _ (List.mem_append_right _ h))) (by decide +kernel))) (goodIn_sub (fun _ h => List.mem_cons_of_mem _ (List.mem_append_right _ h)) (by decide +kernel))
set_option maxRecDepth 20000 in
theorem gL_giveUp_X9_giveUp : GoodIn wsL_giveUp (wsV RL 120 RX9 yX9_giveUp wsX9_giveUp) := goodIn_app (goodIn_of _ (by decide +kernel)) ggL_giveUp_X9_giveUp
theorem dL_giveUp_0 : decode cL_giveUp 0 = .ok (.aload_n 2, 1) := by decide +kernel
theorem dL_giveUp_1 : decode cL_giveUp 1 = .ok (.iconst 0, 1) := by decide +kernel
theorem dL_giveUp_2 : decode cL_giveUp 2 = .ok (.aload_n 0, 1) := by decide +kernel
theorem dL_giveUp_3 : decode cL_giveUp 3 = .ok (.iload_n 1, 1) := by decide +kernel
theorem dL_giveUp_4 : decode cL_giveUp 4 = .ok (.invokevirtual 120, 3) := by decide +kernel
theorem dL_giveUp_7 : decode cL_giveUp 7 = .ok (.i2l, 1) := by decide +kernel
theorem dL_giveUp_8 : decode cL_giveUp 8 = .ok (.lastore, 1) := by decide +kernel
theorem dL_giveUp_9 : decode cL_giveUp 9 = .ok (.goto 9, 3) := by decide +kernel
theorem dL_giveUp_12 : decode cL_giveUp 12 = .ok (.astore_n 3, 1) := by decide +kernel
theorem dL_giveUp_13 : decode cL_giveUp 13 = .ok (.iconst 1, 1) := by decide +kernel
theorem dL_giveUp_14 : decode cL_giveUp 14 = .ok (.ireturn, 1) := by decide +kernel
theorem dL_giveUp_15 : decode cL_giveUp 15 = .ok (.astore_n 3, 1) := by decide +kernel
theorem dL_giveUp_16 : decode cL_giveUp 16 = .ok (.iconst 2, 1) := by decide +kernel
theorem dL_giveUp_17 : decode cL_giveUp 17 = .ok (.ireturn, 1) := by decide +kernel
theorem dL_giveUp_18 : decode cL_giveUp 18 = .ok (.iconst 0, 1) := by decide +kernel
theorem dL_giveUp_19 : decode cL_giveUp 19 = .ok (.ireturn, 1) := by decide +kernel
set_option maxRecDepth 20000 in
theorem ggL_addClerk_X9_addClerk : GoodIn wsL_addClerk wsX9_addClerk := goodIn_ca (goodIn_ca (goodIn_r _ [7, 8, 9, 10, 11, 12, 13, 14, 15, 6, 16, 17, 18, 19, 20, 21, 22, 23, 24, 25, 26, 27, 28, 29, 30, 31, 32, 33, 34, 35, 36, 37, 38, 39, 40, 41, 42, 43, 44, 45, 46, 47, 48, 49, 50, 51, 52, 53, 54, 55, 56, 57, 58, 59, 60, 61, 62, 63, 64, 65, 66, 67, 68, 69, 70, 71, 72, 73, 74, 75, 76, 77, 78, 79, 80, 81, 82, 83, 84, 85, 86, 87, 88, 89, 90, 91, 92, 93, 94, 95, 96, 97, 98, 99, 100, 101, 102, 103, 104, 105, 106, 107, 108, 109, 110, 111] (by decide +kernel) (by decide +kernel)) (goodIn_sub (fun _ h => List.mem_cons_of_mem _ (List.mem_append_left _ (List.mem_append_right _ h))) (by decide +kernel))) (goodIn_sub (fun _ h => List.mem_cons_of_mem _ (List.mem_append_right _ h)) (by decide +kernel))
set_option maxRecDepth 20000 in
theorem gL_addClerk_X9_addClerk : GoodIn wsL_addClerk (wsV RL 123 RX9 yX9_addClerk wsX9_addClerk) := goodIn_app (goodIn_of _ (by decide +kernel)) ggL_addClerk_X9_addClerk
theorem dL_addClerk_0 : decode cL_addClerk 0 = .ok (.aload_n 3, 1) := by decide +kernel
theorem dL_addClerk_1 : decode cL_addClerk 1 = .ok (.iconst 0, 1) := by decide +kernel
theorem dL_addClerk_2 : decode cL_addClerk 2 = .ok (.aload_n 0, 1) := by decide +kernel
theorem dL_addClerk_3 : decode cL_addClerk 3 = .ok (.iload_n 1, 1) := by decide +kernel
theorem dL_addClerk_4 : decode cL_addClerk 4 = .ok (.iload_n 2, 1) := by decide +kernel
theorem dL_addClerk_5 : decode cL_addClerk 5 = .ok (.invokevirtual 123, 3) := by decide +kernel
theorem dL_addClerk_8 : decode cL_addClerk 8 = .ok (.i2l, 1) := by decide +kernel
theorem dL_addClerk_9 : decode cL_addClerk 9 = .ok (.lastore, 1) := by decide +kernel
theorem dL_addClerk_10 : decode cL_addClerk 10 = .ok (.goto 11, 3) := by decide +kernel
theorem dL_addClerk_13 : decode cL_addClerk 13 = .ok (.astore 4, 2) := by decide +kernel
theorem dL_addClerk_15 : decode cL_addClerk 15 = .ok (.iconst 1, 1) := by decide +kernel
theorem dL_addClerk_16 : decode cL_addClerk 16 = .ok (.ireturn, 1) := by decide +kernel
theorem dL_addClerk_17 : decode cL_addClerk 17 = .ok (.astore 4, 2) := by decide +kernel
theorem dL_addClerk_19 : decode cL_addClerk 19 = .ok (.iconst 2, 1) := by decide +kernel
theorem dL_addClerk_20 : decode cL_addClerk 20 = .ok (.ireturn, 1) := by decide +kernel
theorem dL_addClerk_21 : decode cL_addClerk 21 = .ok (.iconst 0, 1) := by decide +kernel
theorem dL_addClerk_22 : decode cL_addClerk 22 = .ok (.ireturn, 1) := by decide +kernel
set_option maxRecDepth 20000 in
theorem ggL_refill_X9_refill : GoodIn wsL_refill wsX9_refill := goodIn_ca (goodIn_ca (goodIn_r _ [7, 8, 9, 10, 11, 12, 13, 14, 15, 16, 17, 18, 6, 19, 20, 21, 22, 23, 24, 25, 26, 27, 28, 29, 30, 31, 32, 33, 34, 35, 36, 37, 38, 39, 40, 41, 42, 43, 44, 45, 46, 47, 48, 49, 50, 51, 52, 53, 54, 55, 56, 57, 58, 59, 60, 61, 62, 63, 64, 65, 66, 67, 68, 69, 70, 71, 72, 73, 74, 75, 76, 77, 78, 79, 80, 81, 82, 83, 84, 85, 86, 87, 88, 89, 90, 91, 92, 93, 94, 95, 96, 97, 98, 99, 100, 101, 102, 103, 104, 105, 106, 107, 108, 109, 110, 111, 112, 113, 114, 115, 116] (by decide +kernel) (by decide +kernel)) (goodIn_sub (fun _ h => List.mem_cons_of_mem _ (List.mem_append_left _ (List.mem_append_right _ h))) (by decide +kernel))) (goodIn_sub (fun _ h => List.mem_cons_of_mem _ (List.mem_append_right _ h)) (by decide +kernel))
set_option maxRecDepth 20000 in
theorem gL_refill_X9_refill : GoodIn wsL_refill (wsV RL 126 RX9 yX9_refill wsX9_refill) := goodIn_app (goodIn_of _ (by decide +kernel)) ggL_refill_X9_refill
theorem dL_refill_0 : decode cL_refill 0 = .ok (.aload_n 3, 1) := by decide +kernel
theorem dL_refill_1 : decode cL_refill 1 = .ok (.iconst 0, 1) := by decide +kernel
theorem dL_refill_2 : decode cL_refill 2 = .ok (.aload_n 0, 1) := by decide +kernel
theorem dL_refill_3 : decode cL_refill 3 = .ok (.iload_n 1, 1) := by decide +kernel
theorem dL_refill_4 : decode cL_refill 4 = .ok (.iload_n 2, 1) := by decide +kernel
theorem dL_refill_5 : decode cL_refill 5 = .ok (.invokevirtual 126, 3) := by decide +kernel
theorem dL_refill_8 : decode cL_refill 8 = .ok (.i2l, 1) := by decide +kernel
theorem dL_refill_9 : decode cL_refill 9 = .ok (.lastore, 1) := by decide +kernel
theorem dL_refill_10 : decode cL_refill 10 = .ok (.goto 11, 3) := by decide +kernel
theorem dL_refill_13 : decode cL_refill 13 = .ok (.astore 4, 2) := by decide +kernel
theorem dL_refill_15 : decode cL_refill 15 = .ok (.iconst 1, 1) := by decide +kernel
theorem dL_refill_16 : decode cL_refill 16 = .ok (.ireturn, 1) := by decide +kernel
theorem dL_refill_17 : decode cL_refill 17 = .ok (.astore 4, 2) := by decide +kernel
theorem dL_refill_19 : decode cL_refill 19 = .ok (.iconst 2, 1) := by decide +kernel
theorem dL_refill_20 : decode cL_refill 20 = .ok (.ireturn, 1) := by decide +kernel
theorem dL_refill_21 : decode cL_refill 21 = .ok (.iconst 0, 1) := by decide +kernel
theorem dL_refill_22 : decode cL_refill 22 = .ok (.ireturn, 1) := by decide +kernel
set_option maxRecDepth 20000 in
theorem ggL_setCloud_X9_setCloud : GoodIn wsL_setCloud wsX9_setCloud := goodIn_ca (goodIn_ca (goodIn_r _ [7, 8, 9, 10, 11, 12, 13, 14, 15, 16, 17, 18, 19, 20, 21, 6, 22, 23, 24, 25, 26, 27, 28, 29, 30, 31, 32, 33, 34, 35, 36, 37, 38, 39, 40, 41, 42, 43, 44, 45, 46, 47, 48, 49, 50, 51, 52, 53, 54, 55, 56, 57, 58, 59, 60, 61, 62, 63, 64, 65, 66, 67, 68, 69, 70, 71, 72, 73, 74, 75, 76, 77, 78, 79, 80, 81, 82, 83, 84, 85, 86, 87, 88, 89, 90, 91, 92, 93, 94, 95, 96, 97, 98, 99, 100, 101, 102, 103, 104, 105, 106, 107, 108, 109, 110, 111] (by decide +kernel) (by decide +kernel)) (goodIn_sub (fun _ h => List.mem_cons_of_mem _ (List.mem_append_left _ (List.mem_append_right _ h))) (by decide +kernel))) (goodIn_sub (fun _ h => List.mem_cons_of_mem _ (List.mem_append_right _ h)) (by decide +kernel))
set_option maxRecDepth 20000 in
theorem gL_setCloud_X9_setCloud : GoodIn wsL_setCloud (wsV RL 129 RX9 yX9_setCloud wsX9_setCloud) := goodIn_app (goodIn_of _ (by decide +kernel)) ggL_setCloud_X9_setCloud
theorem dL_setCloud_0 : decode cL_setCloud 0 = .ok (.aload_n 3, 1) := by decide +kernel
theorem dL_setCloud_1 : decode cL_setCloud 1 = .ok (.iconst 0, 1) := by decide +kernel
theorem dL_setCloud_2 : decode cL_setCloud 2 = .ok (.aload_n 0, 1) := by decide +kernel
theorem dL_setCloud_3 : decode cL_setCloud 3 = .ok (.iload_n 1, 1) := by decide +kernel
theorem dL_setCloud_4 : decode cL_setCloud 4 = .ok (.iload_n 2, 1) := by decide +kernel
theorem dL_setCloud_5 : decode cL_setCloud 5 = .ok (.invokevirtual 129, 3) := by decide +kernel
theorem dL_setCloud_8 : decode cL_setCloud 8 = .ok (.i2l, 1) := by decide +kernel
theorem dL_setCloud_9 : decode cL_setCloud 9 = .ok (.lastore, 1) := by decide +kernel
theorem dL_setCloud_10 : decode cL_setCloud 10 = .ok (.goto 11, 3) := by decide +kernel
theorem dL_setCloud_13 : decode cL_setCloud 13 = .ok (.astore 4, 2) := by decide +kernel
theorem dL_setCloud_15 : decode cL_setCloud 15 = .ok (.iconst 1, 1) := by decide +kernel
theorem dL_setCloud_16 : decode cL_setCloud 16 = .ok (.ireturn, 1) := by decide +kernel
theorem dL_setCloud_17 : decode cL_setCloud 17 = .ok (.astore 4, 2) := by decide +kernel
theorem dL_setCloud_19 : decode cL_setCloud 19 = .ok (.iconst 2, 1) := by decide +kernel
theorem dL_setCloud_20 : decode cL_setCloud 20 = .ok (.ireturn, 1) := by decide +kernel
theorem dL_setCloud_21 : decode cL_setCloud 21 = .ok (.iconst 0, 1) := by decide +kernel
theorem dL_setCloud_22 : decode cL_setCloud 22 = .ok (.ireturn, 1) := by decide +kernel
set_option maxRecDepth 20000 in
theorem ggL_setGlareLimit_X9_setGlareLimit : GoodIn wsL_setGlareLimit wsX9_setGlareLimit := goodIn_ca (goodIn_r _ [6, 7, 8, 9, 10, 11, 12, 5, 13, 14, 15, 16, 17, 18, 19, 20, 21, 22, 23, 24, 25, 26, 27, 28, 29, 30, 31, 32, 33, 34, 35, 36, 37, 38, 39, 40, 41, 42, 43, 44, 45, 46, 47, 48, 49, 50, 51, 52, 53, 54, 55, 56, 57, 58, 59, 60, 61, 62, 63, 64, 65, 66, 67, 68, 69, 70, 71, 72, 73, 74, 75, 76, 77, 78, 79, 80, 81, 82, 83, 84, 85, 86, 87, 88, 89, 90, 91, 92, 93, 94, 95, 96, 97, 98, 99, 100, 101, 102, 103, 104] (by decide +kernel) (by decide +kernel)) (goodIn_sub (fun _ h => List.mem_cons_of_mem _ (List.mem_append_right _ h)) (by decide +kernel))
set_option maxRecDepth 20000 in
theorem gL_setGlareLimit_X9_setGlareLimit : GoodIn wsL_setGlareLimit (wsV RL 132 RX9 yX9_setGlareLimit wsX9_setGlareLimit) := goodIn_app (goodIn_of _ (by decide +kernel)) ggL_setGlareLimit_X9_setGlareLimit
theorem dL_setGlareLimit_0 : decode cL_setGlareLimit 0 = .ok (.aload_n 2, 1) := by decide +kernel
theorem dL_setGlareLimit_1 : decode cL_setGlareLimit 1 = .ok (.iconst 0, 1) := by decide +kernel
theorem dL_setGlareLimit_2 : decode cL_setGlareLimit 2 = .ok (.aload_n 0, 1) := by decide +kernel
theorem dL_setGlareLimit_3 : decode cL_setGlareLimit 3 = .ok (.iload_n 1, 1) := by decide +kernel
theorem dL_setGlareLimit_4 : decode cL_setGlareLimit 4 = .ok (.invokevirtual 132, 3) := by decide +kernel
theorem dL_setGlareLimit_7 : decode cL_setGlareLimit 7 = .ok (.i2l, 1) := by decide +kernel
theorem dL_setGlareLimit_8 : decode cL_setGlareLimit 8 = .ok (.lastore, 1) := by decide +kernel
theorem dL_setGlareLimit_9 : decode cL_setGlareLimit 9 = .ok (.goto 6, 3) := by decide +kernel
theorem dL_setGlareLimit_12 : decode cL_setGlareLimit 12 = .ok (.astore_n 3, 1) := by decide +kernel
theorem dL_setGlareLimit_13 : decode cL_setGlareLimit 13 = .ok (.iconst 1, 1) := by decide +kernel
theorem dL_setGlareLimit_14 : decode cL_setGlareLimit 14 = .ok (.ireturn, 1) := by decide +kernel
theorem dL_setGlareLimit_15 : decode cL_setGlareLimit 15 = .ok (.iconst 0, 1) := by decide +kernel
theorem dL_setGlareLimit_16 : decode cL_setGlareLimit 16 = .ok (.ireturn, 1) := by decide +kernel
set_option maxRecDepth 20000 in
theorem ggL_setGloomLimit_X9_setGloomLimit : GoodIn wsL_setGloomLimit wsX9_setGloomLimit := goodIn_ca (goodIn_r _ [6, 7, 8, 9, 10, 11, 12, 5, 13, 14, 15, 16, 17, 18, 19, 20, 21, 22, 23, 24, 25, 26, 27, 28, 29, 30, 31, 32, 33, 34, 35, 36, 37, 38, 39, 40, 41, 42, 43, 44, 45, 46, 47, 48, 49, 50, 51, 52, 53, 54, 55, 56, 57, 58, 59, 60, 61, 62, 63, 64, 65, 66, 67, 68, 69, 70, 71, 72, 73, 74, 75, 76, 77, 78, 79, 80, 81, 82, 83, 84, 85, 86, 87, 88, 89, 90, 91, 92, 93, 94, 95, 96, 97, 98, 99, 100, 101, 102, 103, 104] (by decide +kernel) (by decide +kernel)) (goodIn_sub (fun _ h => List.mem_cons_of_mem _ (List.mem_append_right _ h)) (by decide +kernel))
set_option maxRecDepth 20000 in
theorem gL_setGloomLimit_X9_setGloomLimit : GoodIn wsL_setGloomLimit (wsV RL 135 RX9 yX9_setGloomLimit wsX9_setGloomLimit) := goodIn_app (goodIn_of _ (by decide +kernel)) ggL_setGloomLimit_X9_setGloomLimit
theorem dL_setGloomLimit_0 : decode cL_setGloomLimit 0 = .ok (.aload_n 2, 1) := by decide +kernel
theorem dL_setGloomLimit_1 : decode cL_setGloomLimit 1 = .ok (.iconst 0, 1) := by decide +kernel
theorem dL_setGloomLimit_2 : decode cL_setGloomLimit 2 = .ok (.aload_n 0, 1) := by decide +kernel
theorem dL_setGloomLimit_3 : decode cL_setGloomLimit 3 = .ok (.iload_n 1, 1) := by decide +kernel
theorem dL_setGloomLimit_4 : decode cL_setGloomLimit 4 = .ok (.invokevirtual 135, 3) := by decide +kernel
theorem dL_setGloomLimit_7 : decode cL_setGloomLimit 7 = .ok (.i2l, 1) := by decide +kernel
theorem dL_setGloomLimit_8 : decode cL_setGloomLimit 8 = .ok (.lastore, 1) := by decide +kernel
theorem dL_setGloomLimit_9 : decode cL_setGloomLimit 9 = .ok (.goto 6, 3) := by decide +kernel
theorem dL_setGloomLimit_12 : decode cL_setGloomLimit 12 = .ok (.astore_n 3, 1) := by decide +kernel
theorem dL_setGloomLimit_13 : decode cL_setGloomLimit 13 = .ok (.iconst 1, 1) := by decide +kernel
theorem dL_setGloomLimit_14 : decode cL_setGloomLimit 14 = .ok (.ireturn, 1) := by decide +kernel
theorem dL_setGloomLimit_15 : decode cL_setGloomLimit 15 = .ok (.iconst 0, 1) := by decide +kernel
theorem dL_setGloomLimit_16 : decode cL_setGloomLimit 16 = .ok (.ireturn, 1) := by decide +kernel
set_option maxRecDepth 20000 in
theorem ggL_setTideLimit_X9_setTideLimit : GoodIn wsL_setTideLimit wsX9_setTideLimit := goodIn_ca (goodIn_r _ [6, 7, 8, 9, 10, 11, 12, 5, 13, 14, 15, 16, 17, 18, 19, 20, 21, 22, 23, 24, 25, 26, 27, 28, 29, 30, 31, 32, 33, 34, 35, 36, 37, 38, 39, 40, 41, 42, 43, 44, 45, 46, 47, 48, 49, 50, 51, 52, 53, 54, 55, 56, 57, 58, 59, 60, 61, 62, 63, 64, 65, 66, 67, 68, 69, 70, 71, 72, 73, 74, 75, 76, 77, 78, 79, 80, 81, 82, 83, 84, 85, 86, 87, 88, 89, 90, 91, 92, 93, 94, 95, 96, 97, 98, 99, 100, 101, 102, 103, 104] (by decide +kernel) (by decide +kernel)) (goodIn_sub (fun _ h => List.mem_cons_of_mem _ (List.mem_append_right _ h)) (by decide +kernel))
set_option maxRecDepth 20000 in
theorem gL_setTideLimit_X9_setTideLimit : GoodIn wsL_setTideLimit (wsV RL 138 RX9 yX9_setTideLimit wsX9_setTideLimit) := goodIn_app (goodIn_of _ (by decide +kernel)) ggL_setTideLimit_X9_setTideLimit
theorem dL_setTideLimit_0 : decode cL_setTideLimit 0 = .ok (.aload_n 2, 1) := by decide +kernel
theorem dL_setTideLimit_1 : decode cL_setTideLimit 1 = .ok (.iconst 0, 1) := by decide +kernel
theorem dL_setTideLimit_2 : decode cL_setTideLimit 2 = .ok (.aload_n 0, 1) := by decide +kernel
theorem dL_setTideLimit_3 : decode cL_setTideLimit 3 = .ok (.iload_n 1, 1) := by decide +kernel
theorem dL_setTideLimit_4 : decode cL_setTideLimit 4 = .ok (.invokevirtual 138, 3) := by decide +kernel
theorem dL_setTideLimit_7 : decode cL_setTideLimit 7 = .ok (.i2l, 1) := by decide +kernel
theorem dL_setTideLimit_8 : decode cL_setTideLimit 8 = .ok (.lastore, 1) := by decide +kernel
theorem dL_setTideLimit_9 : decode cL_setTideLimit 9 = .ok (.goto 6, 3) := by decide +kernel
theorem dL_setTideLimit_12 : decode cL_setTideLimit 12 = .ok (.astore_n 3, 1) := by decide +kernel
theorem dL_setTideLimit_13 : decode cL_setTideLimit 13 = .ok (.iconst 1, 1) := by decide +kernel
theorem dL_setTideLimit_14 : decode cL_setTideLimit 14 = .ok (.ireturn, 1) := by decide +kernel
theorem dL_setTideLimit_15 : decode cL_setTideLimit 15 = .ok (.iconst 0, 1) := by decide +kernel
theorem dL_setTideLimit_16 : decode cL_setTideLimit 16 = .ok (.ireturn, 1) := by decide +kernel
set_option maxRecDepth 20000 in
theorem ggL_endNights_X9_endNights : GoodIn wsL_endNights wsX9_endNights := goodIn_ca (goodIn_ca (goodIn_r _ [7, 8, 9, 10, 11, 12, 13, 14, 6, 15, 16, 17, 18, 19, 20, 21, 22, 23, 24, 25, 26, 27, 28, 29, 30, 31, 32, 33, 34, 35, 36, 37, 38, 39, 40, 41, 42, 43, 44, 45, 46, 47, 48, 49, 50, 51, 52, 53, 54, 55, 56, 57, 58, 59, 60, 61, 62, 63, 64, 65, 66, 67, 68, 69, 70, 71, 72, 73, 74, 75, 76, 77, 78, 79, 80, 81, 82, 83, 84, 85, 86, 87, 88, 89, 90, 91, 92, 93, 94, 95, 96, 97, 98, 99, 100, 101, 102, 103, 104, 105, 106, 107, 108, 109, 110, 111, 112, 113, 114, 115, 116, 117, 118, 119, 120, 121, 122, 123, 124, 125, 126, 127, 128, 129, 130, 131, 132, 133, 134, 135, 136, 137, 138, 139, 140, 141, 142, 143, 144, 145, 146, 147, 148, 149, 150, 151, 152, 153, 154, 155, 156, 157, 158, 159, 160, 161, 162, 163, 164, 165, 166, 167, 168, 169, 170, 171, 172, 173, 174, 175, 176, 177, 178, 179, 180] (by decide +kernel) (by decide +kernel)) (goodIn_sub (fun _ h => List.mem_cons_of_mem _ (List.mem_append_left _ (List.mem_append_right _ h))) (by decide +kernel))) (goodIn_sub (fun _ h => List.mem_cons_of_mem _ (List.mem_append_right _ h)) (by decide +kernel))
set_option maxRecDepth 20000 in
theorem gL_endNights_X9_endNights : GoodIn wsL_endNights (wsV RL 141 RX9 yX9_endNights wsX9_endNights) := goodIn_app (goodIn_of _ (by decide +kernel)) ggL_endNights_X9_endNights
theorem dL_endNights_0 : decode cL_endNights 0 = .ok (.aload_n 2, 1) := by decide +kernel
theorem dL_endNights_1 : decode cL_endNights 1 = .ok (.iconst 0, 1) := by decide +kernel
theorem dL_endNights_2 : decode cL_endNights 2 = .ok (.aload_n 0, 1) := by decide +kernel
theorem dL_endNights_3 : decode cL_endNights 3 = .ok (.iload_n 1, 1) := by decide +kernel
theorem dL_endNights_4 : decode cL_endNights 4 = .ok (.invokevirtual 141, 3) := by decide +kernel
theorem dL_endNights_7 : decode cL_endNights 7 = .ok (.i2l, 1) := by decide +kernel
theorem dL_endNights_8 : decode cL_endNights 8 = .ok (.lastore, 1) := by decide +kernel
theorem dL_endNights_9 : decode cL_endNights 9 = .ok (.goto 9, 3) := by decide +kernel
theorem dL_endNights_12 : decode cL_endNights 12 = .ok (.astore_n 3, 1) := by decide +kernel
theorem dL_endNights_13 : decode cL_endNights 13 = .ok (.iconst 1, 1) := by decide +kernel
theorem dL_endNights_14 : decode cL_endNights 14 = .ok (.ireturn, 1) := by decide +kernel
theorem dL_endNights_15 : decode cL_endNights 15 = .ok (.astore_n 3, 1) := by decide +kernel
theorem dL_endNights_16 : decode cL_endNights 16 = .ok (.iconst 2, 1) := by decide +kernel
theorem dL_endNights_17 : decode cL_endNights 17 = .ok (.ireturn, 1) := by decide +kernel
theorem dL_endNights_18 : decode cL_endNights 18 = .ok (.iconst 0, 1) := by decide +kernel
theorem dL_endNights_19 : decode cL_endNights 19 = .ok (.ireturn, 1) := by decide +kernel
set_option maxRecDepth 20000 in
theorem ggL_undo_X9_undo : GoodIn wsL_undo wsX9_undo := goodIn_ca (goodIn_r _ [6, 7, 8, 9, 10, 11, 12, 13, 14, 15, 16, 17, 18, 19, 20, 21, 22, 23, 24, 25, 26, 27, 28, 29, 30, 31, 32, 33, 34, 35, 36, 37, 38, 39, 40, 41, 42, 43, 44, 45, 46, 47, 48, 49, 50, 51, 52, 53, 54, 55, 56, 57, 58, 59, 60, 61, 62, 63, 64, 65, 66, 67, 68, 69, 70, 71, 72, 73, 74, 75, 76, 77, 78, 79, 80, 81, 82, 83, 84, 85, 86, 87, 88, 89, 90, 91, 92, 93, 94, 95, 96] (by decide +kernel) (by decide +kernel)) (goodIn_sub (fun _ h => List.mem_cons_of_mem _ (List.mem_append_right _ h)) (by decide +kernel))
set_option maxRecDepth 20000 in
theorem gL_undo_X9_undo : GoodIn wsL_undo (wsV RL 144 RX9 yX9_undo wsX9_undo) := goodIn_app (goodIn_of _ (by decide +kernel)) ggL_undo_X9_undo
theorem dL_undo_0 : decode cL_undo 0 = .ok (.aload_n 1, 1) := by decide +kernel
theorem dL_undo_1 : decode cL_undo 1 = .ok (.iconst 0, 1) := by decide +kernel
theorem dL_undo_2 : decode cL_undo 2 = .ok (.aload_n 0, 1) := by decide +kernel
theorem dL_undo_3 : decode cL_undo 3 = .ok (.invokevirtual 144, 3) := by decide +kernel
theorem dL_undo_6 : decode cL_undo 6 = .ok (.i2l, 1) := by decide +kernel
theorem dL_undo_7 : decode cL_undo 7 = .ok (.lastore, 1) := by decide +kernel
theorem dL_undo_8 : decode cL_undo 8 = .ok (.goto 6, 3) := by decide +kernel
theorem dL_undo_11 : decode cL_undo 11 = .ok (.astore_n 2, 1) := by decide +kernel
theorem dL_undo_12 : decode cL_undo 12 = .ok (.iconst 1, 1) := by decide +kernel
theorem dL_undo_13 : decode cL_undo 13 = .ok (.ireturn, 1) := by decide +kernel
theorem dL_undo_14 : decode cL_undo 14 = .ok (.iconst 0, 1) := by decide +kernel
theorem dL_undo_15 : decode cL_undo 15 = .ok (.ireturn, 1) := by decide +kernel
set_option maxRecDepth 20000 in
theorem ggL_saveSnapshot_X9_saveSnapshot : GoodIn wsL_saveSnapshot wsX9_saveSnapshot := goodIn_ca (goodIn_r _ [6, 7, 8, 9, 10, 11, 5, 12, 13, 14, 15, 16, 17, 18, 19, 20, 21, 22, 23, 24, 25, 26, 27, 28, 29, 30, 31, 32, 33, 34, 35, 36, 37, 38, 39, 40, 41, 42, 43, 44, 45, 46, 47, 48, 49, 50, 51, 52, 53, 54, 55, 56, 57, 58, 59, 60, 61, 62, 63, 64, 65, 66, 67, 68, 69, 70, 71, 72, 73, 74, 75, 76, 77, 78, 79, 80, 81, 82, 83, 84, 85, 86, 87, 88, 89, 90, 91, 92, 93, 94, 95, 96, 97] (by decide +kernel) (by decide +kernel)) (goodIn_sub (fun _ h => List.mem_cons_of_mem _ (List.mem_append_right _ h)) (by decide +kernel))
set_option maxRecDepth 20000 in
theorem gL_saveSnapshot_X9_saveSnapshot : GoodIn wsL_saveSnapshot (wsV RL 147 RX9 yX9_saveSnapshot wsX9_saveSnapshot) := goodIn_app (goodIn_of _ (by decide +kernel)) ggL_saveSnapshot_X9_saveSnapshot
theorem dL_saveSnapshot_0 : decode cL_saveSnapshot 0 = .ok (.aload_n 2, 1) := by decide +kernel
theorem dL_saveSnapshot_1 : decode cL_saveSnapshot 1 = .ok (.iconst 0, 1) := by decide +kernel
theorem dL_saveSnapshot_2 : decode cL_saveSnapshot 2 = .ok (.aload_n 0, 1) := by decide +kernel
theorem dL_saveSnapshot_3 : decode cL_saveSnapshot 3 = .ok (.iload_n 1, 1) := by decide +kernel
theorem dL_saveSnapshot_4 : decode cL_saveSnapshot 4 = .ok (.invokevirtual 147, 3) := by decide +kernel
theorem dL_saveSnapshot_7 : decode cL_saveSnapshot 7 = .ok (.i2l, 1) := by decide +kernel
theorem dL_saveSnapshot_8 : decode cL_saveSnapshot 8 = .ok (.lastore, 1) := by decide +kernel
theorem dL_saveSnapshot_9 : decode cL_saveSnapshot 9 = .ok (.goto 6, 3) := by decide +kernel
theorem dL_saveSnapshot_12 : decode cL_saveSnapshot 12 = .ok (.astore_n 3, 1) := by decide +kernel
theorem dL_saveSnapshot_13 : decode cL_saveSnapshot 13 = .ok (.iconst 1, 1) := by decide +kernel
theorem dL_saveSnapshot_14 : decode cL_saveSnapshot 14 = .ok (.ireturn, 1) := by decide +kernel
theorem dL_saveSnapshot_15 : decode cL_saveSnapshot 15 = .ok (.iconst 0, 1) := by decide +kernel
theorem dL_saveSnapshot_16 : decode cL_saveSnapshot 16 = .ok (.ireturn, 1) := by decide +kernel
set_option maxRecDepth 20000 in
theorem ggL_restoreSnapshot_X9_restoreSnapshot : GoodIn wsL_restoreSnapshot wsX9_restoreSnapshot := goodIn_ca (goodIn_ca (goodIn_r _ [7, 8, 9, 10, 11, 12, 13, 14, 15, 16, 17, 6, 18, 19, 20, 21, 22, 23, 24, 25, 26, 27, 28, 29, 30, 31, 32, 33, 34, 35, 36, 37, 38, 39, 40, 41, 42, 43, 44, 45, 46, 47, 48, 49, 50, 51, 52, 53, 54, 55, 56, 57, 58, 59, 60, 61, 62, 63, 64, 65, 66, 67, 68, 69, 70, 71, 72, 73, 74, 75, 76, 77, 78, 79, 80, 81, 82, 83, 84, 85, 86, 87, 88, 89, 90, 91, 92, 93, 94, 95, 96, 97, 98, 99, 100, 101, 102, 103, 104, 105, 106, 107, 108, 109, 110, 111, 112] (by decide +kernel) (by decide +kernel)) (goodIn_sub (fun _ h => List.mem_cons_of_mem _ (List.mem_append_left _ (List.mem_append_right _ h))) (by decide +kernel))) (goodIn_sub (fun _ h => List.mem_cons_of_mem _ (List.mem_append_right _ h)) (by decide +kernel))
set_option maxRecDepth 20000 in
theorem gL_restoreSnapshot_X9_restoreSnapshot : GoodIn wsL_restoreSnapshot (wsV RL 150 RX9 yX9_restoreSnapshot wsX9_restoreSnapshot) := goodIn_app (goodIn_of _ (by decide +kernel)) ggL_restoreSnapshot_X9_restoreSnapshot
theorem dL_restoreSnapshot_0 : decode cL_restoreSnapshot 0 = .ok (.aload_n 2, 1) := by decide +kernel
theorem dL_restoreSnapshot_1 : decode cL_restoreSnapshot 1 = .ok (.iconst 0, 1) := by decide +kernel
theorem dL_restoreSnapshot_2 : decode cL_restoreSnapshot 2 = .ok (.aload_n 0, 1) := by decide +kernel
theorem dL_restoreSnapshot_3 : decode cL_restoreSnapshot 3 = .ok (.iload_n 1, 1) := by decide +kernel
theorem dL_restoreSnapshot_4 : decode cL_restoreSnapshot 4 = .ok (.invokevirtual 150, 3) := by decide +kernel
theorem dL_restoreSnapshot_7 : decode cL_restoreSnapshot 7 = .ok (.i2l, 1) := by decide +kernel
theorem dL_restoreSnapshot_8 : decode cL_restoreSnapshot 8 = .ok (.lastore, 1) := by decide +kernel
theorem dL_restoreSnapshot_9 : decode cL_restoreSnapshot 9 = .ok (.goto 9, 3) := by decide +kernel
theorem dL_restoreSnapshot_12 : decode cL_restoreSnapshot 12 = .ok (.astore_n 3, 1) := by decide +kernel
theorem dL_restoreSnapshot_13 : decode cL_restoreSnapshot 13 = .ok (.iconst 1, 1) := by decide +kernel
theorem dL_restoreSnapshot_14 : decode cL_restoreSnapshot 14 = .ok (.ireturn, 1) := by decide +kernel
theorem dL_restoreSnapshot_15 : decode cL_restoreSnapshot 15 = .ok (.astore_n 3, 1) := by decide +kernel
theorem dL_restoreSnapshot_16 : decode cL_restoreSnapshot 16 = .ok (.iconst 2, 1) := by decide +kernel
theorem dL_restoreSnapshot_17 : decode cL_restoreSnapshot 17 = .ok (.ireturn, 1) := by decide +kernel
theorem dL_restoreSnapshot_18 : decode cL_restoreSnapshot 18 = .ok (.iconst 0, 1) := by decide +kernel
theorem dL_restoreSnapshot_19 : decode cL_restoreSnapshot 19 = .ok (.ireturn, 1) := by decide +kernel
set_option maxRecDepth 20000 in
theorem ggL_writeComplaints_X9_writeComplaints : GoodIn wsL_writeComplaints wsX9_writeComplaints := goodIn_ca (goodIn_r _ [6, 7, 8, 9, 10, 11, 12, 13, 14, 15, 5, 16, 17, 18, 19, 20, 21, 22, 23, 24, 25, 26, 27, 28, 29, 30, 31, 32, 33, 34, 35, 36, 37, 38, 39, 40, 41, 42, 43, 44, 45, 46, 47, 48, 49, 50, 51, 52] (by decide +kernel) (by decide +kernel)) (goodIn_sub (fun _ h => List.mem_cons_of_mem _ (List.mem_append_right _ h)) (by decide +kernel))
set_option maxRecDepth 20000 in
theorem gL_writeComplaints_X9_writeComplaints : GoodIn wsL_writeComplaints (wsV RL 153 RX9 yX9_writeComplaints wsX9_writeComplaints) := goodIn_app (goodIn_of _ (by decide +kernel)) ggL_writeComplaints_X9_writeComplaints
theorem dL_writeComplaints_0 : decode cL_writeComplaints 0 = .ok (.aload_n 2, 1) := by decide +kernel
theorem dL_writeComplaints_1 : decode cL_writeComplaints 1 = .ok (.iconst 0, 1) := by decide +kernel
theorem dL_writeComplaints_2 : decode cL_writeComplaints 2 = .ok (.aload_n 0, 1) := by decide +kernel
theorem dL_writeComplaints_3 : decode cL_writeComplaints 3 = .ok (.iload_n 1, 1) := by decide +kernel
theorem dL_writeComplaints_4 : decode cL_writeComplaints 4 = .ok (.invokevirtual 153, 3) := by decide +kernel
theorem dL_writeComplaints_7 : decode cL_writeComplaints 7 = .ok (.i2l, 1) := by decide +kernel
theorem dL_writeComplaints_8 : decode cL_writeComplaints 8 = .ok (.lastore, 1) := by decide +kernel
theorem dL_writeComplaints_9 : decode cL_writeComplaints 9 = .ok (.goto 6, 3) := by decide +kernel
theorem dL_writeComplaints_12 : decode cL_writeComplaints 12 = .ok (.astore_n 3, 1) := by decide +kernel
theorem dL_writeComplaints_13 : decode cL_writeComplaints 13 = .ok (.iconst 1, 1) := by decide +kernel
theorem dL_writeComplaints_14 : decode cL_writeComplaints 14 = .ok (.ireturn, 1) := by decide +kernel
theorem dL_writeComplaints_15 : decode cL_writeComplaints 15 = .ok (.iconst 0, 1) := by decide +kernel
theorem dL_writeComplaints_16 : decode cL_writeComplaints 16 = .ok (.ireturn, 1) := by decide +kernel
set_option maxRecDepth 20000 in
theorem ggL_writtenByte_X9_writtenByte : GoodIn wsL_writtenByte wsX9_writtenByte := goodIn_ca (goodIn_r _ [6, 7, 8, 9, 10, 11, 12, 13, 14, 15, 16, 17, 18, 19] (by decide +kernel) (by decide +kernel)) (goodIn_sub (fun _ h => List.mem_cons_of_mem _ (List.mem_append_right _ h)) (by decide +kernel))
set_option maxRecDepth 20000 in
theorem gL_writtenByte_X9_writtenByte : GoodIn wsL_writtenByte (wsV RL 156 RX9 yX9_writtenByte wsX9_writtenByte) := goodIn_app (goodIn_of _ (by decide +kernel)) ggL_writtenByte_X9_writtenByte
theorem dL_writtenByte_0 : decode cL_writtenByte 0 = .ok (.aload_n 2, 1) := by decide +kernel
theorem dL_writtenByte_1 : decode cL_writtenByte 1 = .ok (.iconst 0, 1) := by decide +kernel
theorem dL_writtenByte_2 : decode cL_writtenByte 2 = .ok (.aload_n 0, 1) := by decide +kernel
theorem dL_writtenByte_3 : decode cL_writtenByte 3 = .ok (.iload_n 1, 1) := by decide +kernel
theorem dL_writtenByte_4 : decode cL_writtenByte 4 = .ok (.invokevirtual 156, 3) := by decide +kernel
theorem dL_writtenByte_7 : decode cL_writtenByte 7 = .ok (.i2l, 1) := by decide +kernel
theorem dL_writtenByte_8 : decode cL_writtenByte 8 = .ok (.lastore, 1) := by decide +kernel
theorem dL_writtenByte_9 : decode cL_writtenByte 9 = .ok (.goto 6, 3) := by decide +kernel
theorem dL_writtenByte_12 : decode cL_writtenByte 12 = .ok (.astore_n 3, 1) := by decide +kernel
theorem dL_writtenByte_13 : decode cL_writtenByte 13 = .ok (.iconst 1, 1) := by decide +kernel
theorem dL_writtenByte_14 : decode cL_writtenByte 14 = .ok (.ireturn, 1) := by decide +kernel
theorem dL_writtenByte_15 : decode cL_writtenByte 15 = .ok (.iconst 0, 1) := by decide +kernel
theorem dL_writtenByte_16 : decode cL_writtenByte 16 = .ok (.ireturn, 1) := by decide +kernel
