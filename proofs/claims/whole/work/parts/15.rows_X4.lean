theorem dX4_init_0 : decode cX4_init 0 = .ok (.aload_n 0, 1) := by decide +kernel
theorem dX4_init_1 : decode cX4_init 1 = .ok (.invokespecial 1, 3) := by decide +kernel
theorem dX4_init_4 : decode cX4_init 4 = .ok (.aload_n 0, 1) := by decide +kernel
theorem dX4_init_5 : decode cX4_init 5 = .ok (.aload_n 1, 1) := by decide +kernel
theorem dX4_init_6 : decode cX4_init 6 = .ok (.putfield 7, 3) := by decide +kernel
theorem dX4_init_9 : decode cX4_init 9 = .ok (.aload_n 0, 1) := by decide +kernel
theorem dX4_init_10 : decode cX4_init 10 = .ok (.aload_n 2, 1) := by decide +kernel
theorem dX4_init_11 : decode cX4_init 11 = .ok (.putfield 13, 3) := by decide +kernel
theorem dX4_init_14 : decode cX4_init 14 = .ok (.return_, 1) := by decide +kernel
set_option maxRecDepth 20000 in
theorem ggX4_faultPlace_X6_start : GoodIn wsX4_faultPlace wsX6_start := goodIn_r _ [7, 8, 9, 10, 11, 12, 13, 14, 15, 19, 20, 21, 22, 23, 24, 25, 26] (by decide +kernel) (by decide +kernel)
set_option maxRecDepth 20000 in
theorem gX4_faultPlace_X6_start : GoodIn wsX4_faultPlace (wsV RX4 21 RX6 yX6_start wsX6_start) := goodIn_app (goodIn_of _ (by decide +kernel)) ggX4_faultPlace_X6_start
theorem dX4_faultPlace_0 : decode cX4_faultPlace 0 = .ok (.aload_n 0, 1) := by decide +kernel
theorem dX4_faultPlace_1 : decode cX4_faultPlace 1 = .ok (.getfield 7, 3) := by decide +kernel
theorem dX4_faultPlace_4 : decode cX4_faultPlace 4 = .ok (.aload_n 0, 1) := by decide +kernel
theorem dX4_faultPlace_5 : decode cX4_faultPlace 5 = .ok (.getfield 17, 3) := by decide +kernel
theorem dX4_faultPlace_8 : decode cX4_faultPlace 8 = .ok (.invokevirtual 21, 3) := by decide +kernel
theorem dX4_faultPlace_11 : decode cX4_faultPlace 11 = .ok (.ireturn, 1) := by decide +kernel
set_option maxRecDepth 20000 in
theorem ggX4_translate_X3_clear : GoodIn wsX4_translate wsX3_clear := goodIn_r _ [8, 9, 10, 11, 12, 13, 14, 15, 16, 17, 18, 19, 20, 21, 22, 156, 157, 158, 159, 160, 161, 162, 163, 164, 165, 166] (by decide +kernel) (by decide +kernel)
set_option maxRecDepth 20000 in
theorem gX4_translate_X3_clear : GoodIn wsX4_translate (wsV RX4 27 RX3 yX3_clear wsX3_clear) := goodIn_app (goodIn_of _ (by decide +kernel)) ggX4_translate_X3_clear
set_option maxRecDepth 20000 in
theorem ggX4_translate_X6_size : GoodIn wsX4_translate wsX6_size := goodIn_r _ [27, 28, 29, 30, 31, 20, 32, 22, 167, 168, 169, 170, 171, 164, 165, 166] (by decide +kernel) (by decide +kernel)
set_option maxRecDepth 20000 in
theorem gX4_translate_X6_size : GoodIn wsX4_translate (wsV RX4 32 RX6 yX6_size wsX6_size) := goodIn_app (goodIn_of _ (by decide +kernel)) ggX4_translate_X6_size
set_option maxRecDepth 20000 in
theorem ggX4_translate_X3_beginLine : GoodIn wsX4_translate wsX3_beginLine := goodIn_r _ [36, 10, 9, 11, 12, 13, 14, 15, 16, 37, 30, 31, 20, 32, 22, 38, 39, 40, 41, 42, 43, 44, 45, 46, 47, 48, 49, 50, 51, 52, 53, 54, 55, 56, 57, 58, 59, 60, 61, 62, 156, 157, 158, 159, 160, 161, 162, 163, 164, 165, 166] (by decide +kernel) (by decide +kernel)
set_option maxRecDepth 20000 in
theorem gX4_translate_X3_beginLine : GoodIn wsX4_translate (wsV RX4 36 RX3 yX3_beginLine wsX3_beginLine) := goodIn_app (goodIn_of _ (by decide +kernel)) ggX4_translate_X3_beginLine
set_option maxRecDepth 20000 in
theorem ggX4_translate_X4_label : GoodIn wsX4_translate wsX4_label := goodIn_r _ [67, 1, 3, 2, 68, 69, 70, 66, 71, 72, 73, 74, 26, 75, 28, 76, 77, 78, 20, 79, 22, 43, 80, 81, 82, 83, 84, 85, 86, 87, 88, 89, 90, 91, 92, 7, 93, 12, 13, 94, 95, 96, 97, 10, 37, 30, 31, 32, 98, 99, 100, 101, 153, 154, 155, 167, 168, 169, 170, 171, 164, 165, 166, 156, 157, 158, 159, 160, 161, 162, 163] (by decide +kernel) (by decide +kernel)
set_option maxRecDepth 20000 in
theorem gX4_translate_X4_label : GoodIn wsX4_translate (wsV RX4 39 RX4 yX4_label wsX4_label) := goodIn_app (goodIn_of _ (by decide +kernel)) ggX4_translate_X4_label
set_option maxRecDepth 20000 in
theorem ggX4_translate_X4_rest : GoodIn wsX4_translate wsX4_rest := goodIn_r _ [105, 3, 2, 72, 73, 74, 26, 75, 28, 76, 77, 78, 20, 79, 22, 43, 106, 107, 108, 66, 109, 110, 111, 112, 113, 1, 80, 81, 82, 83, 84, 114, 39, 40, 41, 42, 44, 45, 46, 47, 48, 49, 50, 51, 52, 53, 54, 55, 56, 57, 58, 59, 60, 61, 62, 115, 116, 117, 118, 68, 69, 70, 71, 119, 120, 121, 122, 123, 124, 125, 126, 127, 128, 129, 130, 131, 132, 133, 134, 135, 136, 137, 138, 139, 140, 141, 142, 143, 144, 145, 146, 147, 148, 85, 86, 87, 88, 89, 149, 150, 151, 7, 152, 11, 14, 15, 94, 95, 96, 97, 10, 37, 30, 31, 32, 98, 99, 100, 101, 153, 154, 155, 167, 168, 169, 170, 171, 164, 165, 166, 156, 157, 158, 159, 160, 161, 162, 163] (by decide +kernel) (by decide +kernel)
set_option maxRecDepth 20000 in
theorem gX4_translate_X4_rest : GoodIn wsX4_translate (wsV RX4 43 RX4 yX4_rest wsX4_rest) := goodIn_app (goodIn_of _ (by decide +kernel)) ggX4_translate_X4_rest
set_option maxRecDepth 20000 in
theorem ggX4_translate_X4_take : GoodIn wsX4_translate wsX4_take := goodIn_r _ [71, 3, 2, 72, 73, 74, 26, 75, 28, 76, 77, 78, 20, 79, 22, 43, 153, 154, 155, 167, 168, 169, 170, 171, 164, 165, 166] (by decide +kernel) (by decide +kernel)
set_option maxRecDepth 20000 in
theorem gX4_translate_X4_take : GoodIn wsX4_translate (wsV RX4 48 RX4 yX4_take wsX4_take) := goodIn_app (goodIn_of _ (by decide +kernel)) ggX4_translate_X4_take
theorem dX4_translate_0 : decode cX4_translate 0 = .ok (.aload_n 0, 1) := by decide +kernel
theorem dX4_translate_1 : decode cX4_translate 1 = .ok (.aload_n 1, 1) := by decide +kernel
theorem dX4_translate_2 : decode cX4_translate 2 = .ok (.putfield 13, 3) := by decide +kernel
theorem dX4_translate_5 : decode cX4_translate 5 = .ok (.aload_n 0, 1) := by decide +kernel
theorem dX4_translate_6 : decode cX4_translate 6 = .ok (.getfield 13, 3) := by decide +kernel
theorem dX4_translate_9 : decode cX4_translate 9 = .ok (.invokevirtual 27, 3) := by decide +kernel
theorem dX4_translate_12 : decode cX4_translate 12 = .ok (.aload_n 0, 1) := by decide +kernel
theorem dX4_translate_13 : decode cX4_translate 13 = .ok (.iconst 0, 1) := by decide +kernel
theorem dX4_translate_14 : decode cX4_translate 14 = .ok (.putfield 17, 3) := by decide +kernel
theorem dX4_translate_17 : decode cX4_translate 17 = .ok (.iconst 0, 1) := by decide +kernel
theorem dX4_translate_18 : decode cX4_translate 18 = .ok (.istore_n 2, 1) := by decide +kernel
theorem dX4_translate_19 : decode cX4_translate 19 = .ok (.iload_n 2, 1) := by decide +kernel
theorem dX4_translate_20 : decode cX4_translate 20 = .ok (.sipush 8000, 3) := by decide +kernel
theorem dX4_translate_23 : decode cX4_translate 23 = .ok (.if_icmp .gt 55, 3) := by decide +kernel
theorem dX4_translate_26 : decode cX4_translate 26 = .ok (.aload_n 0, 1) := by decide +kernel
theorem dX4_translate_27 : decode cX4_translate 27 = .ok (.getfield 17, 3) := by decide +kernel
theorem dX4_translate_30 : decode cX4_translate 30 = .ok (.aload_n 0, 1) := by decide +kernel
theorem dX4_translate_31 : decode cX4_translate 31 = .ok (.getfield 7, 3) := by decide +kernel
theorem dX4_translate_34 : decode cX4_translate 34 = .ok (.invokevirtual 32, 3) := by decide +kernel
theorem dX4_translate_37 : decode cX4_translate 37 = .ok (.if_icmp .ge 41, 3) := by decide +kernel
theorem dX4_translate_40 : decode cX4_translate 40 = .ok (.aload_n 0, 1) := by decide +kernel
theorem dX4_translate_41 : decode cX4_translate 41 = .ok (.getfield 13, 3) := by decide +kernel
theorem dX4_translate_44 : decode cX4_translate 44 = .ok (.invokevirtual 36, 3) := by decide +kernel
theorem dX4_translate_47 : decode cX4_translate 47 = .ok (.aload_n 0, 1) := by decide +kernel
theorem dX4_translate_48 : decode cX4_translate 48 = .ok (.invokevirtual 39, 3) := by decide +kernel
theorem dX4_translate_51 : decode cX4_translate 51 = .ok (.ifCond .eq 19, 3) := by decide +kernel
theorem dX4_translate_54 : decode cX4_translate 54 = .ok (.aload_n 0, 1) := by decide +kernel
theorem dX4_translate_55 : decode cX4_translate 55 = .ok (.invokevirtual 43, 3) := by decide +kernel
theorem dX4_translate_58 : decode cX4_translate 58 = .ok (.ifCond .eq 12, 3) := by decide +kernel
theorem dX4_translate_61 : decode cX4_translate 61 = .ok (.aload_n 0, 1) := by decide +kernel
theorem dX4_translate_62 : decode cX4_translate 62 = .ok (.bipush 10, 2) := by decide +kernel
theorem dX4_translate_64 : decode cX4_translate 64 = .ok (.invokevirtual 48, 3) := by decide +kernel
theorem dX4_translate_67 : decode cX4_translate 67 = .ok (.ifCond .ne 5, 3) := by decide +kernel
theorem dX4_translate_70 : decode cX4_translate 70 = .ok (.iconst 0, 1) := by decide +kernel
theorem dX4_translate_71 : decode cX4_translate 71 = .ok (.ireturn, 1) := by decide +kernel
theorem dX4_translate_72 : decode cX4_translate 72 = .ok (.iinc 2 1, 3) := by decide +kernel
theorem dX4_translate_75 : decode cX4_translate 75 = .ok (.goto (-56), 3) := by decide +kernel
theorem dX4_translate_78 : decode cX4_translate 78 = .ok (.iconst 1, 1) := by decide +kernel
theorem dX4_translate_79 : decode cX4_translate 79 = .ok (.ireturn, 1) := by decide +kernel
set_option maxRecDepth 20000 in
theorem ggX4_label_X4_take : GoodIn wsX4_label wsX4_take := goodIn_r _ [8, 2, 3, 9, 10, 11, 12, 13, 14, 15, 16, 17, 18, 19, 20, 21, 52, 53, 54, 55, 56, 57, 58, 59, 60, 61, 62] (by decide +kernel) (by decide +kernel)
set_option maxRecDepth 20000 in
theorem gX4_label_X4_take : GoodIn wsX4_label (wsV RX4 48 RX4 yX4_take wsX4_take) := goodIn_app (goodIn_of _ (by decide +kernel)) ggX4_label_X4_take
set_option maxRecDepth 20000 in
theorem ggX4_label_X6_worth : GoodIn wsX4_label wsX6_worth := goodIn_r _ [25, 26, 15, 16, 17, 18, 19, 20, 21, 55, 56, 57, 58, 59, 60, 61, 62] (by decide +kernel) (by decide +kernel)
set_option maxRecDepth 20000 in
theorem gX4_label_X6_worth : GoodIn wsX4_label (wsV RX4 52 RX6 yX6_worth wsX6_worth) := goodIn_app (goodIn_of _ (by decide +kernel)) ggX4_label_X6_worth
set_option maxRecDepth 20000 in
theorem ggX4_label_X6_start : GoodIn wsX4_label wsX6_start := goodIn_r _ [30, 31, 15, 16, 17, 18, 19, 20, 21, 55, 56, 57, 58, 59, 60, 61, 62] (by decide +kernel) (by decide +kernel)
set_option maxRecDepth 20000 in
theorem gX4_label_X6_start : GoodIn wsX4_label (wsV RX4 21 RX6 yX6_start wsX6_start) := goodIn_app (goodIn_of _ (by decide +kernel)) ggX4_label_X6_start
set_option maxRecDepth 20000 in
theorem ggX4_label_X3_labelLine : GoodIn wsX4_label wsX3_labelLine := goodIn_r _ [36, 37, 38, 39, 40, 41, 35, 42, 43, 44, 45, 46, 18, 47, 20, 48, 49, 50, 51, 21, 63, 64, 65, 66, 67, 68, 69, 70, 60, 61, 62] (by decide +kernel) (by decide +kernel)
set_option maxRecDepth 20000 in
theorem gX4_label_X3_labelLine : GoodIn wsX4_label (wsV RX4 55 RX3 yX3_labelLine wsX3_labelLine) := goodIn_app (goodIn_of _ (by decide +kernel)) ggX4_label_X3_labelLine
theorem dX4_label_0 : decode cX4_label 0 = .ok (.aload_n 0, 1) := by decide +kernel
theorem dX4_label_1 : decode cX4_label 1 = .ok (.bipush 78, 2) := by decide +kernel
theorem dX4_label_3 : decode cX4_label 3 = .ok (.invokevirtual 48, 3) := by decide +kernel
theorem dX4_label_6 : decode cX4_label 6 = .ok (.ifCond .ne 5, 3) := by decide +kernel
theorem dX4_label_9 : decode cX4_label 9 = .ok (.iconst 1, 1) := by decide +kernel
theorem dX4_label_10 : decode cX4_label 10 = .ok (.ireturn, 1) := by decide +kernel
theorem dX4_label_11 : decode cX4_label 11 = .ok (.aload_n 0, 1) := by decide +kernel
theorem dX4_label_12 : decode cX4_label 12 = .ok (.getfield 13, 3) := by decide +kernel
theorem dX4_label_15 : decode cX4_label 15 = .ok (.aload_n 0, 1) := by decide +kernel
theorem dX4_label_16 : decode cX4_label 16 = .ok (.getfield 7, 3) := by decide +kernel
theorem dX4_label_19 : decode cX4_label 19 = .ok (.aload_n 0, 1) := by decide +kernel
theorem dX4_label_20 : decode cX4_label 20 = .ok (.getfield 17, 3) := by decide +kernel
theorem dX4_label_23 : decode cX4_label 23 = .ok (.invokevirtual 52, 3) := by decide +kernel
theorem dX4_label_26 : decode cX4_label 26 = .ok (.aload_n 0, 1) := by decide +kernel
theorem dX4_label_27 : decode cX4_label 27 = .ok (.getfield 7, 3) := by decide +kernel
theorem dX4_label_30 : decode cX4_label 30 = .ok (.aload_n 0, 1) := by decide +kernel
theorem dX4_label_31 : decode cX4_label 31 = .ok (.getfield 17, 3) := by decide +kernel
theorem dX4_label_34 : decode cX4_label 34 = .ok (.invokevirtual 21, 3) := by decide +kernel
theorem dX4_label_37 : decode cX4_label 37 = .ok (.invokevirtual 55, 3) := by decide +kernel
theorem dX4_label_40 : decode cX4_label 40 = .ok (.aload_n 0, 1) := by decide +kernel
theorem dX4_label_41 : decode cX4_label 41 = .ok (.sipush 256, 3) := by decide +kernel
theorem dX4_label_44 : decode cX4_label 44 = .ok (.invokevirtual 48, 3) := by decide +kernel
theorem dX4_label_47 : decode cX4_label 47 = .ok (.ireturn, 1) := by decide +kernel
set_option maxRecDepth 20000 in
theorem ggX4_rest_X6_kind : GoodIn wsX4_rest wsX6_kind := goodIn_r _ [7, 8, 9, 10, 11, 12, 13, 14, 15, 122, 123, 124, 125, 126, 127, 128, 129] (by decide +kernel) (by decide +kernel)
set_option maxRecDepth 20000 in
theorem gX4_rest_X6_kind : GoodIn wsX4_rest (wsV RX4 59 RX6 yX6_kind wsX6_kind) := goodIn_app (goodIn_of _ (by decide +kernel)) ggX4_rest_X6_kind
set_option maxRecDepth 20000 in
theorem ggX4_rest_X4_placePart : GoodIn wsX4_rest wsX4_placePart := goodIn_r _ [20, 1, 2, 3, 4, 5, 6, 7, 8, 9, 10, 11, 12, 13, 14, 15, 21, 22, 23, 19, 24, 25, 26, 27, 28, 29, 30, 31, 32, 33, 34, 35, 36, 37, 38, 39, 40, 41, 42, 43, 44, 45, 46, 47, 48, 49, 50, 51, 52, 53, 54, 55, 56, 57, 58, 59, 60, 61, 62, 63, 64, 65, 66, 67, 68, 69, 70, 71, 72, 73, 16, 17, 18, 74, 75, 76, 77, 78, 79, 80, 81, 82, 83, 84, 85, 86, 87, 88, 119, 120, 121, 122, 123, 124, 125, 126, 127, 128, 129, 130, 131, 132, 133, 134, 135, 136, 137] (by decide +kernel) (by decide +kernel)
set_option maxRecDepth 20000 in
theorem gX4_rest_X4_placePart : GoodIn wsX4_rest (wsV RX4 62 RX4 yX4_placePart wsX4_placePart) := goodIn_app (goodIn_of _ (by decide +kernel)) ggX4_rest_X4_placePart
set_option maxRecDepth 20000 in
theorem ggX4_rest_X4_write : GoodIn wsX4_rest wsX4_write := goodIn_r _ [73, 25, 31, 32, 33, 12, 34, 14, 35, 15, 36, 37, 38, 39, 40, 41, 42, 43, 44, 45, 46, 47, 48, 49, 50, 51, 52, 53, 54, 119, 120, 121, 130, 131, 132, 133, 134, 135, 136, 137, 127, 128, 129] (by decide +kernel) (by decide +kernel)
set_option maxRecDepth 20000 in
theorem gX4_rest_X4_write : GoodIn wsX4_rest (wsV RX4 65 RX4 yX4_write wsX4_write) := goodIn_app (goodIn_of _ (by decide +kernel)) ggX4_rest_X4_write
set_option maxRecDepth 20000 in
theorem ggX4_rest_X4_take : GoodIn wsX4_rest wsX4_take := goodIn_r _ [62, 1, 2, 3, 4, 5, 6, 7, 8, 9, 10, 11, 12, 13, 14, 15, 119, 120, 121, 122, 123, 124, 125, 126, 127, 128, 129] (by decide +kernel) (by decide +kernel)
set_option maxRecDepth 20000 in
theorem gX4_rest_X4_take : GoodIn wsX4_rest (wsV RX4 48 RX4 yX4_take wsX4_take) := goodIn_app (goodIn_of _ (by decide +kernel)) ggX4_rest_X4_take
set_option maxRecDepth 20000 in
theorem ggX4_rest_X4_sum : GoodIn wsX4_rest wsX4_sum := goodIn_r _ [78, 1, 2, 79, 80, 81, 19, 3, 4, 5, 6, 7, 8, 9, 10, 11, 12, 13, 14, 15, 82, 83, 84, 70, 71, 72, 73, 25, 31, 32, 33, 34, 35, 36, 37, 38, 39, 40, 41, 42, 43, 44, 45, 46, 47, 48, 49, 50, 51, 52, 53, 54, 58, 59, 60, 61, 62, 63, 64, 65, 66, 67, 68, 69, 55, 56, 57, 16, 17, 18, 21, 22, 23, 24, 26, 27, 28, 29, 30, 20, 74, 75, 76, 77, 85, 86, 87, 88, 119, 120, 121, 122, 123, 124, 125, 126, 127, 128, 129, 130, 131, 132, 133, 134, 135, 136, 137] (by decide +kernel) (by decide +kernel)
set_option maxRecDepth 20000 in
theorem gX4_rest_X4_sum : GoodIn wsX4_rest (wsV RX4 68 RX4 yX4_sum wsX4_sum) := goodIn_app (goodIn_of _ (by decide +kernel)) ggX4_rest_X4_sum
set_option maxRecDepth 20000 in
theorem ggX4_rest_X4_bracket : GoodIn wsX4_rest wsX4_bracket := goodIn_r _ [58, 59, 60, 61, 19, 62, 1, 2, 3, 4, 5, 6, 7, 8, 9, 10, 11, 12, 13, 14, 15, 63, 64, 65, 66, 67, 68, 69, 70, 71, 72, 73, 25, 31, 32, 33, 34, 35, 36, 37, 38, 39, 40, 41, 42, 43, 44, 45, 46, 47, 48, 49, 50, 51, 52, 53, 54, 55, 56, 57, 16, 17, 18, 21, 22, 23, 24, 26, 27, 28, 29, 30, 20, 74, 75, 76, 77, 78, 79, 80, 81, 82, 83, 84, 85, 86, 87, 88, 119, 120, 121, 122, 123, 124, 125, 126, 127, 128, 129, 130, 131, 132, 133, 134, 135, 136, 137] (by decide +kernel) (by decide +kernel)
set_option maxRecDepth 20000 in
theorem gX4_rest_X4_bracket : GoodIn wsX4_rest (wsV RX4 71 RX4 yX4_bracket wsX4_bracket) := goodIn_app (goodIn_of _ (by decide +kernel)) ggX4_rest_X4_bracket
set_option maxRecDepth 20000 in
theorem ggX4_rest_X4_numberOf : GoodIn wsX4_rest wsX4_numberOf := goodIn_r _ [92, 25, 1, 2, 26, 27, 28, 6, 29, 30, 9, 10, 11, 12, 13, 14, 15, 93, 94, 95, 96, 97, 98, 99, 100, 101, 102, 103, 104, 105, 106, 107, 108, 109, 110, 111, 112, 113, 114, 115, 116, 117, 118, 59, 60, 61, 19, 62, 3, 4, 5, 7, 8, 119, 120, 121, 122, 123, 124, 125, 126, 127, 128, 129, 130, 131, 132, 133, 134, 135, 136, 137] (by decide +kernel) (by decide +kernel)
set_option maxRecDepth 20000 in
theorem gX4_rest_X4_numberOf : GoodIn wsX4_rest (wsV RX4 74 RX4 yX4_numberOf wsX4_numberOf) := goodIn_app (goodIn_of _ (by decide +kernel)) ggX4_rest_X4_numberOf
theorem dX4_rest_0 : decode cX4_rest 0 = .ok (.aload_n 0, 1) := by decide +kernel
theorem dX4_rest_1 : decode cX4_rest 1 = .ok (.getfield 7, 3) := by decide +kernel
theorem dX4_rest_4 : decode cX4_rest 4 = .ok (.aload_n 0, 1) := by decide +kernel
theorem dX4_rest_5 : decode cX4_rest 5 = .ok (.getfield 17, 3) := by decide +kernel
theorem dX4_rest_8 : decode cX4_rest 8 = .ok (.invokevirtual 59, 3) := by decide +kernel
theorem dX4_rest_11 : decode cX4_rest 11 = .ok (.istore_n 1, 1) := by decide +kernel
theorem dX4_rest_12 : decode cX4_rest 12 = .ok (.iload_n 1, 1) := by decide +kernel
theorem dX4_rest_13 : decode cX4_rest 13 = .ok (.lookupswitch 208 #[(35, 51), (300, 108), (301, 192), (302, 150), (304, 192)], 51) := by decide +kernel
theorem dX4_rest_64 : decode cX4_rest 64 = .ok (.aload_n 0, 1) := by decide +kernel
theorem dX4_rest_65 : decode cX4_rest 65 = .ok (.dup, 1) := by decide +kernel
theorem dX4_rest_66 : decode cX4_rest 66 = .ok (.getfield 17, 3) := by decide +kernel
theorem dX4_rest_69 : decode cX4_rest 69 = .ok (.iconst 1, 1) := by decide +kernel
theorem dX4_rest_70 : decode cX4_rest 70 = .ok (.iadd, 1) := by decide +kernel
theorem dX4_rest_71 : decode cX4_rest 71 = .ok (.putfield 17, 3) := by decide +kernel
theorem dX4_rest_74 : decode cX4_rest 74 = .ok (.aload_n 0, 1) := by decide +kernel
theorem dX4_rest_75 : decode cX4_rest 75 = .ok (.iconst 0, 1) := by decide +kernel
theorem dX4_rest_76 : decode cX4_rest 76 = .ok (.invokevirtual 62, 3) := by decide +kernel
theorem dX4_rest_79 : decode cX4_rest 79 = .ok (.ifCond .eq 40, 3) := by decide +kernel
theorem dX4_rest_82 : decode cX4_rest 82 = .ok (.aload_n 0, 1) := by decide +kernel
theorem dX4_rest_83 : decode cX4_rest 83 = .ok (.iconst 3, 1) := by decide +kernel
theorem dX4_rest_84 : decode cX4_rest 84 = .ok (.invokevirtual 65, 3) := by decide +kernel
theorem dX4_rest_87 : decode cX4_rest 87 = .ok (.ifCond .eq 32, 3) := by decide +kernel
theorem dX4_rest_90 : decode cX4_rest 90 = .ok (.aload_n 0, 1) := by decide +kernel
theorem dX4_rest_91 : decode cX4_rest 91 = .ok (.bipush 61, 2) := by decide +kernel
theorem dX4_rest_93 : decode cX4_rest 93 = .ok (.invokevirtual 48, 3) := by decide +kernel
theorem dX4_rest_96 : decode cX4_rest 96 = .ok (.ifCond .eq 23, 3) := by decide +kernel
theorem dX4_rest_99 : decode cX4_rest 99 = .ok (.aload_n 0, 1) := by decide +kernel
theorem dX4_rest_100 : decode cX4_rest 100 = .ok (.iconst 0, 1) := by decide +kernel
theorem dX4_rest_101 : decode cX4_rest 101 = .ok (.invokevirtual 68, 3) := by decide +kernel
theorem dX4_rest_104 : decode cX4_rest 104 = .ok (.ifCond .eq 15, 3) := by decide +kernel
theorem dX4_rest_107 : decode cX4_rest 107 = .ok (.aload_n 0, 1) := by decide +kernel
theorem dX4_rest_108 : decode cX4_rest 108 = .ok (.iconst 4, 1) := by decide +kernel
theorem dX4_rest_109 : decode cX4_rest 109 = .ok (.invokevirtual 65, 3) := by decide +kernel
theorem dX4_rest_112 : decode cX4_rest 112 = .ok (.ifCond .eq 7, 3) := by decide +kernel
theorem dX4_rest_115 : decode cX4_rest 115 = .ok (.iconst 1, 1) := by decide +kernel
theorem dX4_rest_116 : decode cX4_rest 116 = .ok (.goto 4, 3) := by decide +kernel
theorem dX4_rest_119 : decode cX4_rest 119 = .ok (.iconst 0, 1) := by decide +kernel
theorem dX4_rest_120 : decode cX4_rest 120 = .ok (.ireturn, 1) := by decide +kernel
theorem dX4_rest_121 : decode cX4_rest 121 = .ok (.aload_n 0, 1) := by decide +kernel
theorem dX4_rest_122 : decode cX4_rest 122 = .ok (.dup, 1) := by decide +kernel
theorem dX4_rest_123 : decode cX4_rest 123 = .ok (.getfield 17, 3) := by decide +kernel
theorem dX4_rest_126 : decode cX4_rest 126 = .ok (.iconst 1, 1) := by decide +kernel
theorem dX4_rest_127 : decode cX4_rest 127 = .ok (.iadd, 1) := by decide +kernel
theorem dX4_rest_128 : decode cX4_rest 128 = .ok (.putfield 17, 3) := by decide +kernel
theorem dX4_rest_131 : decode cX4_rest 131 = .ok (.aload_n 0, 1) := by decide +kernel
theorem dX4_rest_132 : decode cX4_rest 132 = .ok (.iconst 0, 1) := by decide +kernel
theorem dX4_rest_133 : decode cX4_rest 133 = .ok (.invokevirtual 71, 3) := by decide +kernel
theorem dX4_rest_136 : decode cX4_rest 136 = .ok (.ifCond .eq 25, 3) := by decide +kernel
theorem dX4_rest_139 : decode cX4_rest 139 = .ok (.aload_n 0, 1) := by decide +kernel
theorem dX4_rest_140 : decode cX4_rest 140 = .ok (.sipush 301, 3) := by decide +kernel
theorem dX4_rest_143 : decode cX4_rest 143 = .ok (.invokevirtual 48, 3) := by decide +kernel
theorem dX4_rest_146 : decode cX4_rest 146 = .ok (.ifCond .eq 15, 3) := by decide +kernel
theorem dX4_rest_149 : decode cX4_rest 149 = .ok (.aload_n 0, 1) := by decide +kernel
theorem dX4_rest_150 : decode cX4_rest 150 = .ok (.iload_n 1, 1) := by decide +kernel
theorem dX4_rest_151 : decode cX4_rest 151 = .ok (.invokevirtual 74, 3) := by decide +kernel
theorem dX4_rest_154 : decode cX4_rest 154 = .ok (.ifCond .eq 7, 3) := by decide +kernel
theorem dX4_rest_157 : decode cX4_rest 157 = .ok (.iconst 1, 1) := by decide +kernel
theorem dX4_rest_158 : decode cX4_rest 158 = .ok (.goto 4, 3) := by decide +kernel
theorem dX4_rest_161 : decode cX4_rest 161 = .ok (.iconst 0, 1) := by decide +kernel
theorem dX4_rest_162 : decode cX4_rest 162 = .ok (.ireturn, 1) := by decide +kernel
theorem dX4_rest_163 : decode cX4_rest 163 = .ok (.aload_n 0, 1) := by decide +kernel
theorem dX4_rest_164 : decode cX4_rest 164 = .ok (.dup, 1) := by decide +kernel
theorem dX4_rest_165 : decode cX4_rest 165 = .ok (.getfield 17, 3) := by decide +kernel
theorem dX4_rest_168 : decode cX4_rest 168 = .ok (.iconst 1, 1) := by decide +kernel
theorem dX4_rest_169 : decode cX4_rest 169 = .ok (.iadd, 1) := by decide +kernel
theorem dX4_rest_170 : decode cX4_rest 170 = .ok (.putfield 17, 3) := by decide +kernel
theorem dX4_rest_173 : decode cX4_rest 173 = .ok (.aload_n 0, 1) := by decide +kernel
theorem dX4_rest_174 : decode cX4_rest 174 = .ok (.iconst 0, 1) := by decide +kernel
theorem dX4_rest_175 : decode cX4_rest 175 = .ok (.invokevirtual 71, 3) := by decide +kernel
theorem dX4_rest_178 : decode cX4_rest 178 = .ok (.ifCond .eq 25, 3) := by decide +kernel
theorem dX4_rest_181 : decode cX4_rest 181 = .ok (.aload_n 0, 1) := by decide +kernel
theorem dX4_rest_182 : decode cX4_rest 182 = .ok (.sipush 303, 3) := by decide +kernel
theorem dX4_rest_185 : decode cX4_rest 185 = .ok (.invokevirtual 48, 3) := by decide +kernel
theorem dX4_rest_188 : decode cX4_rest 188 = .ok (.ifCond .eq 15, 3) := by decide +kernel
theorem dX4_rest_191 : decode cX4_rest 191 = .ok (.aload_n 0, 1) := by decide +kernel
theorem dX4_rest_192 : decode cX4_rest 192 = .ok (.iload_n 1, 1) := by decide +kernel
theorem dX4_rest_193 : decode cX4_rest 193 = .ok (.invokevirtual 74, 3) := by decide +kernel
theorem dX4_rest_196 : decode cX4_rest 196 = .ok (.ifCond .eq 7, 3) := by decide +kernel
theorem dX4_rest_199 : decode cX4_rest 199 = .ok (.iconst 1, 1) := by decide +kernel
theorem dX4_rest_200 : decode cX4_rest 200 = .ok (.goto 4, 3) := by decide +kernel
theorem dX4_rest_203 : decode cX4_rest 203 = .ok (.iconst 0, 1) := by decide +kernel
theorem dX4_rest_204 : decode cX4_rest 204 = .ok (.ireturn, 1) := by decide +kernel
theorem dX4_rest_205 : decode cX4_rest 205 = .ok (.aload_n 0, 1) := by decide +kernel
theorem dX4_rest_206 : decode cX4_rest 206 = .ok (.dup, 1) := by decide +kernel
theorem dX4_rest_207 : decode cX4_rest 207 = .ok (.getfield 17, 3) := by decide +kernel
theorem dX4_rest_210 : decode cX4_rest 210 = .ok (.iconst 1, 1) := by decide +kernel
theorem dX4_rest_211 : decode cX4_rest 211 = .ok (.iadd, 1) := by decide +kernel
theorem dX4_rest_212 : decode cX4_rest 212 = .ok (.putfield 17, 3) := by decide +kernel
theorem dX4_rest_215 : decode cX4_rest 215 = .ok (.aload_n 0, 1) := by decide +kernel
theorem dX4_rest_216 : decode cX4_rest 216 = .ok (.iload_n 1, 1) := by decide +kernel
theorem dX4_rest_217 : decode cX4_rest 217 = .ok (.invokevirtual 74, 3) := by decide +kernel
theorem dX4_rest_220 : decode cX4_rest 220 = .ok (.ireturn, 1) := by decide +kernel
theorem dX4_rest_221 : decode cX4_rest 221 = .ok (.iconst 1, 1) := by decide +kernel
theorem dX4_rest_222 : decode cX4_rest 222 = .ok (.ireturn, 1) := by decide +kernel
set_option maxRecDepth 20000 in
theorem ggX4_numberOf_X6_worth : GoodIn wsX4_numberOf wsX6_worth := goodIn_r _ [8, 9, 10, 11, 12, 13, 14, 15, 16, 56, 57, 58, 59, 60, 61, 62, 63] (by decide +kernel) (by decide +kernel)
set_option maxRecDepth 20000 in
theorem gX4_numberOf_X6_worth : GoodIn wsX4_numberOf (wsV RX4 52 RX6 yX6_worth wsX6_worth) := goodIn_app (goodIn_of _ (by decide +kernel)) ggX4_numberOf_X6_worth
set_option maxRecDepth 20000 in
theorem ggX4_numberOf_X6_start : GoodIn wsX4_numberOf wsX6_start := goodIn_r _ [20, 21, 10, 11, 12, 13, 14, 15, 16, 56, 57, 58, 59, 60, 61, 62, 63] (by decide +kernel) (by decide +kernel)
set_option maxRecDepth 20000 in
theorem gX4_numberOf_X6_start : GoodIn wsX4_numberOf (wsV RX4 21 RX6 yX6_start wsX6_start) := goodIn_app (goodIn_of _ (by decide +kernel)) ggX4_numberOf_X6_start
set_option maxRecDepth 20000 in
theorem ggX4_numberOf_X3_closeLine : GoodIn wsX4_numberOf wsX3_closeLine := goodIn_r _ [26, 27, 28, 29, 30, 31, 32, 25, 33, 34, 35, 36, 37, 13, 38, 15, 39, 40, 41, 42, 16, 64, 65, 66, 67, 68, 69, 70, 71, 61, 62, 63] (by decide +kernel) (by decide +kernel)
set_option maxRecDepth 20000 in
theorem gX4_numberOf_X3_closeLine : GoodIn wsX4_numberOf (wsV RX4 77 RX3 yX3_closeLine wsX3_closeLine) := goodIn_app (goodIn_of _ (by decide +kernel)) ggX4_numberOf_X3_closeLine
set_option maxRecDepth 20000 in
theorem ggX4_numberOf_X4_take : GoodIn wsX4_numberOf wsX4_take := goodIn_r _ [47, 2, 3, 48, 49, 50, 7, 51, 52, 10, 11, 12, 13, 14, 15, 16, 53, 54, 55, 56, 57, 58, 59, 60, 61, 62, 63] (by decide +kernel) (by decide +kernel)
set_option maxRecDepth 20000 in
theorem gX4_numberOf_X4_take : GoodIn wsX4_numberOf (wsV RX4 48 RX4 yX4_take wsX4_take) := goodIn_app (goodIn_of _ (by decide +kernel)) ggX4_numberOf_X4_take
theorem dX4_numberOf_0 : decode cX4_numberOf 0 = .ok (.aload_n 0, 1) := by decide +kernel
theorem dX4_numberOf_1 : decode cX4_numberOf 1 = .ok (.getfield 13, 3) := by decide +kernel
theorem dX4_numberOf_4 : decode cX4_numberOf 4 = .ok (.iload_n 1, 1) := by decide +kernel
theorem dX4_numberOf_5 : decode cX4_numberOf 5 = .ok (.aload_n 0, 1) := by decide +kernel
theorem dX4_numberOf_6 : decode cX4_numberOf 6 = .ok (.getfield 7, 3) := by decide +kernel
theorem dX4_numberOf_9 : decode cX4_numberOf 9 = .ok (.aload_n 0, 1) := by decide +kernel
theorem dX4_numberOf_10 : decode cX4_numberOf 10 = .ok (.getfield 17, 3) := by decide +kernel
theorem dX4_numberOf_13 : decode cX4_numberOf 13 = .ok (.invokevirtual 52, 3) := by decide +kernel
theorem dX4_numberOf_16 : decode cX4_numberOf 16 = .ok (.aload_n 0, 1) := by decide +kernel
theorem dX4_numberOf_17 : decode cX4_numberOf 17 = .ok (.getfield 7, 3) := by decide +kernel
theorem dX4_numberOf_20 : decode cX4_numberOf 20 = .ok (.aload_n 0, 1) := by decide +kernel
theorem dX4_numberOf_21 : decode cX4_numberOf 21 = .ok (.getfield 17, 3) := by decide +kernel
theorem dX4_numberOf_24 : decode cX4_numberOf 24 = .ok (.invokevirtual 21, 3) := by decide +kernel
theorem dX4_numberOf_27 : decode cX4_numberOf 27 = .ok (.invokevirtual 77, 3) := by decide +kernel
theorem dX4_numberOf_30 : decode cX4_numberOf 30 = .ok (.aload_n 0, 1) := by decide +kernel
theorem dX4_numberOf_31 : decode cX4_numberOf 31 = .ok (.sipush 256, 3) := by decide +kernel
theorem dX4_numberOf_34 : decode cX4_numberOf 34 = .ok (.invokevirtual 48, 3) := by decide +kernel
theorem dX4_numberOf_37 : decode cX4_numberOf 37 = .ok (.ireturn, 1) := by decide +kernel
set_option maxRecDepth 20000 in
theorem ggX4_take_X6_kind : GoodIn wsX4_take wsX6_kind := goodIn_r _ [7, 8, 9, 10, 11, 12, 13, 14, 15, 19, 20, 21, 22, 23, 24, 25, 26] (by decide +kernel) (by decide +kernel)
set_option maxRecDepth 20000 in
theorem gX4_take_X6_kind : GoodIn wsX4_take (wsV RX4 59 RX6 yX6_kind wsX6_kind) := goodIn_app (goodIn_of _ (by decide +kernel)) ggX4_take_X6_kind
theorem dX4_take_0 : decode cX4_take 0 = .ok (.aload_n 0, 1) := by decide +kernel
theorem dX4_take_1 : decode cX4_take 1 = .ok (.getfield 7, 3) := by decide +kernel
theorem dX4_take_4 : decode cX4_take 4 = .ok (.aload_n 0, 1) := by decide +kernel
theorem dX4_take_5 : decode cX4_take 5 = .ok (.getfield 17, 3) := by decide +kernel
theorem dX4_take_8 : decode cX4_take 8 = .ok (.invokevirtual 59, 3) := by decide +kernel
theorem dX4_take_11 : decode cX4_take 11 = .ok (.iload_n 1, 1) := by decide +kernel
theorem dX4_take_12 : decode cX4_take 12 = .ok (.if_icmp .eq 5, 3) := by decide +kernel
theorem dX4_take_15 : decode cX4_take 15 = .ok (.iconst 0, 1) := by decide +kernel
theorem dX4_take_16 : decode cX4_take 16 = .ok (.ireturn, 1) := by decide +kernel
theorem dX4_take_17 : decode cX4_take 17 = .ok (.aload_n 0, 1) := by decide +kernel
theorem dX4_take_18 : decode cX4_take 18 = .ok (.dup, 1) := by decide +kernel
theorem dX4_take_19 : decode cX4_take 19 = .ok (.getfield 17, 3) := by decide +kernel
theorem dX4_take_22 : decode cX4_take 22 = .ok (.iconst 1, 1) := by decide +kernel
theorem dX4_take_23 : decode cX4_take 23 = .ok (.iadd, 1) := by decide +kernel
theorem dX4_take_24 : decode cX4_take 24 = .ok (.putfield 17, 3) := by decide +kernel
theorem dX4_take_27 : decode cX4_take 27 = .ok (.iconst 1, 1) := by decide +kernel
theorem dX4_take_28 : decode cX4_take 28 = .ok (.ireturn, 1) := by decide +kernel
set_option maxRecDepth 20000 in
theorem ggX4_write_X5_add : GoodIn wsX4_write wsX5_add := goodIn_r _ [6, 7, 8, 9, 10, 11, 12, 13, 14, 15, 16, 17, 18, 19, 20, 21, 22, 23, 24, 25, 26, 27, 28, 40, 41, 42] (by decide +kernel) (by decide +kernel)
set_option maxRecDepth 20000 in
theorem gX4_write_X5_add : GoodIn wsX4_write (wsV RX4 85 RX5 yX5_add wsX5_add) := goodIn_app (goodIn_of _ (by decide +kernel)) ggX4_write_X5_add
theorem dX4_write_0 : decode cX4_write 0 = .ok (.aload_n 0, 1) := by decide +kernel
theorem dX4_write_1 : decode cX4_write 1 = .ok (.getfield 13, 3) := by decide +kernel
theorem dX4_write_4 : decode cX4_write 4 = .ok (.getfield 81, 3) := by decide +kernel
theorem dX4_write_7 : decode cX4_write 7 = .ok (.iload_n 1, 1) := by decide +kernel
theorem dX4_write_8 : decode cX4_write 8 = .ok (.ineg, 1) := by decide +kernel
theorem dX4_write_9 : decode cX4_write 9 = .ok (.invokevirtual 85, 3) := by decide +kernel
theorem dX4_write_12 : decode cX4_write 12 = .ok (.iconst 1, 1) := by decide +kernel
theorem dX4_write_13 : decode cX4_write 13 = .ok (.ireturn, 1) := by decide +kernel
set_option maxRecDepth 20000 in
theorem ggX4_literal_X6_worth : GoodIn wsX4_literal wsX6_worth := goodIn_r _ [8, 9, 10, 11, 12, 13, 14, 15, 16, 52, 53, 54, 55, 56, 57, 58, 59] (by decide +kernel) (by decide +kernel)
set_option maxRecDepth 20000 in
theorem gX4_literal_X6_worth : GoodIn wsX4_literal (wsV RX4 52 RX6 yX6_worth wsX6_worth) := goodIn_app (goodIn_of _ (by decide +kernel)) ggX4_literal_X6_worth
set_option maxRecDepth 20000 in
theorem ggX4_literal_X5_add : GoodIn wsX4_literal wsX5_add := goodIn_r _ [20, 15, 21, 16, 22, 23, 24, 25, 26, 27, 28, 29, 30, 31, 32, 33, 34, 35, 36, 37, 38, 39, 40, 57, 58, 59] (by decide +kernel) (by decide +kernel)
set_option maxRecDepth 20000 in
theorem gX4_literal_X5_add : GoodIn wsX4_literal (wsV RX4 85 RX5 yX5_add wsX5_add) := goodIn_app (goodIn_of _ (by decide +kernel)) ggX4_literal_X5_add
theorem dX4_literal_0 : decode cX4_literal 0 = .ok (.aload_n 0, 1) := by decide +kernel
theorem dX4_literal_1 : decode cX4_literal 1 = .ok (.getfield 13, 3) := by decide +kernel
theorem dX4_literal_4 : decode cX4_literal 4 = .ok (.getfield 81, 3) := by decide +kernel
theorem dX4_literal_7 : decode cX4_literal 7 = .ok (.aload_n 0, 1) := by decide +kernel
theorem dX4_literal_8 : decode cX4_literal 8 = .ok (.getfield 7, 3) := by decide +kernel
theorem dX4_literal_11 : decode cX4_literal 11 = .ok (.aload_n 0, 1) := by decide +kernel
theorem dX4_literal_12 : decode cX4_literal 12 = .ok (.getfield 17, 3) := by decide +kernel
theorem dX4_literal_15 : decode cX4_literal 15 = .ok (.invokevirtual 52, 3) := by decide +kernel
theorem dX4_literal_18 : decode cX4_literal 18 = .ok (.invokevirtual 85, 3) := by decide +kernel
theorem dX4_literal_21 : decode cX4_literal 21 = .ok (.aload_n 0, 1) := by decide +kernel
theorem dX4_literal_22 : decode cX4_literal 22 = .ok (.dup, 1) := by decide +kernel
theorem dX4_literal_23 : decode cX4_literal 23 = .ok (.getfield 17, 3) := by decide +kernel
theorem dX4_literal_26 : decode cX4_literal 26 = .ok (.iconst 1, 1) := by decide +kernel
theorem dX4_literal_27 : decode cX4_literal 27 = .ok (.iadd, 1) := by decide +kernel
theorem dX4_literal_28 : decode cX4_literal 28 = .ok (.putfield 17, 3) := by decide +kernel
theorem dX4_literal_31 : decode cX4_literal 31 = .ok (.iconst 1, 1) := by decide +kernel
theorem dX4_literal_32 : decode cX4_literal 32 = .ok (.ireturn, 1) := by decide +kernel
set_option maxRecDepth 20000 in
theorem ggX4_placePart_X6_kind : GoodIn wsX4_placePart wsX6_kind := goodIn_r _ [7, 8, 9, 10, 11, 12, 13, 14, 15, 91, 92, 93, 94, 95, 96, 97, 98] (by decide +kernel) (by decide +kernel)
set_option maxRecDepth 20000 in
theorem gX4_placePart_X6_kind : GoodIn wsX4_placePart (wsV RX4 59 RX6 yX6_kind wsX6_kind) := goodIn_app (goodIn_of _ (by decide +kernel)) ggX4_placePart_X6_kind
set_option maxRecDepth 20000 in
theorem ggX4_placePart_X4_literal : GoodIn wsX4_placePart wsX4_literal := goodIn_r _ [20, 21, 1, 2, 22, 23, 24, 6, 25, 26, 9, 10, 11, 12, 13, 14, 15, 27, 28, 29, 30, 31, 32, 33, 34, 35, 36, 37, 38, 39, 40, 41, 42, 43, 44, 45, 46, 47, 48, 49, 50, 88, 89, 90, 99, 100, 101, 102, 103, 104, 105, 106, 91, 92, 93, 94, 95, 96, 97, 98] (by decide +kernel) (by decide +kernel)
set_option maxRecDepth 20000 in
theorem gX4_placePart_X4_literal : GoodIn wsX4_placePart (wsV RX4 91 RX4 yX4_literal wsX4_literal) := goodIn_app (goodIn_of _ (by decide +kernel)) ggX4_placePart_X4_literal
set_option maxRecDepth 20000 in
theorem ggX4_placePart_X4_bracket : GoodIn wsX4_placePart wsX4_bracket := goodIn_r _ [54, 55, 56, 57, 19, 58, 1, 2, 3, 4, 5, 6, 7, 8, 9, 10, 11, 12, 13, 14, 15, 59, 60, 61, 62, 63, 64, 65, 66, 67, 68, 69, 21, 27, 28, 29, 30, 31, 32, 33, 34, 35, 36, 37, 38, 39, 40, 41, 42, 43, 44, 45, 46, 47, 48, 49, 50, 51, 52, 53, 70, 71, 72, 16, 17, 18, 20, 22, 23, 24, 25, 26, 0, 73, 74, 75, 76, 77, 78, 79, 80, 81, 82, 83, 84, 85, 86, 87, 88, 89, 90, 91, 92, 93, 94, 95, 96, 97, 98, 99, 100, 101, 102, 103, 104, 105, 106] (by decide +kernel) (by decide +kernel)
set_option maxRecDepth 20000 in
theorem gX4_placePart_X4_bracket : GoodIn wsX4_placePart (wsV RX4 71 RX4 yX4_bracket wsX4_bracket) := goodIn_app (goodIn_of _ (by decide +kernel)) ggX4_placePart_X4_bracket
theorem dX4_placePart_0 : decode cX4_placePart 0 = .ok (.aload_n 0, 1) := by decide +kernel
theorem dX4_placePart_1 : decode cX4_placePart 1 = .ok (.getfield 7, 3) := by decide +kernel
theorem dX4_placePart_4 : decode cX4_placePart 4 = .ok (.aload_n 0, 1) := by decide +kernel
theorem dX4_placePart_5 : decode cX4_placePart 5 = .ok (.getfield 17, 3) := by decide +kernel
theorem dX4_placePart_8 : decode cX4_placePart 8 = .ok (.invokevirtual 59, 3) := by decide +kernel
theorem dX4_placePart_11 : decode cX4_placePart 11 = .ok (.sipush 256, 3) := by decide +kernel
theorem dX4_placePart_14 : decode cX4_placePart 14 = .ok (.if_icmp .ne 10, 3) := by decide +kernel
theorem dX4_placePart_17 : decode cX4_placePart 17 = .ok (.aload_n 0, 1) := by decide +kernel
theorem dX4_placePart_18 : decode cX4_placePart 18 = .ok (.invokevirtual 91, 3) := by decide +kernel
theorem dX4_placePart_21 : decode cX4_placePart 21 = .ok (.goto 8, 3) := by decide +kernel
theorem dX4_placePart_24 : decode cX4_placePart 24 = .ok (.aload_n 0, 1) := by decide +kernel
theorem dX4_placePart_25 : decode cX4_placePart 25 = .ok (.iload_n 1, 1) := by decide +kernel
theorem dX4_placePart_26 : decode cX4_placePart 26 = .ok (.invokevirtual 71, 3) := by decide +kernel
theorem dX4_placePart_29 : decode cX4_placePart 29 = .ok (.ireturn, 1) := by decide +kernel
set_option maxRecDepth 20000 in
theorem ggX4_bracket_X4_take : GoodIn wsX4_bracket wsX4_take := goodIn_r _ [5, 6, 7, 8, 9, 10, 11, 12, 13, 14, 15, 16, 17, 18, 19, 20, 88, 89, 90, 91, 92, 93, 94, 95, 96, 97, 98] (by decide +kernel) (by decide +kernel)
set_option maxRecDepth 20000 in
theorem gX4_bracket_X4_take : GoodIn wsX4_bracket (wsV RX4 48 RX4 yX4_take wsX4_take) := goodIn_app (goodIn_of _ (by decide +kernel)) ggX4_bracket_X4_take
set_option maxRecDepth 20000 in
theorem ggX4_bracket_X4_test : GoodIn wsX4_bracket wsX4_test := goodIn_r _ [84, 6, 7, 85, 86, 87, 4, 8, 9, 10, 11, 12, 13, 14, 15, 16, 17, 18, 19, 20, 28, 29, 30, 31, 32, 33, 34, 35, 36, 37, 38, 39, 40, 41, 42, 43, 44, 45, 46, 47, 48, 49, 50, 51, 52, 53, 54, 55, 56, 0, 1, 2, 3, 5, 21, 22, 23, 24, 25, 26, 27, 57, 58, 59, 60, 61, 62, 63, 64, 65, 66, 67, 68, 69, 70, 71, 72, 73, 74, 75, 76, 77, 78, 79, 80, 81, 82, 83, 88, 89, 90, 91, 92, 93, 94, 95, 96, 97, 98, 99, 100, 101, 102, 103, 104, 105, 106] (by decide +kernel) (by decide +kernel)
set_option maxRecDepth 20000 in
theorem gX4_bracket_X4_test : GoodIn wsX4_bracket (wsV RX4 94 RX4 yX4_test wsX4_test) := goodIn_app (goodIn_of _ (by decide +kernel)) ggX4_bracket_X4_test
theorem dX4_bracket_0 : decode cX4_bracket 0 = .ok (.iload_n 1, 1) := by decide +kernel
theorem dX4_bracket_1 : decode cX4_bracket 1 = .ok (.bipush 20, 2) := by decide +kernel
theorem dX4_bracket_3 : decode cX4_bracket 3 = .ok (.if_icmp .ge 35, 3) := by decide +kernel
theorem dX4_bracket_6 : decode cX4_bracket 6 = .ok (.aload_n 0, 1) := by decide +kernel
theorem dX4_bracket_7 : decode cX4_bracket 7 = .ok (.bipush 91, 2) := by decide +kernel
theorem dX4_bracket_9 : decode cX4_bracket 9 = .ok (.invokevirtual 48, 3) := by decide +kernel
theorem dX4_bracket_12 : decode cX4_bracket 12 = .ok (.ifCond .eq 26, 3) := by decide +kernel
theorem dX4_bracket_15 : decode cX4_bracket 15 = .ok (.aload_n 0, 1) := by decide +kernel
theorem dX4_bracket_16 : decode cX4_bracket 16 = .ok (.iload_n 1, 1) := by decide +kernel
theorem dX4_bracket_17 : decode cX4_bracket 17 = .ok (.iconst 1, 1) := by decide +kernel
theorem dX4_bracket_18 : decode cX4_bracket 18 = .ok (.iadd, 1) := by decide +kernel
theorem dX4_bracket_19 : decode cX4_bracket 19 = .ok (.invokevirtual 94, 3) := by decide +kernel
theorem dX4_bracket_22 : decode cX4_bracket 22 = .ok (.ifCond .eq 16, 3) := by decide +kernel
theorem dX4_bracket_25 : decode cX4_bracket 25 = .ok (.aload_n 0, 1) := by decide +kernel
theorem dX4_bracket_26 : decode cX4_bracket 26 = .ok (.bipush 93, 2) := by decide +kernel
theorem dX4_bracket_28 : decode cX4_bracket 28 = .ok (.invokevirtual 48, 3) := by decide +kernel
theorem dX4_bracket_31 : decode cX4_bracket 31 = .ok (.ifCond .eq 7, 3) := by decide +kernel
theorem dX4_bracket_34 : decode cX4_bracket 34 = .ok (.iconst 1, 1) := by decide +kernel
theorem dX4_bracket_35 : decode cX4_bracket 35 = .ok (.goto 4, 3) := by decide +kernel
theorem dX4_bracket_38 : decode cX4_bracket 38 = .ok (.iconst 0, 1) := by decide +kernel
theorem dX4_bracket_39 : decode cX4_bracket 39 = .ok (.ireturn, 1) := by decide +kernel
set_option maxRecDepth 20000 in
theorem ggX4_test_X4_sum : GoodIn wsX4_test wsX4_sum := goodIn_r _ [81, 1, 2, 82, 83, 84, 6, 7, 8, 9, 10, 11, 12, 13, 14, 15, 16, 17, 18, 19, 85, 86, 87, 20, 21, 22, 23, 24, 25, 26, 27, 28, 29, 30, 31, 32, 33, 34, 35, 36, 37, 38, 39, 40, 41, 42, 43, 44, 45, 46, 47, 48, 49, 50, 51, 52, 53, 54, 55, 56, 57, 58, 59, 60, 61, 62, 63, 64, 65, 66, 67, 68, 69, 70, 71, 72, 73, 74, 75, 76, 77, 78, 79, 80, 0, 3, 4, 5, 88, 89, 90, 91, 92, 93, 94, 95, 96, 97, 98, 99, 100, 101, 102, 103, 104, 105, 106] (by decide +kernel) (by decide +kernel)
set_option maxRecDepth 20000 in
theorem gX4_test_X4_sum : GoodIn wsX4_test (wsV RX4 68 RX4 yX4_sum wsX4_sum) := goodIn_app (goodIn_of _ (by decide +kernel)) ggX4_test_X4_sum
set_option maxRecDepth 20000 in
theorem ggX4_test_X6_kind : GoodIn wsX4_test wsX6_kind := goodIn_r _ [11, 12, 13, 14, 15, 16, 17, 18, 19, 91, 92, 93, 94, 95, 96, 97, 98] (by decide +kernel) (by decide +kernel)
set_option maxRecDepth 20000 in
theorem gX4_test_X6_kind : GoodIn wsX4_test (wsV RX4 59 RX6 yX6_kind wsX6_kind) := goodIn_app (goodIn_of _ (by decide +kernel)) ggX4_test_X6_kind
set_option maxRecDepth 20000 in
theorem ggX4_test_X4_write : GoodIn wsX4_test wsX4_write := goodIn_r _ [23, 24, 25, 26, 27, 16, 28, 18, 29, 19, 30, 31, 32, 33, 34, 35, 36, 37, 38, 39, 40, 41, 42, 43, 44, 45, 46, 47, 48, 88, 89, 90, 99, 100, 101, 102, 103, 104, 105, 106, 96, 97, 98] (by decide +kernel) (by decide +kernel)
set_option maxRecDepth 20000 in
theorem gX4_test_X4_write : GoodIn wsX4_test (wsV RX4 65 RX4 yX4_write wsX4_write) := goodIn_app (goodIn_of _ (by decide +kernel)) ggX4_test_X4_write
theorem dX4_test_0 : decode cX4_test 0 = .ok (.aload_n 0, 1) := by decide +kernel
theorem dX4_test_1 : decode cX4_test 1 = .ok (.iload_n 1, 1) := by decide +kernel
theorem dX4_test_2 : decode cX4_test 2 = .ok (.invokevirtual 68, 3) := by decide +kernel
theorem dX4_test_5 : decode cX4_test 5 = .ok (.ifCond .ne 5, 3) := by decide +kernel
theorem dX4_test_8 : decode cX4_test 8 = .ok (.iconst 0, 1) := by decide +kernel
theorem dX4_test_9 : decode cX4_test 9 = .ok (.ireturn, 1) := by decide +kernel
theorem dX4_test_10 : decode cX4_test 10 = .ok (.aload_n 0, 1) := by decide +kernel
theorem dX4_test_11 : decode cX4_test 11 = .ok (.getfield 7, 3) := by decide +kernel
theorem dX4_test_14 : decode cX4_test 14 = .ok (.aload_n 0, 1) := by decide +kernel
theorem dX4_test_15 : decode cX4_test 15 = .ok (.getfield 17, 3) := by decide +kernel
theorem dX4_test_18 : decode cX4_test 18 = .ok (.invokevirtual 59, 3) := by decide +kernel
theorem dX4_test_21 : decode cX4_test 21 = .ok (.istore_n 2, 1) := by decide +kernel
theorem dX4_test_22 : decode cX4_test 22 = .ok (.iload_n 2, 1) := by decide +kernel
theorem dX4_test_23 : decode cX4_test 23 = .ok (.sipush 313, 3) := by decide +kernel
theorem dX4_test_26 : decode cX4_test 26 = .ok (.if_icmp .lt 10, 3) := by decide +kernel
theorem dX4_test_29 : decode cX4_test 29 = .ok (.iload_n 2, 1) := by decide +kernel
theorem dX4_test_30 : decode cX4_test 30 = .ok (.sipush 318, 3) := by decide +kernel
theorem dX4_test_33 : decode cX4_test 33 = .ok (.if_icmp .le 5, 3) := by decide +kernel
theorem dX4_test_36 : decode cX4_test 36 = .ok (.iconst 1, 1) := by decide +kernel
theorem dX4_test_37 : decode cX4_test 37 = .ok (.ireturn, 1) := by decide +kernel
theorem dX4_test_38 : decode cX4_test 38 = .ok (.aload_n 0, 1) := by decide +kernel
theorem dX4_test_39 : decode cX4_test 39 = .ok (.dup, 1) := by decide +kernel
theorem dX4_test_40 : decode cX4_test 40 = .ok (.getfield 17, 3) := by decide +kernel
theorem dX4_test_43 : decode cX4_test 43 = .ok (.iconst 1, 1) := by decide +kernel
theorem dX4_test_44 : decode cX4_test 44 = .ok (.iadd, 1) := by decide +kernel
theorem dX4_test_45 : decode cX4_test 45 = .ok (.putfield 17, 3) := by decide +kernel
theorem dX4_test_48 : decode cX4_test 48 = .ok (.aload_n 0, 1) := by decide +kernel
theorem dX4_test_49 : decode cX4_test 49 = .ok (.iload_n 1, 1) := by decide +kernel
theorem dX4_test_50 : decode cX4_test 50 = .ok (.invokevirtual 68, 3) := by decide +kernel
theorem dX4_test_53 : decode cX4_test 53 = .ok (.ifCond .eq 15, 3) := by decide +kernel
theorem dX4_test_56 : decode cX4_test 56 = .ok (.aload_n 0, 1) := by decide +kernel
theorem dX4_test_57 : decode cX4_test 57 = .ok (.iload_n 2, 1) := by decide +kernel
theorem dX4_test_58 : decode cX4_test 58 = .ok (.invokevirtual 65, 3) := by decide +kernel
theorem dX4_test_61 : decode cX4_test 61 = .ok (.ifCond .eq 7, 3) := by decide +kernel
theorem dX4_test_64 : decode cX4_test 64 = .ok (.iconst 1, 1) := by decide +kernel
theorem dX4_test_65 : decode cX4_test 65 = .ok (.goto 4, 3) := by decide +kernel
theorem dX4_test_68 : decode cX4_test 68 = .ok (.iconst 0, 1) := by decide +kernel
theorem dX4_test_69 : decode cX4_test 69 = .ok (.ireturn, 1) := by decide +kernel
set_option maxRecDepth 20000 in
theorem ggX4_sum_X4_product : GoodIn wsX4_sum wsX4_product := goodIn_r _ [80, 1, 2, 61, 62, 63, 6, 7, 8, 9, 10, 11, 12, 13, 14, 15, 16, 17, 18, 19, 81, 82, 83, 23, 24, 25, 26, 27, 28, 29, 30, 31, 32, 33, 34, 35, 36, 37, 38, 39, 40, 41, 42, 43, 44, 45, 46, 47, 48, 49, 50, 51, 52, 53, 54, 55, 56, 57, 58, 59, 60, 64, 65, 66, 67, 68, 69, 70, 71, 72, 73, 74, 75, 76, 77, 78, 79, 0, 3, 4, 5, 20, 21, 22, 84, 85, 86, 87, 88, 89, 90, 91, 92, 93, 94, 95, 96, 97, 98, 99, 100, 101, 102, 103, 104, 105, 106] (by decide +kernel) (by decide +kernel)
set_option maxRecDepth 20000 in
theorem gX4_sum_X4_product : GoodIn wsX4_sum (wsV RX4 97 RX4 yX4_product wsX4_product) := goodIn_app (goodIn_of _ (by decide +kernel)) ggX4_sum_X4_product
set_option maxRecDepth 20000 in
theorem ggX4_sum_X6_kind : GoodIn wsX4_sum wsX6_kind := goodIn_r _ [11, 12, 13, 14, 15, 16, 17, 18, 19, 91, 92, 93, 94, 95, 96, 97, 98] (by decide +kernel) (by decide +kernel)
set_option maxRecDepth 20000 in
theorem gX4_sum_X6_kind : GoodIn wsX4_sum (wsV RX4 59 RX6 yX6_kind wsX6_kind) := goodIn_app (goodIn_of _ (by decide +kernel)) ggX4_sum_X6_kind
set_option maxRecDepth 20000 in
theorem ggX4_sum_X4_joinsProducts : GoodIn wsX4_sum wsX4_joinsProducts := goodIn_r _ [22] (by decide +kernel) (by decide +kernel)
set_option maxRecDepth 20000 in
theorem gX4_sum_X4_joinsProducts : GoodIn wsX4_sum (va_wsS RX4 100 yX4_joinsProducts wsX4_joinsProducts) := goodIn_app (goodIn_of _ (by decide +kernel)) ggX4_sum_X4_joinsProducts
set_option maxRecDepth 20000 in
theorem ggX4_sum_X4_write : GoodIn wsX4_sum wsX4_write := goodIn_r _ [26, 27, 28, 29, 30, 16, 31, 18, 32, 19, 33, 34, 35, 36, 37, 38, 39, 40, 41, 42, 43, 44, 45, 46, 47, 48, 49, 50, 51, 88, 89, 90, 99, 100, 101, 102, 103, 104, 105, 106, 96, 97, 98] (by decide +kernel) (by decide +kernel)
set_option maxRecDepth 20000 in
theorem gX4_sum_X4_write : GoodIn wsX4_sum (wsV RX4 65 RX4 yX4_write wsX4_write) := goodIn_app (goodIn_of _ (by decide +kernel)) ggX4_sum_X4_write
theorem dX4_sum_0 : decode cX4_sum 0 = .ok (.aload_n 0, 1) := by decide +kernel
theorem dX4_sum_1 : decode cX4_sum 1 = .ok (.iload_n 1, 1) := by decide +kernel
theorem dX4_sum_2 : decode cX4_sum 2 = .ok (.invokevirtual 97, 3) := by decide +kernel
theorem dX4_sum_5 : decode cX4_sum 5 = .ok (.istore_n 2, 1) := by decide +kernel
theorem dX4_sum_6 : decode cX4_sum 6 = .ok (.iconst 0, 1) := by decide +kernel
theorem dX4_sum_7 : decode cX4_sum 7 = .ok (.istore_n 3, 1) := by decide +kernel
theorem dX4_sum_8 : decode cX4_sum 8 = .ok (.iload_n 3, 1) := by decide +kernel
theorem dX4_sum_9 : decode cX4_sum 9 = .ok (.sipush 8000, 3) := by decide +kernel
theorem dX4_sum_12 : decode cX4_sum 12 = .ok (.if_icmp .ge 76, 3) := by decide +kernel
theorem dX4_sum_15 : decode cX4_sum 15 = .ok (.iload_n 2, 1) := by decide +kernel
theorem dX4_sum_16 : decode cX4_sum 16 = .ok (.ifCond .eq 72, 3) := by decide +kernel
theorem dX4_sum_19 : decode cX4_sum 19 = .ok (.aload_n 0, 1) := by decide +kernel
theorem dX4_sum_20 : decode cX4_sum 20 = .ok (.getfield 7, 3) := by decide +kernel
theorem dX4_sum_23 : decode cX4_sum 23 = .ok (.aload_n 0, 1) := by decide +kernel
theorem dX4_sum_24 : decode cX4_sum 24 = .ok (.getfield 17, 3) := by decide +kernel
theorem dX4_sum_27 : decode cX4_sum 27 = .ok (.invokevirtual 59, 3) := by decide +kernel
theorem dX4_sum_30 : decode cX4_sum 30 = .ok (.invokestatic 100, 3) := by decide +kernel
theorem dX4_sum_33 : decode cX4_sum 33 = .ok (.ifCond .eq 55, 3) := by decide +kernel
theorem dX4_sum_36 : decode cX4_sum 36 = .ok (.aload_n 0, 1) := by decide +kernel
theorem dX4_sum_37 : decode cX4_sum 37 = .ok (.getfield 7, 3) := by decide +kernel
theorem dX4_sum_40 : decode cX4_sum 40 = .ok (.aload_n 0, 1) := by decide +kernel
theorem dX4_sum_41 : decode cX4_sum 41 = .ok (.getfield 17, 3) := by decide +kernel
theorem dX4_sum_44 : decode cX4_sum 44 = .ok (.invokevirtual 59, 3) := by decide +kernel
theorem dX4_sum_47 : decode cX4_sum 47 = .ok (.istore 4, 2) := by decide +kernel
theorem dX4_sum_49 : decode cX4_sum 49 = .ok (.aload_n 0, 1) := by decide +kernel
theorem dX4_sum_50 : decode cX4_sum 50 = .ok (.dup, 1) := by decide +kernel
theorem dX4_sum_51 : decode cX4_sum 51 = .ok (.getfield 17, 3) := by decide +kernel
theorem dX4_sum_54 : decode cX4_sum 54 = .ok (.iconst 1, 1) := by decide +kernel
theorem dX4_sum_55 : decode cX4_sum 55 = .ok (.iadd, 1) := by decide +kernel
theorem dX4_sum_56 : decode cX4_sum 56 = .ok (.putfield 17, 3) := by decide +kernel
theorem dX4_sum_59 : decode cX4_sum 59 = .ok (.aload_n 0, 1) := by decide +kernel
theorem dX4_sum_60 : decode cX4_sum 60 = .ok (.iload_n 1, 1) := by decide +kernel
theorem dX4_sum_61 : decode cX4_sum 61 = .ok (.invokevirtual 97, 3) := by decide +kernel
theorem dX4_sum_64 : decode cX4_sum 64 = .ok (.ifCond .eq 16, 3) := by decide +kernel
theorem dX4_sum_67 : decode cX4_sum 67 = .ok (.aload_n 0, 1) := by decide +kernel
theorem dX4_sum_68 : decode cX4_sum 68 = .ok (.iload 4, 2) := by decide +kernel
theorem dX4_sum_70 : decode cX4_sum 70 = .ok (.invokevirtual 65, 3) := by decide +kernel
theorem dX4_sum_73 : decode cX4_sum 73 = .ok (.ifCond .eq 7, 3) := by decide +kernel
theorem dX4_sum_76 : decode cX4_sum 76 = .ok (.iconst 1, 1) := by decide +kernel
theorem dX4_sum_77 : decode cX4_sum 77 = .ok (.goto 4, 3) := by decide +kernel
theorem dX4_sum_80 : decode cX4_sum 80 = .ok (.iconst 0, 1) := by decide +kernel
theorem dX4_sum_81 : decode cX4_sum 81 = .ok (.istore_n 2, 1) := by decide +kernel
theorem dX4_sum_82 : decode cX4_sum 82 = .ok (.iinc 3 1, 3) := by decide +kernel
theorem dX4_sum_85 : decode cX4_sum 85 = .ok (.goto (-77), 3) := by decide +kernel
theorem dX4_sum_88 : decode cX4_sum 88 = .ok (.iload_n 2, 1) := by decide +kernel
theorem dX4_sum_89 : decode cX4_sum 89 = .ok (.ireturn, 1) := by decide +kernel
set_option maxRecDepth 20000 in
theorem ggX4_product_X4_factor : GoodIn wsX4_product wsX4_factor := goodIn_r _ [60, 1, 2, 7, 8, 9, 10, 11, 12, 13, 14, 15, 16, 17, 18, 19, 53, 54, 55, 6, 56, 3, 4, 5, 23, 24, 25, 26, 27, 28, 29, 30, 31, 32, 33, 34, 35, 36, 37, 38, 39, 40, 41, 42, 43, 44, 45, 46, 47, 48, 49, 50, 51, 61, 62, 63, 64, 65, 66, 67, 68, 69, 70, 71, 72, 73, 74, 75, 52, 57, 58, 59, 76, 0, 20, 21, 22, 77, 78, 79, 80, 81, 82, 83, 84, 85, 86, 87, 88, 89, 90, 91, 92, 93, 94, 95, 96, 97, 98, 99, 100, 101, 102, 103, 104, 105, 106] (by decide +kernel) (by decide +kernel)
set_option maxRecDepth 20000 in
theorem gX4_product_X4_factor : GoodIn wsX4_product (wsV RX4 103 RX4 yX4_factor wsX4_factor) := goodIn_app (goodIn_of _ (by decide +kernel)) ggX4_product_X4_factor
set_option maxRecDepth 20000 in
theorem ggX4_product_X6_kind : GoodIn wsX4_product wsX6_kind := goodIn_r _ [11, 12, 13, 14, 15, 16, 17, 18, 19, 91, 92, 93, 94, 95, 96, 97, 98] (by decide +kernel) (by decide +kernel)
set_option maxRecDepth 20000 in
theorem gX4_product_X6_kind : GoodIn wsX4_product (wsV RX4 59 RX6 yX6_kind wsX6_kind) := goodIn_app (goodIn_of _ (by decide +kernel)) ggX4_product_X6_kind
set_option maxRecDepth 20000 in
theorem ggX4_product_X4_joinsFactors : GoodIn wsX4_product wsX4_joinsFactors := goodIn_r _ [22] (by decide +kernel) (by decide +kernel)
set_option maxRecDepth 20000 in
theorem gX4_product_X4_joinsFactors : GoodIn wsX4_product (va_wsS RX4 106 yX4_joinsFactors wsX4_joinsFactors) := goodIn_app (goodIn_of _ (by decide +kernel)) ggX4_product_X4_joinsFactors
set_option maxRecDepth 20000 in
theorem ggX4_product_X4_write : GoodIn wsX4_product wsX4_write := goodIn_r _ [26, 27, 28, 29, 30, 16, 31, 18, 32, 19, 33, 34, 35, 36, 37, 38, 39, 40, 41, 42, 43, 44, 45, 46, 47, 48, 49, 50, 51, 88, 89, 90, 99, 100, 101, 102, 103, 104, 105, 106, 96, 97, 98] (by decide +kernel) (by decide +kernel)
set_option maxRecDepth 20000 in
theorem gX4_product_X4_write : GoodIn wsX4_product (wsV RX4 65 RX4 yX4_write wsX4_write) := goodIn_app (goodIn_of _ (by decide +kernel)) ggX4_product_X4_write
theorem dX4_product_0 : decode cX4_product 0 = .ok (.aload_n 0, 1) := by decide +kernel
theorem dX4_product_1 : decode cX4_product 1 = .ok (.iload_n 1, 1) := by decide +kernel
theorem dX4_product_2 : decode cX4_product 2 = .ok (.invokevirtual 103, 3) := by decide +kernel
theorem dX4_product_5 : decode cX4_product 5 = .ok (.istore_n 2, 1) := by decide +kernel
theorem dX4_product_6 : decode cX4_product 6 = .ok (.iconst 0, 1) := by decide +kernel
theorem dX4_product_7 : decode cX4_product 7 = .ok (.istore_n 3, 1) := by decide +kernel
theorem dX4_product_8 : decode cX4_product 8 = .ok (.iload_n 3, 1) := by decide +kernel
theorem dX4_product_9 : decode cX4_product 9 = .ok (.sipush 8000, 3) := by decide +kernel
theorem dX4_product_12 : decode cX4_product 12 = .ok (.if_icmp .ge 76, 3) := by decide +kernel
theorem dX4_product_15 : decode cX4_product 15 = .ok (.iload_n 2, 1) := by decide +kernel
theorem dX4_product_16 : decode cX4_product 16 = .ok (.ifCond .eq 72, 3) := by decide +kernel
theorem dX4_product_19 : decode cX4_product 19 = .ok (.aload_n 0, 1) := by decide +kernel
theorem dX4_product_20 : decode cX4_product 20 = .ok (.getfield 7, 3) := by decide +kernel
theorem dX4_product_23 : decode cX4_product 23 = .ok (.aload_n 0, 1) := by decide +kernel
theorem dX4_product_24 : decode cX4_product 24 = .ok (.getfield 17, 3) := by decide +kernel
theorem dX4_product_27 : decode cX4_product 27 = .ok (.invokevirtual 59, 3) := by decide +kernel
theorem dX4_product_30 : decode cX4_product 30 = .ok (.invokestatic 106, 3) := by decide +kernel
theorem dX4_product_33 : decode cX4_product 33 = .ok (.ifCond .eq 55, 3) := by decide +kernel
theorem dX4_product_36 : decode cX4_product 36 = .ok (.aload_n 0, 1) := by decide +kernel
theorem dX4_product_37 : decode cX4_product 37 = .ok (.getfield 7, 3) := by decide +kernel
theorem dX4_product_40 : decode cX4_product 40 = .ok (.aload_n 0, 1) := by decide +kernel
theorem dX4_product_41 : decode cX4_product 41 = .ok (.getfield 17, 3) := by decide +kernel
theorem dX4_product_44 : decode cX4_product 44 = .ok (.invokevirtual 59, 3) := by decide +kernel
theorem dX4_product_47 : decode cX4_product 47 = .ok (.istore 4, 2) := by decide +kernel
theorem dX4_product_49 : decode cX4_product 49 = .ok (.aload_n 0, 1) := by decide +kernel
theorem dX4_product_50 : decode cX4_product 50 = .ok (.dup, 1) := by decide +kernel
theorem dX4_product_51 : decode cX4_product 51 = .ok (.getfield 17, 3) := by decide +kernel
theorem dX4_product_54 : decode cX4_product 54 = .ok (.iconst 1, 1) := by decide +kernel
theorem dX4_product_55 : decode cX4_product 55 = .ok (.iadd, 1) := by decide +kernel
theorem dX4_product_56 : decode cX4_product 56 = .ok (.putfield 17, 3) := by decide +kernel
theorem dX4_product_59 : decode cX4_product 59 = .ok (.aload_n 0, 1) := by decide +kernel
theorem dX4_product_60 : decode cX4_product 60 = .ok (.iload_n 1, 1) := by decide +kernel
theorem dX4_product_61 : decode cX4_product 61 = .ok (.invokevirtual 103, 3) := by decide +kernel
theorem dX4_product_64 : decode cX4_product 64 = .ok (.ifCond .eq 16, 3) := by decide +kernel
theorem dX4_product_67 : decode cX4_product 67 = .ok (.aload_n 0, 1) := by decide +kernel
theorem dX4_product_68 : decode cX4_product 68 = .ok (.iload 4, 2) := by decide +kernel
theorem dX4_product_70 : decode cX4_product 70 = .ok (.invokevirtual 65, 3) := by decide +kernel
theorem dX4_product_73 : decode cX4_product 73 = .ok (.ifCond .eq 7, 3) := by decide +kernel
theorem dX4_product_76 : decode cX4_product 76 = .ok (.iconst 1, 1) := by decide +kernel
theorem dX4_product_77 : decode cX4_product 77 = .ok (.goto 4, 3) := by decide +kernel
theorem dX4_product_80 : decode cX4_product 80 = .ok (.iconst 0, 1) := by decide +kernel
theorem dX4_product_81 : decode cX4_product 81 = .ok (.istore_n 2, 1) := by decide +kernel
theorem dX4_product_82 : decode cX4_product 82 = .ok (.iinc 3 1, 3) := by decide +kernel
theorem dX4_product_85 : decode cX4_product 85 = .ok (.goto (-77), 3) := by decide +kernel
theorem dX4_product_88 : decode cX4_product 88 = .ok (.iload_n 2, 1) := by decide +kernel
theorem dX4_product_89 : decode cX4_product 89 = .ok (.ireturn, 1) := by decide +kernel
set_option maxRecDepth 20000 in
theorem ggX4_factor_X6_kind : GoodIn wsX4_factor wsX6_kind := goodIn_r _ [7, 8, 9, 10, 11, 12, 13, 14, 15, 91, 92, 93, 94, 95, 96, 97, 98] (by decide +kernel) (by decide +kernel)
set_option maxRecDepth 20000 in
theorem gX4_factor_X6_kind : GoodIn wsX4_factor (wsV RX4 59 RX6 yX6_kind wsX6_kind) := goodIn_app (goodIn_of _ (by decide +kernel)) ggX4_factor_X6_kind
set_option maxRecDepth 20000 in
theorem ggX4_factor_X4_take : GoodIn wsX4_factor wsX4_take := goodIn_r _ [20, 1, 2, 3, 4, 5, 6, 7, 8, 9, 10, 11, 12, 13, 14, 15, 88, 89, 90, 91, 92, 93, 94, 95, 96, 97, 98] (by decide +kernel) (by decide +kernel)
set_option maxRecDepth 20000 in
theorem gX4_factor_X4_take : GoodIn wsX4_factor (wsV RX4 48 RX4 yX4_take wsX4_take) := goodIn_app (goodIn_of _ (by decide +kernel)) ggX4_factor_X4_take
set_option maxRecDepth 20000 in
theorem ggX4_factor_X4_factor : GoodIn wsX4_factor wsX4_factor := goodIn_r _ [0, 1, 2, 3, 4, 5, 6, 7, 8, 9, 10, 11, 12, 13, 14, 15, 16, 17, 18, 19, 20, 21, 22, 23, 24, 25, 26, 27, 28, 29, 30, 31, 32, 33, 34, 35, 36, 37, 38, 39, 40, 41, 42, 43, 44, 45, 46, 47, 48, 49, 50, 51, 52, 53, 54, 55, 56, 57, 58, 59, 60, 61, 62, 63, 64, 65, 66, 67, 68, 69, 70, 71, 72, 73, 74, 75, 76, 77, 78, 79, 80, 81, 82, 83, 84, 85, 86, 87, 88, 89, 90, 91, 92, 93, 94, 95, 96, 97, 98, 99, 100, 101, 102, 103, 104, 105, 106] (by decide +kernel) (by decide +kernel)
set_option maxRecDepth 20000 in
theorem gX4_factor_X4_factor : GoodIn wsX4_factor (wsV RX4 103 RX4 yX4_factor wsX4_factor) := goodIn_app (goodIn_of _ (by decide +kernel)) ggX4_factor_X4_factor
set_option maxRecDepth 20000 in
theorem ggX4_factor_X4_write : GoodIn wsX4_factor wsX4_write := goodIn_r _ [27, 28, 29, 30, 31, 12, 32, 14, 33, 15, 34, 35, 36, 37, 38, 39, 40, 41, 42, 43, 44, 45, 46, 47, 48, 49, 50, 51, 52, 88, 89, 90, 99, 100, 101, 102, 103, 104, 105, 106, 96, 97, 98] (by decide +kernel) (by decide +kernel)
set_option maxRecDepth 20000 in
theorem gX4_factor_X4_write : GoodIn wsX4_factor (wsV RX4 65 RX4 yX4_write wsX4_write) := goodIn_app (goodIn_of _ (by decide +kernel)) ggX4_factor_X4_write
set_option maxRecDepth 20000 in
theorem ggX4_factor_X4_bracket : GoodIn wsX4_factor wsX4_bracket := goodIn_r _ [68, 16, 17, 18, 19, 20, 1, 2, 3, 4, 5, 6, 7, 8, 9, 10, 11, 12, 13, 14, 15, 69, 70, 71, 0, 21, 22, 23, 24, 25, 26, 27, 28, 29, 30, 31, 32, 33, 34, 35, 36, 37, 38, 39, 40, 41, 42, 43, 44, 45, 46, 47, 48, 49, 50, 51, 52, 53, 54, 55, 56, 57, 58, 59, 60, 61, 62, 63, 64, 65, 66, 67, 72, 73, 74, 75, 76, 77, 78, 79, 80, 81, 82, 83, 84, 85, 86, 87, 88, 89, 90, 91, 92, 93, 94, 95, 96, 97, 98, 99, 100, 101, 102, 103, 104, 105, 106] (by decide +kernel) (by decide +kernel)
set_option maxRecDepth 20000 in
theorem gX4_factor_X4_bracket : GoodIn wsX4_factor (wsV RX4 71 RX4 yX4_bracket wsX4_bracket) := goodIn_app (goodIn_of _ (by decide +kernel)) ggX4_factor_X4_bracket
set_option maxRecDepth 20000 in
theorem ggX4_factor_X4_placePart : GoodIn wsX4_factor wsX4_placePart := goodIn_r _ [72, 1, 2, 3, 4, 5, 6, 7, 8, 9, 10, 11, 12, 13, 14, 15, 59, 60, 61, 19, 62, 28, 63, 64, 65, 66, 67, 29, 30, 31, 32, 33, 34, 35, 36, 37, 38, 39, 40, 41, 42, 43, 44, 45, 46, 47, 48, 49, 50, 51, 52, 53, 54, 55, 68, 16, 17, 18, 20, 69, 70, 71, 0, 21, 22, 23, 24, 25, 26, 27, 56, 57, 58, 73, 74, 75, 76, 77, 78, 79, 80, 81, 82, 83, 84, 85, 86, 87, 88, 89, 90, 91, 92, 93, 94, 95, 96, 97, 98, 99, 100, 101, 102, 103, 104, 105, 106] (by decide +kernel) (by decide +kernel)
set_option maxRecDepth 20000 in
theorem gX4_factor_X4_placePart : GoodIn wsX4_factor (wsV RX4 62 RX4 yX4_placePart wsX4_placePart) := goodIn_app (goodIn_of _ (by decide +kernel)) ggX4_factor_X4_placePart
set_option maxRecDepth 20000 in
theorem ggX4_factor_X4_literal : GoodIn wsX4_factor wsX4_literal := goodIn_r _ [62, 28, 1, 2, 63, 64, 65, 6, 66, 67, 9, 10, 11, 12, 13, 14, 15, 29, 30, 31, 32, 33, 34, 35, 36, 37, 38, 39, 40, 41, 42, 43, 44, 45, 46, 47, 48, 49, 50, 51, 52, 88, 89, 90, 99, 100, 101, 102, 103, 104, 105, 106, 91, 92, 93, 94, 95, 96, 97, 98] (by decide +kernel) (by decide +kernel)
set_option maxRecDepth 20000 in
theorem gX4_factor_X4_literal : GoodIn wsX4_factor (wsV RX4 91 RX4 yX4_literal wsX4_literal) := goodIn_app (goodIn_of _ (by decide +kernel)) ggX4_factor_X4_literal
theorem dX4_factor_0 : decode cX4_factor 0 = .ok (.aload_n 0, 1) := by decide +kernel
theorem dX4_factor_1 : decode cX4_factor 1 = .ok (.getfield 7, 3) := by decide +kernel
theorem dX4_factor_4 : decode cX4_factor 4 = .ok (.aload_n 0, 1) := by decide +kernel
theorem dX4_factor_5 : decode cX4_factor 5 = .ok (.getfield 17, 3) := by decide +kernel
theorem dX4_factor_8 : decode cX4_factor 8 = .ok (.invokevirtual 59, 3) := by decide +kernel
theorem dX4_factor_11 : decode cX4_factor 11 = .ok (.istore_n 2, 1) := by decide +kernel
theorem dX4_factor_12 : decode cX4_factor 12 = .ok (.iload_n 2, 1) := by decide +kernel
theorem dX4_factor_13 : decode cX4_factor 13 = .ok (.lookupswitch 183 #[(35, 146), (45, 75), (256, 178), (257, 178), (305, 114), (306, 114), (307, 114), (308, 114)], 75) := by decide +kernel
theorem dX4_factor_88 : decode cX4_factor 88 = .ok (.iload_n 1, 1) := by decide +kernel
theorem dX4_factor_89 : decode cX4_factor 89 = .ok (.bipush 20, 2) := by decide +kernel
theorem dX4_factor_91 : decode cX4_factor 91 = .ok (.if_icmp .ge 34, 3) := by decide +kernel
theorem dX4_factor_94 : decode cX4_factor 94 = .ok (.aload_n 0, 1) := by decide +kernel
theorem dX4_factor_95 : decode cX4_factor 95 = .ok (.bipush 45, 2) := by decide +kernel
theorem dX4_factor_97 : decode cX4_factor 97 = .ok (.invokevirtual 48, 3) := by decide +kernel
theorem dX4_factor_100 : decode cX4_factor 100 = .ok (.ifCond .eq 25, 3) := by decide +kernel
theorem dX4_factor_103 : decode cX4_factor 103 = .ok (.aload_n 0, 1) := by decide +kernel
theorem dX4_factor_104 : decode cX4_factor 104 = .ok (.iload_n 1, 1) := by decide +kernel
theorem dX4_factor_105 : decode cX4_factor 105 = .ok (.iconst 1, 1) := by decide +kernel
theorem dX4_factor_106 : decode cX4_factor 106 = .ok (.iadd, 1) := by decide +kernel
theorem dX4_factor_107 : decode cX4_factor 107 = .ok (.invokevirtual 103, 3) := by decide +kernel
theorem dX4_factor_110 : decode cX4_factor 110 = .ok (.ifCond .eq 15, 3) := by decide +kernel
theorem dX4_factor_113 : decode cX4_factor 113 = .ok (.aload_n 0, 1) := by decide +kernel
theorem dX4_factor_114 : decode cX4_factor 114 = .ok (.iconst 1, 1) := by decide +kernel
theorem dX4_factor_115 : decode cX4_factor 115 = .ok (.invokevirtual 65, 3) := by decide +kernel
theorem dX4_factor_118 : decode cX4_factor 118 = .ok (.ifCond .eq 7, 3) := by decide +kernel
theorem dX4_factor_121 : decode cX4_factor 121 = .ok (.iconst 1, 1) := by decide +kernel
theorem dX4_factor_122 : decode cX4_factor 122 = .ok (.goto 4, 3) := by decide +kernel
theorem dX4_factor_125 : decode cX4_factor 125 = .ok (.iconst 0, 1) := by decide +kernel
theorem dX4_factor_126 : decode cX4_factor 126 = .ok (.ireturn, 1) := by decide +kernel
theorem dX4_factor_127 : decode cX4_factor 127 = .ok (.aload_n 0, 1) := by decide +kernel
theorem dX4_factor_128 : decode cX4_factor 128 = .ok (.dup, 1) := by decide +kernel
theorem dX4_factor_129 : decode cX4_factor 129 = .ok (.getfield 17, 3) := by decide +kernel
theorem dX4_factor_132 : decode cX4_factor 132 = .ok (.iconst 1, 1) := by decide +kernel
theorem dX4_factor_133 : decode cX4_factor 133 = .ok (.iadd, 1) := by decide +kernel
theorem dX4_factor_134 : decode cX4_factor 134 = .ok (.putfield 17, 3) := by decide +kernel
theorem dX4_factor_137 : decode cX4_factor 137 = .ok (.aload_n 0, 1) := by decide +kernel
theorem dX4_factor_138 : decode cX4_factor 138 = .ok (.iload_n 1, 1) := by decide +kernel
theorem dX4_factor_139 : decode cX4_factor 139 = .ok (.invokevirtual 71, 3) := by decide +kernel
theorem dX4_factor_142 : decode cX4_factor 142 = .ok (.ifCond .eq 15, 3) := by decide +kernel
theorem dX4_factor_145 : decode cX4_factor 145 = .ok (.aload_n 0, 1) := by decide +kernel
theorem dX4_factor_146 : decode cX4_factor 146 = .ok (.iload_n 2, 1) := by decide +kernel
theorem dX4_factor_147 : decode cX4_factor 147 = .ok (.invokevirtual 65, 3) := by decide +kernel
theorem dX4_factor_150 : decode cX4_factor 150 = .ok (.ifCond .eq 7, 3) := by decide +kernel
theorem dX4_factor_153 : decode cX4_factor 153 = .ok (.iconst 1, 1) := by decide +kernel
theorem dX4_factor_154 : decode cX4_factor 154 = .ok (.goto 4, 3) := by decide +kernel
theorem dX4_factor_157 : decode cX4_factor 157 = .ok (.iconst 0, 1) := by decide +kernel
theorem dX4_factor_158 : decode cX4_factor 158 = .ok (.ireturn, 1) := by decide +kernel
theorem dX4_factor_159 : decode cX4_factor 159 = .ok (.aload_n 0, 1) := by decide +kernel
theorem dX4_factor_160 : decode cX4_factor 160 = .ok (.dup, 1) := by decide +kernel
theorem dX4_factor_161 : decode cX4_factor 161 = .ok (.getfield 17, 3) := by decide +kernel
theorem dX4_factor_164 : decode cX4_factor 164 = .ok (.iconst 1, 1) := by decide +kernel
theorem dX4_factor_165 : decode cX4_factor 165 = .ok (.iadd, 1) := by decide +kernel
theorem dX4_factor_166 : decode cX4_factor 166 = .ok (.putfield 17, 3) := by decide +kernel
theorem dX4_factor_169 : decode cX4_factor 169 = .ok (.aload_n 0, 1) := by decide +kernel
theorem dX4_factor_170 : decode cX4_factor 170 = .ok (.iload_n 1, 1) := by decide +kernel
theorem dX4_factor_171 : decode cX4_factor 171 = .ok (.invokevirtual 62, 3) := by decide +kernel
theorem dX4_factor_174 : decode cX4_factor 174 = .ok (.ifCond .eq 15, 3) := by decide +kernel
theorem dX4_factor_177 : decode cX4_factor 177 = .ok (.aload_n 0, 1) := by decide +kernel
theorem dX4_factor_178 : decode cX4_factor 178 = .ok (.iconst 2, 1) := by decide +kernel
theorem dX4_factor_179 : decode cX4_factor 179 = .ok (.invokevirtual 65, 3) := by decide +kernel
theorem dX4_factor_182 : decode cX4_factor 182 = .ok (.ifCond .eq 7, 3) := by decide +kernel
theorem dX4_factor_185 : decode cX4_factor 185 = .ok (.iconst 1, 1) := by decide +kernel
theorem dX4_factor_186 : decode cX4_factor 186 = .ok (.goto 4, 3) := by decide +kernel
theorem dX4_factor_189 : decode cX4_factor 189 = .ok (.iconst 0, 1) := by decide +kernel
theorem dX4_factor_190 : decode cX4_factor 190 = .ok (.ireturn, 1) := by decide +kernel
theorem dX4_factor_191 : decode cX4_factor 191 = .ok (.aload_n 0, 1) := by decide +kernel
theorem dX4_factor_192 : decode cX4_factor 192 = .ok (.invokevirtual 91, 3) := by decide +kernel
theorem dX4_factor_195 : decode cX4_factor 195 = .ok (.ireturn, 1) := by decide +kernel
theorem dX4_factor_196 : decode cX4_factor 196 = .ok (.aload_n 0, 1) := by decide +kernel
theorem dX4_factor_197 : decode cX4_factor 197 = .ok (.iload_n 1, 1) := by decide +kernel
theorem dX4_factor_198 : decode cX4_factor 198 = .ok (.invokevirtual 71, 3) := by decide +kernel
theorem dX4_factor_201 : decode cX4_factor 201 = .ok (.ireturn, 1) := by decide +kernel
theorem dX4_joinsProducts_0 : decode cX4_joinsProducts 0 = .ok (.iload_n 0, 1) := by decide +kernel
theorem dX4_joinsProducts_1 : decode cX4_joinsProducts 1 = .ok (.bipush 43, 2) := by decide +kernel
theorem dX4_joinsProducts_3 : decode cX4_joinsProducts 3 = .ok (.if_icmp .eq 23, 3) := by decide +kernel
theorem dX4_joinsProducts_6 : decode cX4_joinsProducts 6 = .ok (.iload_n 0, 1) := by decide +kernel
theorem dX4_joinsProducts_7 : decode cX4_joinsProducts 7 = .ok (.bipush 45, 2) := by decide +kernel
theorem dX4_joinsProducts_9 : decode cX4_joinsProducts 9 = .ok (.if_icmp .eq 17, 3) := by decide +kernel
theorem dX4_joinsProducts_12 : decode cX4_joinsProducts 12 = .ok (.iload_n 0, 1) := by decide +kernel
theorem dX4_joinsProducts_13 : decode cX4_joinsProducts 13 = .ok (.sipush 311, 3) := by decide +kernel
theorem dX4_joinsProducts_16 : decode cX4_joinsProducts 16 = .ok (.if_icmp .eq 10, 3) := by decide +kernel
theorem dX4_joinsProducts_19 : decode cX4_joinsProducts 19 = .ok (.iload_n 0, 1) := by decide +kernel
theorem dX4_joinsProducts_20 : decode cX4_joinsProducts 20 = .ok (.sipush 312, 3) := by decide +kernel
theorem dX4_joinsProducts_23 : decode cX4_joinsProducts 23 = .ok (.if_icmp .ne 7, 3) := by decide +kernel
theorem dX4_joinsProducts_26 : decode cX4_joinsProducts 26 = .ok (.iconst 1, 1) := by decide +kernel
theorem dX4_joinsProducts_27 : decode cX4_joinsProducts 27 = .ok (.goto 4, 3) := by decide +kernel
theorem dX4_joinsProducts_30 : decode cX4_joinsProducts 30 = .ok (.iconst 0, 1) := by decide +kernel
theorem dX4_joinsProducts_31 : decode cX4_joinsProducts 31 = .ok (.ireturn, 1) := by decide +kernel
theorem dX4_joinsFactors_0 : decode cX4_joinsFactors 0 = .ok (.iload_n 0, 1) := by decide +kernel
theorem dX4_joinsFactors_1 : decode cX4_joinsFactors 1 = .ok (.bipush 42, 2) := by decide +kernel
theorem dX4_joinsFactors_3 : decode cX4_joinsFactors 3 = .ok (.if_icmp .eq 23, 3) := by decide +kernel
theorem dX4_joinsFactors_6 : decode cX4_joinsFactors 6 = .ok (.iload_n 0, 1) := by decide +kernel
theorem dX4_joinsFactors_7 : decode cX4_joinsFactors 7 = .ok (.bipush 47, 2) := by decide +kernel
theorem dX4_joinsFactors_9 : decode cX4_joinsFactors 9 = .ok (.if_icmp .eq 17, 3) := by decide +kernel
theorem dX4_joinsFactors_12 : decode cX4_joinsFactors 12 = .ok (.iload_n 0, 1) := by decide +kernel
theorem dX4_joinsFactors_13 : decode cX4_joinsFactors 13 = .ok (.sipush 309, 3) := by decide +kernel
theorem dX4_joinsFactors_16 : decode cX4_joinsFactors 16 = .ok (.if_icmp .eq 10, 3) := by decide +kernel
theorem dX4_joinsFactors_19 : decode cX4_joinsFactors 19 = .ok (.iload_n 0, 1) := by decide +kernel
theorem dX4_joinsFactors_20 : decode cX4_joinsFactors 20 = .ok (.sipush 310, 3) := by decide +kernel
theorem dX4_joinsFactors_23 : decode cX4_joinsFactors 23 = .ok (.if_icmp .ne 7, 3) := by decide +kernel
theorem dX4_joinsFactors_26 : decode cX4_joinsFactors 26 = .ok (.iconst 1, 1) := by decide +kernel
theorem dX4_joinsFactors_27 : decode cX4_joinsFactors 27 = .ok (.goto 4, 3) := by decide +kernel
theorem dX4_joinsFactors_30 : decode cX4_joinsFactors 30 = .ok (.iconst 0, 1) := by decide +kernel
theorem dX4_joinsFactors_31 : decode cX4_joinsFactors 31 = .ok (.ireturn, 1) := by decide +kernel
