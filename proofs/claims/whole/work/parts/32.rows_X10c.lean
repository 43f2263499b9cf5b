theorem dX10_root_46 : decode cX10_root 46 = .ok (.lstore 4, 2) := by decide +kernel
theorem dX10_root_48 : decode cX10_root 48 = .ok (.goto (-41), 3) := by decide +kernel
theorem dX10_root_51 : decode cX10_root 51 = .ok (.lload_n 2, 1) := by decide +kernel
theorem dX10_root_52 : decode cX10_root 52 = .ok (.lreturn, 1) := by decide +kernel
theorem dX10_down_0 : decode cX10_down 0 = .ok (.lload_n 0, 1) := by decide +kernel
theorem dX10_down_1 : decode cX10_down 1 = .ok (.lload_n 2, 1) := by decide +kernel
theorem dX10_down_2 : decode cX10_down 2 = .ok (.ldiv, 1) := by decide +kernel
theorem dX10_down_3 : decode cX10_down 3 = .ok (.lstore 4, 2) := by decide +kernel
theorem dX10_down_5 : decode cX10_down 5 = .ok (.lload_n 0, 1) := by decide +kernel
theorem dX10_down_6 : decode cX10_down 6 = .ok (.lload_n 2, 1) := by decide +kernel
theorem dX10_down_7 : decode cX10_down 7 = .ok (.lrem, 1) := by decide +kernel
theorem dX10_down_8 : decode cX10_down 8 = .ok (.lconst 0, 1) := by decide +kernel
theorem dX10_down_9 : decode cX10_down 9 = .ok (.lcmp, 1) := by decide +kernel
theorem dX10_down_10 : decode cX10_down 10 = .ok (.ifCond .eq 35, 3) := by decide +kernel
theorem dX10_down_13 : decode cX10_down 13 = .ok (.lload_n 0, 1) := by decide +kernel
theorem dX10_down_14 : decode cX10_down 14 = .ok (.lconst 0, 1) := by decide +kernel
theorem dX10_down_15 : decode cX10_down 15 = .ok (.lcmp, 1) := by decide +kernel
theorem dX10_down_16 : decode cX10_down 16 = .ok (.ifCond .ge 7, 3) := by decide +kernel
theorem dX10_down_19 : decode cX10_down 19 = .ok (.iconst 1, 1) := by decide +kernel
theorem dX10_down_20 : decode cX10_down 20 = .ok (.goto 4, 3) := by decide +kernel
theorem dX10_down_23 : decode cX10_down 23 = .ok (.iconst 0, 1) := by decide +kernel
theorem dX10_down_24 : decode cX10_down 24 = .ok (.lload_n 2, 1) := by decide +kernel
theorem dX10_down_25 : decode cX10_down 25 = .ok (.lconst 0, 1) := by decide +kernel
theorem dX10_down_26 : decode cX10_down 26 = .ok (.lcmp, 1) := by decide +kernel
theorem dX10_down_27 : decode cX10_down 27 = .ok (.ifCond .ge 7, 3) := by decide +kernel
theorem dX10_down_30 : decode cX10_down 30 = .ok (.iconst 1, 1) := by decide +kernel
theorem dX10_down_31 : decode cX10_down 31 = .ok (.goto 4, 3) := by decide +kernel
theorem dX10_down_34 : decode cX10_down 34 = .ok (.iconst 0, 1) := by decide +kernel
theorem dX10_down_35 : decode cX10_down 35 = .ok (.if_icmp .eq 10, 3) := by decide +kernel
theorem dX10_down_38 : decode cX10_down 38 = .ok (.lload 4, 2) := by decide +kernel
theorem dX10_down_40 : decode cX10_down 40 = .ok (.lconst 1, 1) := by decide +kernel
theorem dX10_down_41 : decode cX10_down 41 = .ok (.lsub, 1) := by decide +kernel
theorem dX10_down_42 : decode cX10_down 42 = .ok (.goto 5, 3) := by decide +kernel
theorem dX10_down_45 : decode cX10_down 45 = .ok (.lload 4, 2) := by decide +kernel
theorem dX10_down_47 : decode cX10_down 47 = .ok (.lreturn, 1) := by decide +kernel
theorem dX10_alarmed_0 : decode cX10_alarmed 0 = .ok (.aload_n 0, 1) := by decide +kernel
theorem dX10_alarmed_1 : decode cX10_alarmed 1 = .ok (.iload_n 1, 1) := by decide +kernel
theorem dX10_alarmed_2 : decode cX10_alarmed 2 = .ok (.putfield 247, 3) := by decide +kernel
theorem dX10_alarmed_5 : decode cX10_alarmed 5 = .ok (.aload_n 0, 1) := by decide +kernel
theorem dX10_alarmed_6 : decode cX10_alarmed 6 = .ok (.getfield 26, 3) := by decide +kernel
theorem dX10_alarmed_9 : decode cX10_alarmed 9 = .ok (.areturn, 1) := by decide +kernel
set_option maxRecDepth 20000 in
theorem ggX10_fits_X10_alarmed : GoodIn wsX10_fits wsX10_alarmed := goodIn_r _ [7, 8, 9, 10, 11, 12, 13, 14, 15, 16, 17, 18, 19, 20, 21, 22, 23, 24, 25, 26, 27, 28] (by decide +kernel) (by decide +kernel)
set_option maxRecDepth 20000 in
theorem gX10_fits_X10_alarmed : GoodIn wsX10_fits (wsV RX10 254 RX10 yX10_alarmed wsX10_alarmed) := goodIn_app (goodIn_of _ (by decide +kernel)) ggX10_fits_X10_alarmed
theorem dX10_fits_0 : decode cX10_fits 0 = .ok (.lload_n 1, 1) := by decide +kernel
theorem dX10_fits_1 : decode cX10_fits 1 = .ok (.ldc2_w 250, 3) := by decide +kernel
theorem dX10_fits_4 : decode cX10_fits 4 = .ok (.lcmp, 1) := by decide +kernel
theorem dX10_fits_5 : decode cX10_fits 5 = .ok (.ifCond .gt 11, 3) := by decide +kernel
theorem dX10_fits_8 : decode cX10_fits 8 = .ok (.lload_n 1, 1) := by decide +kernel
theorem dX10_fits_9 : decode cX10_fits 9 = .ok (.ldc2_w 252, 3) := by decide +kernel
theorem dX10_fits_12 : decode cX10_fits 12 = .ok (.lcmp, 1) := by decide +kernel
theorem dX10_fits_13 : decode cX10_fits 13 = .ok (.ifCond .ge 9, 3) := by decide +kernel
theorem dX10_fits_16 : decode cX10_fits 16 = .ok (.aload_n 0, 1) := by decide +kernel
theorem dX10_fits_17 : decode cX10_fits 17 = .ok (.iconst 4, 1) := by decide +kernel
theorem dX10_fits_18 : decode cX10_fits 18 = .ok (.invokevirtual 254, 3) := by decide +kernel
theorem dX10_fits_21 : decode cX10_fits 21 = .ok (.athrow, 1) := by decide +kernel
theorem dX10_fits_22 : decode cX10_fits 22 = .ok (.lload_n 1, 1) := by decide +kernel
theorem dX10_fits_23 : decode cX10_fits 23 = .ok (.lreturn, 1) := by decide +kernel
set_option maxRecDepth 20000 in
theorem ggX10_bracketed_X10_test : GoodIn wsX10_bracketed wsX10_test := goodIn_r _ [75, 7, 8, 1, 9, 76, 77, 78, 5, 79, 80, 81, 82, 14, 15, 16, 17, 18, 0, 2, 3, 4, 6, 10, 11, 12, 13, 19, 20, 21, 22, 23, 24, 25, 26, 27, 28, 29, 30, 31, 32, 33, 34, 35, 36, 37, 38, 39, 40, 41, 42, 43, 44, 45, 46, 47, 48, 49, 50, 51, 52, 53, 54, 55, 56, 57, 58, 59, 60, 61, 62, 63, 64, 65, 66, 67, 68, 69, 70, 71, 72, 73, 74, 83, 84, 85, 86, 87, 88, 89, 90, 91, 92, 93, 94, 95, 96, 97, 98, 99, 100, 101, 102, 103, 104, 105, 106, 107, 108, 109, 110, 111, 112, 113, 114, 115, 116] (by decide +kernel) (by decide +kernel)
set_option maxRecDepth 20000 in
theorem gX10_bracketed_X10_test : GoodIn wsX10_bracketed (wsV RX10 258 RX10 yX10_test wsX10_test) := goodIn_app (goodIn_of _ (by decide +kernel)) ggX10_bracketed_X10_test
theorem dX10_bracketed_0 : decode cX10_bracketed 0 = .ok (.aload_n 0, 1) := by decide +kernel
theorem dX10_bracketed_1 : decode cX10_bracketed 1 = .ok (.dup, 1) := by decide +kernel
theorem dX10_bracketed_2 : decode cX10_bracketed 2 = .ok (.getfield 121, 3) := by decide +kernel
theorem dX10_bracketed_5 : decode cX10_bracketed 5 = .ok (.iconst 1, 1) := by decide +kernel
theorem dX10_bracketed_6 : decode cX10_bracketed 6 = .ok (.iadd, 1) := by decide +kernel
theorem dX10_bracketed_7 : decode cX10_bracketed 7 = .ok (.putfield 121, 3) := by decide +kernel
theorem dX10_bracketed_10 : decode cX10_bracketed 10 = .ok (.aload_n 0, 1) := by decide +kernel
theorem dX10_bracketed_11 : decode cX10_bracketed 11 = .ok (.invokevirtual 258, 3) := by decide +kernel
theorem dX10_bracketed_14 : decode cX10_bracketed 14 = .ok (.lstore_n 1, 1) := by decide +kernel
theorem dX10_bracketed_15 : decode cX10_bracketed 15 = .ok (.aload_n 0, 1) := by decide +kernel
theorem dX10_bracketed_16 : decode cX10_bracketed 16 = .ok (.dup, 1) := by decide +kernel
theorem dX10_bracketed_17 : decode cX10_bracketed 17 = .ok (.getfield 121, 3) := by decide +kernel
theorem dX10_bracketed_20 : decode cX10_bracketed 20 = .ok (.iconst 1, 1) := by decide +kernel
theorem dX10_bracketed_21 : decode cX10_bracketed 21 = .ok (.iadd, 1) := by decide +kernel
theorem dX10_bracketed_22 : decode cX10_bracketed 22 = .ok (.putfield 121, 3) := by decide +kernel
theorem dX10_bracketed_25 : decode cX10_bracketed 25 = .ok (.lload_n 1, 1) := by decide +kernel
theorem dX10_bracketed_26 : decode cX10_bracketed 26 = .ok (.lreturn, 1) := by decide +kernel
set_option maxRecDepth 20000 in
theorem ggX10_variableAt_X10_isSign : GoodIn wsX10_variableAt wsX10_isSign := goodIn_r _ [10, 2, 3, 1, 11, 12, 13, 9, 14, 15, 85, 86, 87, 88, 89, 90, 91, 92, 93, 94, 95, 96, 97, 98, 99, 100, 101, 102, 103, 104, 105, 106, 107, 108, 109, 110, 111, 112, 113, 114, 115, 116] (by decide +kernel) (by decide +kernel)
set_option maxRecDepth 20000 in
theorem gX10_variableAt_X10_isSign : GoodIn wsX10_variableAt (wsV RX10 144 RX10 yX10_isSign wsX10_isSign) := goodIn_app (goodIn_of _ (by decide +kernel)) ggX10_variableAt_X10_isSign
set_option maxRecDepth 20000 in
theorem ggX10_variableAt_X10_bracketed : GoodIn wsX10_variableAt wsX10_bracketed := goodIn_r _ [25, 1, 26, 27, 28, 9, 29, 2, 3, 4, 6, 7, 8, 10, 11, 12, 13, 14, 15, 30, 31, 32, 33, 34, 35, 16, 17, 18, 36, 37, 38, 39, 40, 41, 42, 43, 44, 19, 20, 21, 22, 23, 24, 45, 46, 47, 48, 49, 50, 51, 52, 53, 54, 55, 56, 57, 58, 59, 60, 61, 62, 63, 64, 65, 66, 67, 68, 69, 70, 71, 72, 73, 74, 75, 76, 77, 78, 79, 80, 81, 82, 83, 84, 0, 5, 85, 86, 87, 88, 89, 90, 91, 92, 93, 94, 95, 96, 97, 98, 99, 100, 101, 102, 103, 104, 105, 106, 107, 108, 109, 110, 111, 112, 113, 114, 115, 116] (by decide +kernel) (by decide +kernel)
set_option maxRecDepth 20000 in
theorem gX10_variableAt_X10_bracketed : GoodIn wsX10_variableAt (wsV RX10 262 RX10 yX10_bracketed wsX10_bracketed) := goodIn_app (goodIn_of _ (by decide +kernel)) ggX10_variableAt_X10_bracketed
set_option maxRecDepth 20000 in
theorem ggX10_variableAt_X10_alarmed : GoodIn wsX10_variableAt wsX10_alarmed := goodIn_r _ [22, 23, 24, 85, 86, 87, 88, 89, 90, 91, 92, 93, 94, 95, 96, 97, 98, 99, 100, 101, 102, 103] (by decide +kernel) (by decide +kernel)
set_option maxRecDepth 20000 in
theorem gX10_variableAt_X10_alarmed : GoodIn wsX10_variableAt (wsV RX10 254 RX10 yX10_alarmed wsX10_alarmed) := goodIn_app (goodIn_of _ (by decide +kernel)) ggX10_variableAt_X10_alarmed
theorem dX10_variableAt_0 : decode cX10_variableAt 0 = .ok (.aload_n 0, 1) := by decide +kernel
theorem dX10_variableAt_1 : decode cX10_variableAt 1 = .ok (.dup, 1) := by decide +kernel
theorem dX10_variableAt_2 : decode cX10_variableAt 2 = .ok (.getfield 121, 3) := by decide +kernel
theorem dX10_variableAt_5 : decode cX10_variableAt 5 = .ok (.iconst 1, 1) := by decide +kernel
theorem dX10_variableAt_6 : decode cX10_variableAt 6 = .ok (.iadd, 1) := by decide +kernel
theorem dX10_variableAt_7 : decode cX10_variableAt 7 = .ok (.putfield 121, 3) := by decide +kernel
theorem dX10_variableAt_10 : decode cX10_variableAt 10 = .ok (.aload_n 0, 1) := by decide +kernel
theorem dX10_variableAt_11 : decode cX10_variableAt 11 = .ok (.bipush 91, 2) := by decide +kernel
theorem dX10_variableAt_13 : decode cX10_variableAt 13 = .ok (.invokevirtual 144, 3) := by decide +kernel
theorem dX10_variableAt_16 : decode cX10_variableAt 16 = .ok (.ifCond .eq 11, 3) := by decide +kernel
theorem dX10_variableAt_19 : decode cX10_variableAt 19 = .ok (.aload_n 0, 1) := by decide +kernel
theorem dX10_variableAt_20 : decode cX10_variableAt 20 = .ok (.invokevirtual 262, 3) := by decide +kernel
theorem dX10_variableAt_23 : decode cX10_variableAt 23 = .ok (.lstore_n 1, 1) := by decide +kernel
theorem dX10_variableAt_24 : decode cX10_variableAt 24 = .ok (.goto 27, 3) := by decide +kernel
theorem dX10_variableAt_27 : decode cX10_variableAt 27 = .ok (.aload_n 0, 1) := by decide +kernel
theorem dX10_variableAt_28 : decode cX10_variableAt 28 = .ok (.getfield 53, 3) := by decide +kernel
theorem dX10_variableAt_31 : decode cX10_variableAt 31 = .ok (.getfield 71, 3) := by decide +kernel
theorem dX10_variableAt_34 : decode cX10_variableAt 34 = .ok (.aload_n 0, 1) := by decide +kernel
theorem dX10_variableAt_35 : decode cX10_variableAt 35 = .ok (.getfield 121, 3) := by decide +kernel
theorem dX10_variableAt_38 : decode cX10_variableAt 38 = .ok (.iaload, 1) := by decide +kernel
theorem dX10_variableAt_39 : decode cX10_variableAt 39 = .ok (.i2l, 1) := by decide +kernel
theorem dX10_variableAt_40 : decode cX10_variableAt 40 = .ok (.lstore_n 1, 1) := by decide +kernel
theorem dX10_variableAt_41 : decode cX10_variableAt 41 = .ok (.aload_n 0, 1) := by decide +kernel
theorem dX10_variableAt_42 : decode cX10_variableAt 42 = .ok (.dup, 1) := by decide +kernel
theorem dX10_variableAt_43 : decode cX10_variableAt 43 = .ok (.getfield 121, 3) := by decide +kernel
theorem dX10_variableAt_46 : decode cX10_variableAt 46 = .ok (.iconst 1, 1) := by decide +kernel
theorem dX10_variableAt_47 : decode cX10_variableAt 47 = .ok (.iadd, 1) := by decide +kernel
theorem dX10_variableAt_48 : decode cX10_variableAt 48 = .ok (.putfield 121, 3) := by decide +kernel
theorem dX10_variableAt_51 : decode cX10_variableAt 51 = .ok (.lload_n 1, 1) := by decide +kernel
theorem dX10_variableAt_52 : decode cX10_variableAt 52 = .ok (.ldc2_w 265, 3) := by decide +kernel
theorem dX10_variableAt_55 : decode cX10_variableAt 55 = .ok (.lrem, 1) := by decide +kernel
theorem dX10_variableAt_56 : decode cX10_variableAt 56 = .ok (.lconst 0, 1) := by decide +kernel
theorem dX10_variableAt_57 : decode cX10_variableAt 57 = .ok (.lcmp, 1) := by decide +kernel
theorem dX10_variableAt_58 : decode cX10_variableAt 58 = .ok (.ifCond .ne 19, 3) := by decide +kernel
theorem dX10_variableAt_61 : decode cX10_variableAt 61 = .ok (.lload_n 1, 1) := by decide +kernel
theorem dX10_variableAt_62 : decode cX10_variableAt 62 = .ok (.ldc2_w 265, 3) := by decide +kernel
theorem dX10_variableAt_65 : decode cX10_variableAt 65 = .ok (.lcmp, 1) := by decide +kernel
theorem dX10_variableAt_66 : decode cX10_variableAt 66 = .ok (.ifCond .lt 11, 3) := by decide +kernel
theorem dX10_variableAt_69 : decode cX10_variableAt 69 = .ok (.lload_n 1, 1) := by decide +kernel
theorem dX10_variableAt_70 : decode cX10_variableAt 70 = .ok (.ldc2_w 267, 3) := by decide +kernel
theorem dX10_variableAt_73 : decode cX10_variableAt 73 = .ok (.lcmp, 1) := by decide +kernel
theorem dX10_variableAt_74 : decode cX10_variableAt 74 = .ok (.ifCond .le 9, 3) := by decide +kernel
theorem dX10_variableAt_77 : decode cX10_variableAt 77 = .ok (.aload_n 0, 1) := by decide +kernel
theorem dX10_variableAt_78 : decode cX10_variableAt 78 = .ok (.iconst 2, 1) := by decide +kernel
theorem dX10_variableAt_79 : decode cX10_variableAt 79 = .ok (.invokevirtual 254, 3) := by decide +kernel
theorem dX10_variableAt_82 : decode cX10_variableAt 82 = .ok (.athrow, 1) := by decide +kernel
theorem dX10_variableAt_83 : decode cX10_variableAt 83 = .ok (.lload_n 1, 1) := by decide +kernel
theorem dX10_variableAt_84 : decode cX10_variableAt 84 = .ok (.ldc2_w 265, 3) := by decide +kernel
theorem dX10_variableAt_87 : decode cX10_variableAt 87 = .ok (.ldiv, 1) := by decide +kernel
theorem dX10_variableAt_88 : decode cX10_variableAt 88 = .ok (.l2i, 1) := by decide +kernel
theorem dX10_variableAt_89 : decode cX10_variableAt 89 = .ok (.ireturn, 1) := by decide +kernel
set_option maxRecDepth 20000 in
theorem ggX10_item_X10_isSign : GoodIn wsX10_item wsX10_isSign := goodIn_r _ [9, 3, 4, 2, 10, 11, 12, 8, 13, 14, 85, 86, 87, 88, 89, 90, 91, 92, 93, 94, 95, 96, 97, 98, 99, 100, 101, 102, 103, 104, 105, 106, 107, 108, 109, 110, 111, 112, 113, 114, 115, 116] (by decide +kernel) (by decide +kernel)
set_option maxRecDepth 20000 in
theorem gX10_item_X10_isSign : GoodIn wsX10_item (wsV RX10 144 RX10 yX10_isSign wsX10_isSign) := goodIn_app (goodIn_of _ (by decide +kernel)) ggX10_item_X10_isSign
set_option maxRecDepth 20000 in
theorem ggX10_item_X10_variableAt : GoodIn wsX10_item wsX10_variableAt := goodIn_r _ [83, 2, 3, 4, 26, 84, 5, 6, 7, 8, 9, 10, 11, 12, 13, 14, 18, 19, 20, 42, 43, 44, 45, 46, 47, 21, 22, 23, 24, 25, 27, 28, 29, 30, 31, 32, 33, 34, 35, 36, 37, 38, 39, 40, 41, 48, 49, 50, 51, 52, 0, 1, 15, 16, 17, 53, 54, 55, 56, 57, 58, 59, 60, 61, 62, 63, 64, 65, 66, 67, 68, 69, 70, 71, 72, 73, 74, 75, 76, 77, 78, 79, 80, 81, 82, 85, 86, 87, 88, 89, 90, 91, 92, 93, 94, 95, 96, 97, 98, 99, 100, 101, 102, 103, 104, 105, 106, 107, 108, 109, 110, 111, 112, 113, 114, 115, 116] (by decide +kernel) (by decide +kernel)
set_option maxRecDepth 20000 in
theorem gX10_item_X10_variableAt : GoodIn wsX10_item (wsV RX10 269 RX10 yX10_variableAt wsX10_variableAt) := goodIn_app (goodIn_of _ (by decide +kernel)) ggX10_item_X10_variableAt
set_option maxRecDepth 20000 in
theorem ggX10_item_X10_bracketed : GoodIn wsX10_item wsX10_bracketed := goodIn_r _ [21, 2, 22, 23, 24, 8, 25, 3, 4, 26, 5, 6, 7, 9, 10, 11, 12, 13, 14, 27, 28, 29, 30, 31, 32, 18, 19, 20, 33, 34, 35, 36, 37, 38, 39, 40, 41, 42, 43, 44, 45, 46, 47, 48, 49, 50, 51, 52, 0, 1, 15, 16, 17, 53, 54, 55, 56, 57, 58, 59, 60, 61, 62, 63, 64, 65, 66, 67, 68, 69, 70, 71, 72, 73, 74, 75, 76, 77, 78, 79, 80, 81, 82, 83, 84, 85, 86, 87, 88, 89, 90, 91, 92, 93, 94, 95, 96, 97, 98, 99, 100, 101, 102, 103, 104, 105, 106, 107, 108, 109, 110, 111, 112, 113, 114, 115, 116] (by decide +kernel) (by decide +kernel)
set_option maxRecDepth 20000 in
theorem gX10_item_X10_bracketed : GoodIn wsX10_item (wsV RX10 262 RX10 yX10_bracketed wsX10_bracketed) := goodIn_app (goodIn_of _ (by decide +kernel)) ggX10_item_X10_bracketed
theorem dX10_item_0 : decode cX10_item 0 = .ok (.aload_n 0, 1) := by decide +kernel
theorem dX10_item_1 : decode cX10_item 1 = .ok (.bipush 35, 2) := by decide +kernel
theorem dX10_item_3 : decode cX10_item 3 = .ok (.invokevirtual 144, 3) := by decide +kernel
theorem dX10_item_6 : decode cX10_item 6 = .ok (.ifCond .eq 13, 3) := by decide +kernel
theorem dX10_item_9 : decode cX10_item 9 = .ok (.aload_n 0, 1) := by decide +kernel
theorem dX10_item_10 : decode cX10_item 10 = .ok (.getfield 38, 3) := by decide +kernel
theorem dX10_item_13 : decode cX10_item 13 = .ok (.aload_n 0, 1) := by decide +kernel
theorem dX10_item_14 : decode cX10_item 14 = .ok (.invokevirtual 269, 3) := by decide +kernel
theorem dX10_item_17 : decode cX10_item 17 = .ok (.laload, 1) := by decide +kernel
theorem dX10_item_18 : decode cX10_item 18 = .ok (.lreturn, 1) := by decide +kernel
theorem dX10_item_19 : decode cX10_item 19 = .ok (.aload_n 0, 1) := by decide +kernel
theorem dX10_item_20 : decode cX10_item 20 = .ok (.bipush 91, 2) := by decide +kernel
theorem dX10_item_22 : decode cX10_item 22 = .ok (.invokevirtual 144, 3) := by decide +kernel
theorem dX10_item_25 : decode cX10_item 25 = .ok (.ifCond .eq 8, 3) := by decide +kernel
theorem dX10_item_28 : decode cX10_item 28 = .ok (.aload_n 0, 1) := by decide +kernel
theorem dX10_item_29 : decode cX10_item 29 = .ok (.invokevirtual 262, 3) := by decide +kernel
theorem dX10_item_32 : decode cX10_item 32 = .ok (.lreturn, 1) := by decide +kernel
theorem dX10_item_33 : decode cX10_item 33 = .ok (.aload_n 0, 1) := by decide +kernel
theorem dX10_item_34 : decode cX10_item 34 = .ok (.dup, 1) := by decide +kernel
theorem dX10_item_35 : decode cX10_item 35 = .ok (.getfield 121, 3) := by decide +kernel
theorem dX10_item_38 : decode cX10_item 38 = .ok (.iconst 1, 1) := by decide +kernel
theorem dX10_item_39 : decode cX10_item 39 = .ok (.iadd, 1) := by decide +kernel
theorem dX10_item_40 : decode cX10_item 40 = .ok (.putfield 121, 3) := by decide +kernel
theorem dX10_item_43 : decode cX10_item 43 = .ok (.aload_n 0, 1) := by decide +kernel
theorem dX10_item_44 : decode cX10_item 44 = .ok (.getfield 53, 3) := by decide +kernel
theorem dX10_item_47 : decode cX10_item 47 = .ok (.getfield 71, 3) := by decide +kernel
theorem dX10_item_50 : decode cX10_item 50 = .ok (.aload_n 0, 1) := by decide +kernel
theorem dX10_item_51 : decode cX10_item 51 = .ok (.getfield 121, 3) := by decide +kernel
theorem dX10_item_54 : decode cX10_item 54 = .ok (.iconst 1, 1) := by decide +kernel
theorem dX10_item_55 : decode cX10_item 55 = .ok (.isub, 1) := by decide +kernel
theorem dX10_item_56 : decode cX10_item 56 = .ok (.iaload, 1) := by decide +kernel
theorem dX10_item_57 : decode cX10_item 57 = .ok (.i2l, 1) := by decide +kernel
theorem dX10_item_58 : decode cX10_item 58 = .ok (.lreturn, 1) := by decide +kernel
set_option maxRecDepth 20000 in
theorem ggX10_factor_X10_isSign : GoodIn wsX10_factor wsX10_isSign := goodIn_r _ [9, 2, 3, 1, 10, 11, 12, 8, 13, 14, 85, 86, 87, 88, 89, 90, 91, 92, 93, 94, 95, 96, 97, 98, 99, 100, 101, 102, 103, 104, 105, 106, 107, 108, 109, 110, 111, 112, 113, 114, 115, 116] (by decide +kernel) (by decide +kernel)
set_option maxRecDepth 20000 in
theorem gX10_factor_X10_isSign : GoodIn wsX10_factor (wsV RX10 144 RX10 yX10_isSign wsX10_isSign) := goodIn_app (goodIn_of _ (by decide +kernel)) ggX10_factor_X10_isSign
set_option maxRecDepth 20000 in
theorem ggX10_factor_X10_factor : GoodIn wsX10_factor wsX10_factor := goodIn_r _ [0, 1, 2, 3, 4, 5, 6, 7, 8, 9, 10, 11, 12, 13, 14, 15, 16, 17, 18, 19, 20, 21, 22, 23, 24, 25, 26, 27, 28, 29, 30, 31, 32, 33, 34, 35, 36, 37, 38, 39, 40, 41, 42, 43, 44, 45, 46, 47, 48, 49, 50, 51, 52, 53, 54, 55, 56, 57, 58, 59, 60, 61, 62, 63, 64, 65, 66, 67, 68, 69, 70, 71, 72, 73, 74, 75, 76, 77, 78, 79, 80, 81, 82, 83, 84, 85, 86, 87, 88, 89, 90, 91, 92, 93, 94, 95, 96, 97, 98, 99, 100, 101, 102, 103, 104, 105, 106, 107, 108, 109, 110, 111, 112, 113, 114, 115, 116] (by decide +kernel) (by decide +kernel)
set_option maxRecDepth 20000 in
theorem gX10_factor_X10_factor : GoodIn wsX10_factor (wsV RX10 272 RX10 yX10_factor wsX10_factor) := goodIn_app (goodIn_of _ (by decide +kernel)) ggX10_factor_X10_factor
set_option maxRecDepth 20000 in
theorem ggX10_factor_X10_kind : GoodIn wsX10_factor wsX10_kind := goodIn_r _ [13, 2, 14, 1, 85, 86, 87, 88, 89, 90, 91, 92, 93, 94, 95, 96, 97, 98, 99, 100, 101, 102, 103, 104, 105, 106, 107, 108, 109, 110, 111, 112, 113, 114, 115, 116] (by decide +kernel) (by decide +kernel)
set_option maxRecDepth 20000 in
theorem gX10_factor_X10_kind : GoodIn wsX10_factor (wsV RX10 124 RX10 yX10_kind wsX10_kind) := goodIn_app (goodIn_of _ (by decide +kernel)) ggX10_factor_X10_kind
set_option maxRecDepth 20000 in
theorem ggX10_factor_X10_item : GoodIn wsX10_factor wsX10_item := goodIn_r _ [48, 49, 1, 2, 3, 5, 6, 7, 8, 9, 10, 11, 12, 13, 14, 50, 51, 52, 21, 22, 23, 44, 45, 46, 47, 0, 4, 15, 16, 17, 18, 19, 20, 24, 25, 26, 27, 28, 29, 30, 31, 32, 33, 34, 35, 36, 37, 38, 39, 40, 41, 42, 43, 53, 54, 55, 56, 57, 58, 59, 60, 61, 62, 63, 64, 65, 66, 67, 68, 69, 70, 71, 72, 73, 74, 75, 76, 77, 78, 79, 80, 81, 82, 83, 84, 85, 86, 87, 88, 89, 90, 91, 92, 93, 94, 95, 96, 97, 98, 99, 100, 101, 102, 103, 104, 105, 106, 107, 108, 109, 110, 111, 112, 113, 114, 115, 116] (by decide +kernel) (by decide +kernel)
set_option maxRecDepth 20000 in
theorem gX10_factor_X10_item : GoodIn wsX10_factor (wsV RX10 275 RX10 yX10_item wsX10_item) := goodIn_app (goodIn_of _ (by decide +kernel)) ggX10_factor_X10_item
set_option maxRecDepth 20000 in
theorem ggX10_factor_X10_bracketed : GoodIn wsX10_factor wsX10_bracketed := goodIn_r _ [44, 1, 45, 46, 47, 8, 0, 2, 3, 4, 5, 6, 7, 9, 10, 11, 12, 13, 14, 15, 16, 17, 18, 19, 20, 21, 22, 23, 24, 25, 26, 27, 28, 29, 30, 31, 32, 33, 34, 35, 36, 37, 38, 39, 40, 41, 42, 43, 48, 49, 50, 51, 52, 53, 54, 55, 56, 57, 58, 59, 60, 61, 62, 63, 64, 65, 66, 67, 68, 69, 70, 71, 72, 73, 74, 75, 76, 77, 78, 79, 80, 81, 82, 83, 84, 85, 86, 87, 88, 89, 90, 91, 92, 93, 94, 95, 96, 97, 98, 99, 100, 101, 102, 103, 104, 105, 106, 107, 108, 109, 110, 111, 112, 113, 114, 115, 116] (by decide +kernel) (by decide +kernel)
set_option maxRecDepth 20000 in
theorem gX10_factor_X10_bracketed : GoodIn wsX10_factor (wsV RX10 262 RX10 yX10_bracketed wsX10_bracketed) := goodIn_app (goodIn_of _ (by decide +kernel)) ggX10_factor_X10_bracketed
set_option maxRecDepth 20000 in
theorem ggX10_factor_X10_down : GoodIn wsX10_factor wsX10_down := goodIn_r _ [26] (by decide +kernel) (by decide +kernel)
set_option maxRecDepth 20000 in
theorem gX10_factor_X10_down : GoodIn wsX10_factor (va_wsS RX10 278 yX10_down wsX10_down) := goodIn_app (goodIn_of _ (by decide +kernel)) ggX10_factor_X10_down
set_option maxRecDepth 20000 in
theorem ggX10_factor_X10_fits : GoodIn wsX10_factor wsX10_fits := goodIn_r _ [30, 31, 32, 33, 34, 35, 8, 36, 37, 38, 85, 86, 87, 88, 89, 90, 91, 92, 93, 94, 95, 96, 97, 98, 99, 100, 101, 102, 103] (by decide +kernel) (by decide +kernel)
set_option maxRecDepth 20000 in
theorem gX10_factor_X10_fits : GoodIn wsX10_factor (wsV RX10 282 RX10 yX10_fits wsX10_fits) := goodIn_app (goodIn_of _ (by decide +kernel)) ggX10_factor_X10_fits
set_option maxRecDepth 20000 in
theorem ggX10_factor_X10_alarmed : GoodIn wsX10_factor wsX10_alarmed := goodIn_r _ [36, 37, 38, 85, 86, 87, 88, 89, 90, 91, 92, 93, 94, 95, 96, 97, 98, 99, 100, 101, 102, 103] (by decide +kernel) (by decide +kernel)
set_option maxRecDepth 20000 in
theorem gX10_factor_X10_alarmed : GoodIn wsX10_factor (wsV RX10 254 RX10 yX10_alarmed wsX10_alarmed) := goodIn_app (goodIn_of _ (by decide +kernel)) ggX10_factor_X10_alarmed
set_option maxRecDepth 20000 in
theorem ggX10_factor_X10_root : GoodIn wsX10_factor wsX10_root := goodIn_r _ [41, 42, 43] (by decide +kernel) (by decide +kernel)
set_option maxRecDepth 20000 in
theorem gX10_factor_X10_root : GoodIn wsX10_factor (va_wsS RX10 286 yX10_root wsX10_root) := goodIn_app (goodIn_of _ (by decide +kernel)) ggX10_factor_X10_root
theorem dX10_factor_0 : decode cX10_factor 0 = .ok (.aload_n 0, 1) := by decide +kernel
theorem dX10_factor_1 : decode cX10_factor 1 = .ok (.bipush 45, 2) := by decide +kernel
theorem dX10_factor_3 : decode cX10_factor 3 = .ok (.invokevirtual 144, 3) := by decide +kernel
theorem dX10_factor_6 : decode cX10_factor 6 = .ok (.ifCond .eq 19, 3) := by decide +kernel
theorem dX10_factor_9 : decode cX10_factor 9 = .ok (.aload_n 0, 1) := by decide +kernel
theorem dX10_factor_10 : decode cX10_factor 10 = .ok (.dup, 1) := by decide +kernel
theorem dX10_factor_11 : decode cX10_factor 11 = .ok (.getfield 121, 3) := by decide +kernel
theorem dX10_factor_14 : decode cX10_factor 14 = .ok (.iconst 1, 1) := by decide +kernel
theorem dX10_factor_15 : decode cX10_factor 15 = .ok (.iadd, 1) := by decide +kernel
theorem dX10_factor_16 : decode cX10_factor 16 = .ok (.putfield 121, 3) := by decide +kernel
theorem dX10_factor_19 : decode cX10_factor 19 = .ok (.aload_n 0, 1) := by decide +kernel
theorem dX10_factor_20 : decode cX10_factor 20 = .ok (.invokevirtual 272, 3) := by decide +kernel
theorem dX10_factor_23 : decode cX10_factor 23 = .ok (.lneg, 1) := by decide +kernel
theorem dX10_factor_24 : decode cX10_factor 24 = .ok (.lreturn, 1) := by decide +kernel
theorem dX10_factor_25 : decode cX10_factor 25 = .ok (.aload_n 0, 1) := by decide +kernel
theorem dX10_factor_26 : decode cX10_factor 26 = .ok (.invokevirtual 124, 3) := by decide +kernel
theorem dX10_factor_29 : decode cX10_factor 29 = .ok (.iconst 3, 1) := by decide +kernel
theorem dX10_factor_30 : decode cX10_factor 30 = .ok (.if_icmp .eq 8, 3) := by decide +kernel
theorem dX10_factor_33 : decode cX10_factor 33 = .ok (.aload_n 0, 1) := by decide +kernel
theorem dX10_factor_34 : decode cX10_factor 34 = .ok (.invokevirtual 275, 3) := by decide +kernel
theorem dX10_factor_37 : decode cX10_factor 37 = .ok (.lreturn, 1) := by decide +kernel
theorem dX10_factor_38 : decode cX10_factor 38 = .ok (.aload_n 0, 1) := by decide +kernel
theorem dX10_factor_39 : decode cX10_factor 39 = .ok (.getfield 53, 3) := by decide +kernel
theorem dX10_factor_42 : decode cX10_factor 42 = .ok (.getfield 71, 3) := by decide +kernel
theorem dX10_factor_45 : decode cX10_factor 45 = .ok (.aload_n 0, 1) := by decide +kernel
theorem dX10_factor_46 : decode cX10_factor 46 = .ok (.getfield 121, 3) := by decide +kernel
theorem dX10_factor_49 : decode cX10_factor 49 = .ok (.iaload, 1) := by decide +kernel
theorem dX10_factor_50 : decode cX10_factor 50 = .ok (.istore_n 1, 1) := by decide +kernel
theorem dX10_factor_51 : decode cX10_factor 51 = .ok (.aload_n 0, 1) := by decide +kernel
theorem dX10_factor_52 : decode cX10_factor 52 = .ok (.dup, 1) := by decide +kernel
theorem dX10_factor_53 : decode cX10_factor 53 = .ok (.getfield 121, 3) := by decide +kernel
theorem dX10_factor_56 : decode cX10_factor 56 = .ok (.iconst 1, 1) := by decide +kernel
theorem dX10_factor_57 : decode cX10_factor 57 = .ok (.iadd, 1) := by decide +kernel
theorem dX10_factor_58 : decode cX10_factor 58 = .ok (.putfield 121, 3) := by decide +kernel
theorem dX10_factor_61 : decode cX10_factor 61 = .ok (.aload_n 0, 1) := by decide +kernel
theorem dX10_factor_62 : decode cX10_factor 62 = .ok (.invokevirtual 262, 3) := by decide +kernel
theorem dX10_factor_65 : decode cX10_factor 65 = .ok (.lstore_n 2, 1) := by decide +kernel
theorem dX10_factor_66 : decode cX10_factor 66 = .ok (.iload_n 1, 1) := by decide +kernel
theorem dX10_factor_67 : decode cX10_factor 67 = .ok (.iconst 5, 1) := by decide +kernel
theorem dX10_factor_68 : decode cX10_factor 68 = .ok (.if_icmp .ne 16, 3) := by decide +kernel
theorem dX10_factor_71 : decode cX10_factor 71 = .ok (.lload_n 2, 1) := by decide +kernel
theorem dX10_factor_72 : decode cX10_factor 72 = .ok (.lconst 0, 1) := by decide +kernel
theorem dX10_factor_73 : decode cX10_factor 73 = .ok (.lcmp, 1) := by decide +kernel
theorem dX10_factor_74 : decode cX10_factor 74 = .ok (.ifCond .ge 8, 3) := by decide +kernel
theorem dX10_factor_77 : decode cX10_factor 77 = .ok (.lload_n 2, 1) := by decide +kernel
theorem dX10_factor_78 : decode cX10_factor 78 = .ok (.lneg, 1) := by decide +kernel
theorem dX10_factor_79 : decode cX10_factor 79 = .ok (.goto 4, 3) := by decide +kernel
theorem dX10_factor_82 : decode cX10_factor 82 = .ok (.lload_n 2, 1) := by decide +kernel
theorem dX10_factor_83 : decode cX10_factor 83 = .ok (.lreturn, 1) := by decide +kernel
theorem dX10_factor_84 : decode cX10_factor 84 = .ok (.iload_n 1, 1) := by decide +kernel
theorem dX10_factor_85 : decode cX10_factor 85 = .ok (.bipush 6, 2) := by decide +kernel
theorem dX10_factor_87 : decode cX10_factor 87 = .ok (.if_icmp .ne 19, 3) := by decide +kernel
theorem dX10_factor_90 : decode cX10_factor 90 = .ok (.aload_n 0, 1) := by decide +kernel
theorem dX10_factor_91 : decode cX10_factor 91 = .ok (.lload_n 2, 1) := by decide +kernel
theorem dX10_factor_92 : decode cX10_factor 92 = .ok (.ldc2_w 265, 3) := by decide +kernel
theorem dX10_factor_95 : decode cX10_factor 95 = .ok (.invokestatic 278, 3) := by decide +kernel
theorem dX10_factor_98 : decode cX10_factor 98 = .ok (.ldc2_w 265, 3) := by decide +kernel
theorem dX10_factor_101 : decode cX10_factor 101 = .ok (.lmul, 1) := by decide +kernel
theorem dX10_factor_102 : decode cX10_factor 102 = .ok (.invokevirtual 282, 3) := by decide +kernel
theorem dX10_factor_105 : decode cX10_factor 105 = .ok (.lreturn, 1) := by decide +kernel
theorem dX10_factor_106 : decode cX10_factor 106 = .ok (.iload_n 1, 1) := by decide +kernel
theorem dX10_factor_107 : decode cX10_factor 107 = .ok (.bipush 7, 2) := by decide +kernel
theorem dX10_factor_109 : decode cX10_factor 109 = .ok (.if_icmp .ne 21, 3) := by decide +kernel
theorem dX10_factor_112 : decode cX10_factor 112 = .ok (.aload_n 0, 1) := by decide +kernel
theorem dX10_factor_113 : decode cX10_factor 113 = .ok (.lload_n 2, 1) := by decide +kernel
theorem dX10_factor_114 : decode cX10_factor 114 = .ok (.lneg, 1) := by decide +kernel
theorem dX10_factor_115 : decode cX10_factor 115 = .ok (.ldc2_w 265, 3) := by decide +kernel
theorem dX10_factor_118 : decode cX10_factor 118 = .ok (.invokestatic 278, 3) := by decide +kernel
theorem dX10_factor_121 : decode cX10_factor 121 = .ok (.lneg, 1) := by decide +kernel
theorem dX10_factor_122 : decode cX10_factor 122 = .ok (.ldc2_w 265, 3) := by decide +kernel
theorem dX10_factor_125 : decode cX10_factor 125 = .ok (.lmul, 1) := by decide +kernel
theorem dX10_factor_126 : decode cX10_factor 126 = .ok (.invokevirtual 282, 3) := by decide +kernel
theorem dX10_factor_129 : decode cX10_factor 129 = .ok (.lreturn, 1) := by decide +kernel
theorem dX10_factor_130 : decode cX10_factor 130 = .ok (.lload_n 2, 1) := by decide +kernel
theorem dX10_factor_131 : decode cX10_factor 131 = .ok (.lconst 0, 1) := by decide +kernel
theorem dX10_factor_132 : decode cX10_factor 132 = .ok (.lcmp, 1) := by decide +kernel
theorem dX10_factor_133 : decode cX10_factor 133 = .ok (.ifCond .ge 9, 3) := by decide +kernel
theorem dX10_factor_136 : decode cX10_factor 136 = .ok (.aload_n 0, 1) := by decide +kernel
theorem dX10_factor_137 : decode cX10_factor 137 = .ok (.iconst 1, 1) := by decide +kernel
theorem dX10_factor_138 : decode cX10_factor 138 = .ok (.invokevirtual 254, 3) := by decide +kernel
theorem dX10_factor_141 : decode cX10_factor 141 = .ok (.athrow, 1) := by decide +kernel
theorem dX10_factor_142 : decode cX10_factor 142 = .ok (.aload_n 0, 1) := by decide +kernel
theorem dX10_factor_143 : decode cX10_factor 143 = .ok (.ldc2_w 265, 3) := by decide +kernel
theorem dX10_factor_146 : decode cX10_factor 146 = .ok (.lload_n 2, 1) := by decide +kernel
theorem dX10_factor_147 : decode cX10_factor 147 = .ok (.lmul, 1) := by decide +kernel
theorem dX10_factor_148 : decode cX10_factor 148 = .ok (.invokestatic 286, 3) := by decide +kernel
theorem dX10_factor_151 : decode cX10_factor 151 = .ok (.invokevirtual 282, 3) := by decide +kernel
theorem dX10_factor_154 : decode cX10_factor 154 = .ok (.lreturn, 1) := by decide +kernel
set_option maxRecDepth 20000 in
theorem ggX10_product_X10_factor : GoodIn wsX10_product wsX10_factor := goodIn_r _ [50, 3, 1, 2, 4, 13, 14, 15, 8, 16, 17, 18, 19, 20, 21, 5, 6, 7, 51, 52, 53, 54, 55, 56, 43, 44, 45, 37, 38, 39, 40, 41, 42, 31, 32, 33, 34, 35, 36, 57, 58, 59, 60, 61, 46, 47, 48, 49, 62, 63, 64, 65, 66, 0, 9, 10, 11, 12, 22, 23, 24, 25, 26, 27, 28, 29, 30, 67, 68, 69, 70, 71, 72, 73, 74, 75, 76, 77, 78, 79, 80, 81, 82, 83, 84, 85, 86, 87, 88, 89, 90, 91, 92, 93, 94, 95, 96, 97, 98, 99, 100, 101, 102, 103, 104, 105, 106, 107, 108, 109, 110, 111, 112, 113, 114, 115, 116] (by decide +kernel) (by decide +kernel)
set_option maxRecDepth 20000 in
theorem gX10_product_X10_factor : GoodIn wsX10_product (wsV RX10 272 RX10 yX10_factor wsX10_factor) := goodIn_app (goodIn_of _ (by decide +kernel)) ggX10_product_X10_factor
set_option maxRecDepth 20000 in
theorem ggX10_product_X10_isTimes : GoodIn wsX10_product wsX10_isTimes := goodIn_r _ [12, 13, 14, 15, 8, 16, 1, 2, 3, 17, 18, 19, 20, 21, 22, 23, 24, 25, 85, 86, 87, 88, 89, 90, 91, 92, 93, 94, 95, 96, 97, 98, 99, 100, 101, 102, 103, 104, 105, 106, 107, 108, 109, 110, 111, 112, 113, 114, 115, 116] (by decide +kernel) (by decide +kernel)
set_option maxRecDepth 20000 in
theorem gX10_product_X10_isTimes : GoodIn wsX10_product (wsV RX10 171 RX10 yX10_isTimes wsX10_isTimes) := goodIn_app (goodIn_of _ (by decide +kernel)) ggX10_product_X10_isTimes
set_option maxRecDepth 20000 in
theorem ggX10_product_X10_kind : GoodIn wsX10_product wsX10_kind := goodIn_r _ [20, 1, 21, 3, 85, 86, 87, 88, 89, 90, 91, 92, 93, 94, 95, 96, 97, 98, 99, 100, 101, 102, 103, 104, 105, 106, 107, 108, 109, 110, 111, 112, 113, 114, 115, 116] (by decide +kernel) (by decide +kernel)
set_option maxRecDepth 20000 in
theorem gX10_product_X10_kind : GoodIn wsX10_product (wsV RX10 124 RX10 yX10_kind wsX10_kind) := goodIn_app (goodIn_of _ (by decide +kernel)) ggX10_product_X10_kind
set_option maxRecDepth 20000 in
theorem ggX10_product_X10_times : GoodIn wsX10_product wsX10_times := goodIn_r _ [29, 30, 4, 31, 32, 33, 8, 34, 35, 36, 37, 38, 39, 40, 41, 42, 85, 86, 87, 88, 89, 90, 91, 92, 93, 94, 95, 96, 97, 98, 99, 100, 101, 102, 103] (by decide +kernel) (by decide +kernel)
set_option maxRecDepth 20000 in
theorem gX10_product_X10_times : GoodIn wsX10_product (wsV RX10 289 RX10 yX10_times wsX10_times) := goodIn_app (goodIn_of _ (by decide +kernel)) ggX10_product_X10_times
set_option maxRecDepth 20000 in
theorem ggX10_product_X10_alarmed : GoodIn wsX10_product wsX10_alarmed := goodIn_r _ [34, 35, 36, 85, 86, 87, 88, 89, 90, 91, 92, 93, 94, 95, 96, 97, 98, 99, 100, 101, 102, 103] (by decide +kernel) (by decide +kernel)
set_option maxRecDepth 20000 in
theorem gX10_product_X10_alarmed : GoodIn wsX10_product (wsV RX10 254 RX10 yX10_alarmed wsX10_alarmed) := goodIn_app (goodIn_of _ (by decide +kernel)) ggX10_product_X10_alarmed
set_option maxRecDepth 20000 in
theorem ggX10_product_X10_down : GoodIn wsX10_product wsX10_down := goodIn_r _ [45] (by decide +kernel) (by decide +kernel)
set_option maxRecDepth 20000 in
theorem gX10_product_X10_down : GoodIn wsX10_product (va_wsS RX10 278 yX10_down wsX10_down) := goodIn_app (goodIn_of _ (by decide +kernel)) ggX10_product_X10_down
set_option maxRecDepth 20000 in
theorem ggX10_product_X10_fits : GoodIn wsX10_product wsX10_fits := goodIn_r _ [40, 41, 42, 31, 32, 33, 8, 34, 35, 36, 85, 86, 87, 88, 89, 90, 91, 92, 93, 94, 95, 96, 97, 98, 99, 100, 101, 102, 103] (by decide +kernel) (by decide +kernel)
set_option maxRecDepth 20000 in
theorem gX10_product_X10_fits : GoodIn wsX10_product (wsV RX10 282 RX10 yX10_fits wsX10_fits) := goodIn_app (goodIn_of _ (by decide +kernel)) ggX10_product_X10_fits
theorem dX10_product_0 : decode cX10_product 0 = .ok (.aload_n 0, 1) := by decide +kernel
theorem dX10_product_1 : decode cX10_product 1 = .ok (.invokevirtual 272, 3) := by decide +kernel
theorem dX10_product_4 : decode cX10_product 4 = .ok (.lstore_n 1, 1) := by decide +kernel
theorem dX10_product_5 : decode cX10_product 5 = .ok (.aload_n 0, 1) := by decide +kernel
theorem dX10_product_6 : decode cX10_product 6 = .ok (.invokevirtual 171, 3) := by decide +kernel
theorem dX10_product_9 : decode cX10_product 9 = .ok (.ifCond .eq 152, 3) := by decide +kernel
theorem dX10_product_12 : decode cX10_product 12 = .ok (.aload_n 0, 1) := by decide +kernel
theorem dX10_product_13 : decode cX10_product 13 = .ok (.invokevirtual 124, 3) := by decide +kernel
theorem dX10_product_16 : decode cX10_product 16 = .ok (.iconst 3, 1) := by decide +kernel
theorem dX10_product_17 : decode cX10_product 17 = .ok (.if_icmp .ne 18, 3) := by decide +kernel
theorem dX10_product_20 : decode cX10_product 20 = .ok (.aload_n 0, 1) := by decide +kernel
theorem dX10_product_21 : decode cX10_product 21 = .ok (.getfield 53, 3) := by decide +kernel
theorem dX10_product_24 : decode cX10_product 24 = .ok (.getfield 71, 3) := by decide +kernel
theorem dX10_product_27 : decode cX10_product 27 = .ok (.aload_n 0, 1) := by decide +kernel
theorem dX10_product_28 : decode cX10_product 28 = .ok (.getfield 121, 3) := by decide +kernel
theorem dX10_product_31 : decode cX10_product 31 = .ok (.iaload, 1) := by decide +kernel
theorem dX10_product_32 : decode cX10_product 32 = .ok (.goto 16, 3) := by decide +kernel
theorem dX10_product_35 : decode cX10_product 35 = .ok (.aload_n 0, 1) := by decide +kernel
theorem dX10_product_36 : decode cX10_product 36 = .ok (.getfield 53, 3) := by decide +kernel
theorem dX10_product_39 : decode cX10_product 39 = .ok (.getfield 71, 3) := by decide +kernel
theorem dX10_product_42 : decode cX10_product 42 = .ok (.aload_n 0, 1) := by decide +kernel
theorem dX10_product_43 : decode cX10_product 43 = .ok (.getfield 121, 3) := by decide +kernel
theorem dX10_product_46 : decode cX10_product 46 = .ok (.iaload, 1) := by decide +kernel
theorem dX10_product_47 : decode cX10_product 47 = .ok (.ineg, 1) := by decide +kernel
theorem dX10_product_48 : decode cX10_product 48 = .ok (.istore_n 3, 1) := by decide +kernel
theorem dX10_product_49 : decode cX10_product 49 = .ok (.aload_n 0, 1) := by decide +kernel
theorem dX10_product_50 : decode cX10_product 50 = .ok (.dup, 1) := by decide +kernel
theorem dX10_product_51 : decode cX10_product 51 = .ok (.getfield 121, 3) := by decide +kernel
theorem dX10_product_54 : decode cX10_product 54 = .ok (.iconst 1, 1) := by decide +kernel
theorem dX10_product_55 : decode cX10_product 55 = .ok (.iadd, 1) := by decide +kernel
theorem dX10_product_56 : decode cX10_product 56 = .ok (.putfield 121, 3) := by decide +kernel
theorem dX10_product_59 : decode cX10_product 59 = .ok (.aload_n 0, 1) := by decide +kernel
theorem dX10_product_60 : decode cX10_product 60 = .ok (.invokevirtual 272, 3) := by decide +kernel
theorem dX10_product_63 : decode cX10_product 63 = .ok (.lstore 4, 2) := by decide +kernel
theorem dX10_product_65 : decode cX10_product 65 = .ok (.iload_n 3, 1) := by decide +kernel
theorem dX10_product_66 : decode cX10_product 66 = .ok (.bipush (-42), 2) := by decide +kernel
theorem dX10_product_68 : decode cX10_product 68 = .ok (.if_icmp .ne 14, 3) := by decide +kernel
theorem dX10_product_71 : decode cX10_product 71 = .ok (.aload_n 0, 1) := by decide +kernel
theorem dX10_product_72 : decode cX10_product 72 = .ok (.lload_n 1, 1) := by decide +kernel
theorem dX10_product_73 : decode cX10_product 73 = .ok (.lload 4, 2) := by decide +kernel
theorem dX10_product_75 : decode cX10_product 75 = .ok (.invokevirtual 289, 3) := by decide +kernel
theorem dX10_product_78 : decode cX10_product 78 = .ok (.lstore_n 1, 1) := by decide +kernel
theorem dX10_product_79 : decode cX10_product 79 = .ok (.goto 79, 3) := by decide +kernel
theorem dX10_product_82 : decode cX10_product 82 = .ok (.iload_n 3, 1) := by decide +kernel
theorem dX10_product_83 : decode cX10_product 83 = .ok (.bipush 10, 2) := by decide +kernel
theorem dX10_product_85 : decode cX10_product 85 = .ok (.if_icmp .ne 27, 3) := by decide +kernel
theorem dX10_product_88 : decode cX10_product 88 = .ok (.lload_n 1, 1) := by decide +kernel
theorem dX10_product_89 : decode cX10_product 89 = .ok (.lconst 0, 1) := by decide +kernel
theorem dX10_product_90 : decode cX10_product 90 = .ok (.lcmp, 1) := by decide +kernel
theorem dX10_product_91 : decode cX10_product 91 = .ok (.ifCond .eq 16, 3) := by decide +kernel
theorem dX10_product_94 : decode cX10_product 94 = .ok (.lload 4, 2) := by decide +kernel
theorem dX10_product_96 : decode cX10_product 96 = .ok (.lconst 0, 1) := by decide +kernel
theorem dX10_product_97 : decode cX10_product 97 = .ok (.lcmp, 1) := by decide +kernel
theorem dX10_product_98 : decode cX10_product 98 = .ok (.ifCond .eq 9, 3) := by decide +kernel
theorem dX10_product_101 : decode cX10_product 101 = .ok (.ldc2_w 265, 3) := by decide +kernel
theorem dX10_product_104 : decode cX10_product 104 = .ok (.goto 4, 3) := by decide +kernel
theorem dX10_product_107 : decode cX10_product 107 = .ok (.lconst 0, 1) := by decide +kernel
theorem dX10_product_108 : decode cX10_product 108 = .ok (.lstore_n 1, 1) := by decide +kernel
theorem dX10_product_109 : decode cX10_product 109 = .ok (.goto 49, 3) := by decide +kernel
theorem dX10_product_112 : decode cX10_product 112 = .ok (.lload 4, 2) := by decide +kernel
theorem dX10_product_114 : decode cX10_product 114 = .ok (.lconst 0, 1) := by decide +kernel
theorem dX10_product_115 : decode cX10_product 115 = .ok (.lcmp, 1) := by decide +kernel
theorem dX10_product_116 : decode cX10_product 116 = .ok (.ifCond .ne 9, 3) := by decide +kernel
theorem dX10_product_119 : decode cX10_product 119 = .ok (.aload_n 0, 1) := by decide +kernel
theorem dX10_product_120 : decode cX10_product 120 = .ok (.iconst 1, 1) := by decide +kernel
theorem dX10_product_121 : decode cX10_product 121 = .ok (.invokevirtual 254, 3) := by decide +kernel
theorem dX10_product_124 : decode cX10_product 124 = .ok (.athrow, 1) := by decide +kernel
theorem dX10_product_125 : decode cX10_product 125 = .ok (.iload_n 3, 1) := by decide +kernel
theorem dX10_product_126 : decode cX10_product 126 = .ok (.bipush 9, 2) := by decide +kernel
theorem dX10_product_128 : decode cX10_product 128 = .ok (.if_icmp .ne 17, 3) := by decide +kernel
theorem dX10_product_131 : decode cX10_product 131 = .ok (.lload_n 1, 1) := by decide +kernel
theorem dX10_product_132 : decode cX10_product 132 = .ok (.lload 4, 2) := by decide +kernel
theorem dX10_product_134 : decode cX10_product 134 = .ok (.lload_n 1, 1) := by decide +kernel
theorem dX10_product_135 : decode cX10_product 135 = .ok (.lload 4, 2) := by decide +kernel
theorem dX10_product_137 : decode cX10_product 137 = .ok (.invokestatic 278, 3) := by decide +kernel
theorem dX10_product_140 : decode cX10_product 140 = .ok (.lmul, 1) := by decide +kernel
theorem dX10_product_141 : decode cX10_product 141 = .ok (.lsub, 1) := by decide +kernel
theorem dX10_product_142 : decode cX10_product 142 = .ok (.goto 15, 3) := by decide +kernel
theorem dX10_product_145 : decode cX10_product 145 = .ok (.aload_n 0, 1) := by decide +kernel
theorem dX10_product_146 : decode cX10_product 146 = .ok (.ldc2_w 265, 3) := by decide +kernel
theorem dX10_product_149 : decode cX10_product 149 = .ok (.lload_n 1, 1) := by decide +kernel
theorem dX10_product_150 : decode cX10_product 150 = .ok (.lmul, 1) := by decide +kernel
theorem dX10_product_151 : decode cX10_product 151 = .ok (.lload 4, 2) := by decide +kernel
theorem dX10_product_153 : decode cX10_product 153 = .ok (.ldiv, 1) := by decide +kernel
theorem dX10_product_154 : decode cX10_product 154 = .ok (.invokevirtual 282, 3) := by decide +kernel
theorem dX10_product_157 : decode cX10_product 157 = .ok (.lstore_n 1, 1) := by decide +kernel
theorem dX10_product_158 : decode cX10_product 158 = .ok (.goto (-153), 3) := by decide +kernel
theorem dX10_product_161 : decode cX10_product 161 = .ok (.lload_n 1, 1) := by decide +kernel
theorem dX10_product_162 : decode cX10_product 162 = .ok (.lreturn, 1) := by decide +kernel
set_option maxRecDepth 20000 in
theorem ggX10_times_X10_alarmed : GoodIn wsX10_times wsX10_alarmed := goodIn_r _ [7, 8, 9, 16, 17, 18, 19, 20, 21, 22, 23, 24, 25, 26, 27, 28, 29, 30, 31, 32, 33, 34] (by decide +kernel) (by decide +kernel)
set_option maxRecDepth 20000 in
theorem gX10_times_X10_alarmed : GoodIn wsX10_times (wsV RX10 254 RX10 yX10_alarmed wsX10_alarmed) := goodIn_app (goodIn_of _ (by decide +kernel)) ggX10_times_X10_alarmed
set_option maxRecDepth 20000 in
theorem ggX10_times_X10_fits : GoodIn wsX10_times wsX10_fits := goodIn_r _ [13, 14, 15, 3, 4, 5, 6, 7, 8, 9, 16, 17, 18, 19, 20, 21, 22, 23, 24, 25, 26, 27, 28, 29, 30, 31, 32, 33, 34] (by decide +kernel) (by decide +kernel)
set_option maxRecDepth 20000 in
theorem gX10_times_X10_fits : GoodIn wsX10_times (wsV RX10 282 RX10 yX10_fits wsX10_fits) := goodIn_app (goodIn_of _ (by decide +kernel)) ggX10_times_X10_fits
theorem dX10_times_0 : decode cX10_times 0 = .ok (.lload_n 1, 1) := by decide +kernel
theorem dX10_times_1 : decode cX10_times 1 = .ok (.lconst 0, 1) := by decide +kernel
theorem dX10_times_2 : decode cX10_times 2 = .ok (.lcmp, 1) := by decide +kernel
theorem dX10_times_3 : decode cX10_times 3 = .ok (.ifCond .ge 8, 3) := by decide +kernel
theorem dX10_times_6 : decode cX10_times 6 = .ok (.lload_n 1, 1) := by decide +kernel
theorem dX10_times_7 : decode cX10_times 7 = .ok (.lneg, 1) := by decide +kernel
theorem dX10_times_8 : decode cX10_times 8 = .ok (.goto 4, 3) := by decide +kernel
theorem dX10_times_11 : decode cX10_times 11 = .ok (.lload_n 1, 1) := by decide +kernel
theorem dX10_times_12 : decode cX10_times 12 = .ok (.lstore 5, 2) := by decide +kernel
theorem dX10_times_14 : decode cX10_times 14 = .ok (.lload_n 3, 1) := by decide +kernel
theorem dX10_times_15 : decode cX10_times 15 = .ok (.lconst 0, 1) := by decide +kernel
theorem dX10_times_16 : decode cX10_times 16 = .ok (.lcmp, 1) := by decide +kernel
theorem dX10_times_17 : decode cX10_times 17 = .ok (.ifCond .ge 8, 3) := by decide +kernel
theorem dX10_times_20 : decode cX10_times 20 = .ok (.lload_n 3, 1) := by decide +kernel
theorem dX10_times_21 : decode cX10_times 21 = .ok (.lneg, 1) := by decide +kernel
theorem dX10_times_22 : decode cX10_times 22 = .ok (.goto 4, 3) := by decide +kernel
theorem dX10_times_25 : decode cX10_times 25 = .ok (.lload_n 3, 1) := by decide +kernel
theorem dX10_times_26 : decode cX10_times 26 = .ok (.lstore 7, 2) := by decide +kernel
theorem dX10_times_28 : decode cX10_times 28 = .ok (.lload 7, 2) := by decide +kernel
theorem dX10_times_30 : decode cX10_times 30 = .ok (.lconst 0, 1) := by decide +kernel
theorem dX10_times_31 : decode cX10_times 31 = .ok (.lcmp, 1) := by decide +kernel
theorem dX10_times_32 : decode cX10_times 32 = .ok (.ifCond .le 21, 3) := by decide +kernel
theorem dX10_times_35 : decode cX10_times 35 = .ok (.lload 5, 2) := by decide +kernel
theorem dX10_times_37 : decode cX10_times 37 = .ok (.ldc2_w 292, 3) := by decide +kernel
theorem dX10_times_40 : decode cX10_times 40 = .ok (.lload 7, 2) := by decide +kernel
theorem dX10_times_42 : decode cX10_times 42 = .ok (.ldiv, 1) := by decide +kernel
theorem dX10_times_43 : decode cX10_times 43 = .ok (.lcmp, 1) := by decide +kernel
theorem dX10_times_44 : decode cX10_times 44 = .ok (.ifCond .le 9, 3) := by decide +kernel
theorem dX10_times_47 : decode cX10_times 47 = .ok (.aload_n 0, 1) := by decide +kernel
theorem dX10_times_48 : decode cX10_times 48 = .ok (.iconst 4, 1) := by decide +kernel
theorem dX10_times_49 : decode cX10_times 49 = .ok (.invokevirtual 254, 3) := by decide +kernel
theorem dX10_times_52 : decode cX10_times 52 = .ok (.athrow, 1) := by decide +kernel
theorem dX10_times_53 : decode cX10_times 53 = .ok (.aload_n 0, 1) := by decide +kernel
theorem dX10_times_54 : decode cX10_times 54 = .ok (.lload_n 1, 1) := by decide +kernel
theorem dX10_times_55 : decode cX10_times 55 = .ok (.lload_n 3, 1) := by decide +kernel
theorem dX10_times_56 : decode cX10_times 56 = .ok (.lmul, 1) := by decide +kernel
theorem dX10_times_57 : decode cX10_times 57 = .ok (.ldc2_w 265, 3) := by decide +kernel
theorem dX10_times_60 : decode cX10_times 60 = .ok (.ldiv, 1) := by decide +kernel
theorem dX10_times_61 : decode cX10_times 61 = .ok (.invokevirtual 282, 3) := by decide +kernel
theorem dX10_times_64 : decode cX10_times 64 = .ok (.lreturn, 1) := by decide +kernel
set_option maxRecDepth 20000 in
theorem ggX10_sum_X10_product : GoodIn wsX10_sum wsX10_product := goodIn_r _ [65, 1, 2, 3, 4, 43, 44, 45, 8, 66, 67, 68, 69, 13, 14, 15, 16, 17, 18, 19, 20, 21, 22, 23, 24, 25, 70, 71, 72, 73, 74, 32, 33, 34, 35, 36, 37, 26, 27, 28, 29, 30, 31, 52, 53, 54, 38, 39, 40, 41, 42, 46, 47, 48, 49, 50, 51, 55, 56, 57, 58, 59, 60, 61, 62, 63, 64, 0, 5, 6, 7, 9, 10, 11, 12, 75, 76, 77, 78, 79, 80, 81, 82, 83, 84, 85, 86, 87, 88, 89, 90, 91, 92, 93, 94, 95, 96, 97, 98, 99, 100, 101, 102, 103, 104, 105, 106, 107, 108, 109, 110, 111, 112, 113, 114, 115, 116] (by decide +kernel) (by decide +kernel)
set_option maxRecDepth 20000 in
theorem gX10_sum_X10_product : GoodIn wsX10_sum (wsV RX10 294 RX10 yX10_product wsX10_product) := goodIn_app (goodIn_of _ (by decide +kernel)) ggX10_sum_X10_product
set_option maxRecDepth 20000 in
theorem ggX10_sum_X10_isPlus : GoodIn wsX10_sum wsX10_isPlus := goodIn_r _ [12, 13, 14, 15, 8, 16, 1, 2, 3, 17, 18, 19, 20, 21, 22, 23, 24, 25, 85, 86, 87, 88, 89, 90, 91, 92, 93, 94, 95, 96, 97, 98, 99, 100, 101, 102, 103, 104, 105, 106, 107, 108, 109, 110, 111, 112, 113, 114, 115, 116] (by decide +kernel) (by decide +kernel)
set_option maxRecDepth 20000 in
theorem gX10_sum_X10_isPlus : GoodIn wsX10_sum (wsV RX10 175 RX10 yX10_isPlus wsX10_isPlus) := goodIn_app (goodIn_of _ (by decide +kernel)) ggX10_sum_X10_isPlus
set_option maxRecDepth 20000 in
theorem ggX10_sum_X10_kind : GoodIn wsX10_sum wsX10_kind := goodIn_r _ [20, 1, 21, 3, 85, 86, 87, 88, 89, 90, 91, 92, 93, 94, 95, 96, 97, 98, 99, 100, 101, 102, 103, 104, 105, 106, 107, 108, 109, 110, 111, 112, 113, 114, 115, 116] (by decide +kernel) (by decide +kernel)
set_option maxRecDepth 20000 in
theorem gX10_sum_X10_kind : GoodIn wsX10_sum (wsV RX10 124 RX10 yX10_kind wsX10_kind) := goodIn_app (goodIn_of _ (by decide +kernel)) ggX10_sum_X10_kind
set_option maxRecDepth 20000 in
theorem ggX10_sum_X10_fits : GoodIn wsX10_sum wsX10_fits := goodIn_r _ [29, 30, 31, 32, 33, 34, 8, 35, 36, 37, 85, 86, 87, 88, 89, 90, 91, 92, 93, 94, 95, 96, 97, 98, 99, 100, 101, 102, 103] (by decide +kernel) (by decide +kernel)
set_option maxRecDepth 20000 in
theorem gX10_sum_X10_fits : GoodIn wsX10_sum (wsV RX10 282 RX10 yX10_fits wsX10_fits) := goodIn_app (goodIn_of _ (by decide +kernel)) ggX10_sum_X10_fits
theorem dX10_sum_0 : decode cX10_sum 0 = .ok (.aload_n 0, 1) := by decide +kernel
theorem dX10_sum_1 : decode cX10_sum 1 = .ok (.invokevirtual 294, 3) := by decide +kernel
theorem dX10_sum_4 : decode cX10_sum 4 = .ok (.lstore_n 1, 1) := by decide +kernel
theorem dX10_sum_5 : decode cX10_sum 5 = .ok (.aload_n 0, 1) := by decide +kernel
theorem dX10_sum_6 : decode cX10_sum 6 = .ok (.invokevirtual 175, 3) := by decide +kernel
theorem dX10_sum_9 : decode cX10_sum 9 = .ok (.ifCond .eq 159, 3) := by decide +kernel
theorem dX10_sum_12 : decode cX10_sum 12 = .ok (.aload_n 0, 1) := by decide +kernel
theorem dX10_sum_13 : decode cX10_sum 13 = .ok (.invokevirtual 124, 3) := by decide +kernel
theorem dX10_sum_16 : decode cX10_sum 16 = .ok (.iconst 3, 1) := by decide +kernel
theorem dX10_sum_17 : decode cX10_sum 17 = .ok (.if_icmp .ne 18, 3) := by decide +kernel
theorem dX10_sum_20 : decode cX10_sum 20 = .ok (.aload_n 0, 1) := by decide +kernel
theorem dX10_sum_21 : decode cX10_sum 21 = .ok (.getfield 53, 3) := by decide +kernel
theorem dX10_sum_24 : decode cX10_sum 24 = .ok (.getfield 71, 3) := by decide +kernel
theorem dX10_sum_27 : decode cX10_sum 27 = .ok (.aload_n 0, 1) := by decide +kernel
theorem dX10_sum_28 : decode cX10_sum 28 = .ok (.getfield 121, 3) := by decide +kernel
theorem dX10_sum_31 : decode cX10_sum 31 = .ok (.iaload, 1) := by decide +kernel
theorem dX10_sum_32 : decode cX10_sum 32 = .ok (.goto 16, 3) := by decide +kernel
theorem dX10_sum_35 : decode cX10_sum 35 = .ok (.aload_n 0, 1) := by decide +kernel
theorem dX10_sum_36 : decode cX10_sum 36 = .ok (.getfield 53, 3) := by decide +kernel
theorem dX10_sum_39 : decode cX10_sum 39 = .ok (.getfield 71, 3) := by decide +kernel
theorem dX10_sum_42 : decode cX10_sum 42 = .ok (.aload_n 0, 1) := by decide +kernel
theorem dX10_sum_43 : decode cX10_sum 43 = .ok (.getfield 121, 3) := by decide +kernel
theorem dX10_sum_46 : decode cX10_sum 46 = .ok (.iaload, 1) := by decide +kernel
theorem dX10_sum_47 : decode cX10_sum 47 = .ok (.ineg, 1) := by decide +kernel
theorem dX10_sum_48 : decode cX10_sum 48 = .ok (.istore_n 3, 1) := by decide +kernel
theorem dX10_sum_49 : decode cX10_sum 49 = .ok (.aload_n 0, 1) := by decide +kernel
theorem dX10_sum_50 : decode cX10_sum 50 = .ok (.dup, 1) := by decide +kernel
theorem dX10_sum_51 : decode cX10_sum 51 = .ok (.getfield 121, 3) := by decide +kernel
theorem dX10_sum_54 : decode cX10_sum 54 = .ok (.iconst 1, 1) := by decide +kernel
theorem dX10_sum_55 : decode cX10_sum 55 = .ok (.iadd, 1) := by decide +kernel
theorem dX10_sum_56 : decode cX10_sum 56 = .ok (.putfield 121, 3) := by decide +kernel
theorem dX10_sum_59 : decode cX10_sum 59 = .ok (.aload_n 0, 1) := by decide +kernel
theorem dX10_sum_60 : decode cX10_sum 60 = .ok (.invokevirtual 294, 3) := by decide +kernel
theorem dX10_sum_63 : decode cX10_sum 63 = .ok (.lstore 4, 2) := by decide +kernel
theorem dX10_sum_65 : decode cX10_sum 65 = .ok (.iload_n 3, 1) := by decide +kernel
theorem dX10_sum_66 : decode cX10_sum 66 = .ok (.bipush (-43), 2) := by decide +kernel
theorem dX10_sum_68 : decode cX10_sum 68 = .ok (.if_icmp .ne 15, 3) := by decide +kernel
theorem dX10_sum_71 : decode cX10_sum 71 = .ok (.aload_n 0, 1) := by decide +kernel
theorem dX10_sum_72 : decode cX10_sum 72 = .ok (.lload_n 1, 1) := by decide +kernel
theorem dX10_sum_73 : decode cX10_sum 73 = .ok (.lload 4, 2) := by decide +kernel
theorem dX10_sum_75 : decode cX10_sum 75 = .ok (.ladd, 1) := by decide +kernel
theorem dX10_sum_76 : decode cX10_sum 76 = .ok (.invokevirtual 282, 3) := by decide +kernel
theorem dX10_sum_79 : decode cX10_sum 79 = .ok (.lstore_n 1, 1) := by decide +kernel
theorem dX10_sum_80 : decode cX10_sum 80 = .ok (.goto 85, 3) := by decide +kernel
theorem dX10_sum_83 : decode cX10_sum 83 = .ok (.iload_n 3, 1) := by decide +kernel
theorem dX10_sum_84 : decode cX10_sum 84 = .ok (.bipush (-45), 2) := by decide +kernel
theorem dX10_sum_86 : decode cX10_sum 86 = .ok (.if_icmp .ne 15, 3) := by decide +kernel
theorem dX10_sum_89 : decode cX10_sum 89 = .ok (.aload_n 0, 1) := by decide +kernel
theorem dX10_sum_90 : decode cX10_sum 90 = .ok (.lload_n 1, 1) := by decide +kernel
theorem dX10_sum_91 : decode cX10_sum 91 = .ok (.lload 4, 2) := by decide +kernel
theorem dX10_sum_93 : decode cX10_sum 93 = .ok (.lsub, 1) := by decide +kernel
theorem dX10_sum_94 : decode cX10_sum 94 = .ok (.invokevirtual 282, 3) := by decide +kernel
theorem dX10_sum_97 : decode cX10_sum 97 = .ok (.lstore_n 1, 1) := by decide +kernel
theorem dX10_sum_98 : decode cX10_sum 98 = .ok (.goto 67, 3) := by decide +kernel
theorem dX10_sum_101 : decode cX10_sum 101 = .ok (.iload_n 3, 1) := by decide +kernel
theorem dX10_sum_102 : decode cX10_sum 102 = .ok (.bipush 11, 2) := by decide +kernel
theorem dX10_sum_104 : decode cX10_sum 104 = .ok (.if_icmp .ne 27, 3) := by decide +kernel
theorem dX10_sum_107 : decode cX10_sum 107 = .ok (.lload_n 1, 1) := by decide +kernel
theorem dX10_sum_108 : decode cX10_sum 108 = .ok (.lconst 0, 1) := by decide +kernel
theorem dX10_sum_109 : decode cX10_sum 109 = .ok (.lcmp, 1) := by decide +kernel
theorem dX10_sum_110 : decode cX10_sum 110 = .ok (.ifCond .ne 10, 3) := by decide +kernel
theorem dX10_sum_113 : decode cX10_sum 113 = .ok (.lload 4, 2) := by decide +kernel
theorem dX10_sum_115 : decode cX10_sum 115 = .ok (.lconst 0, 1) := by decide +kernel
theorem dX10_sum_116 : decode cX10_sum 116 = .ok (.lcmp, 1) := by decide +kernel
theorem dX10_sum_117 : decode cX10_sum 117 = .ok (.ifCond .eq 9, 3) := by decide +kernel
theorem dX10_sum_120 : decode cX10_sum 120 = .ok (.ldc2_w 265, 3) := by decide +kernel
theorem dX10_sum_123 : decode cX10_sum 123 = .ok (.goto 4, 3) := by decide +kernel
theorem dX10_sum_126 : decode cX10_sum 126 = .ok (.lconst 0, 1) := by decide +kernel
theorem dX10_sum_127 : decode cX10_sum 127 = .ok (.lstore_n 1, 1) := by decide +kernel
theorem dX10_sum_128 : decode cX10_sum 128 = .ok (.goto 37, 3) := by decide +kernel
theorem dX10_sum_131 : decode cX10_sum 131 = .ok (.lload_n 1, 1) := by decide +kernel
theorem dX10_sum_132 : decode cX10_sum 132 = .ok (.lconst 0, 1) := by decide +kernel
theorem dX10_sum_133 : decode cX10_sum 133 = .ok (.lcmp, 1) := by decide +kernel
theorem dX10_sum_134 : decode cX10_sum 134 = .ok (.ifCond .eq 7, 3) := by decide +kernel
theorem dX10_sum_137 : decode cX10_sum 137 = .ok (.iconst 1, 1) := by decide +kernel
theorem dX10_sum_138 : decode cX10_sum 138 = .ok (.goto 4, 3) := by decide +kernel
theorem dX10_sum_141 : decode cX10_sum 141 = .ok (.iconst 0, 1) := by decide +kernel
theorem dX10_sum_142 : decode cX10_sum 142 = .ok (.lload 4, 2) := by decide +kernel
theorem dX10_sum_144 : decode cX10_sum 144 = .ok (.lconst 0, 1) := by decide +kernel
theorem dX10_sum_145 : decode cX10_sum 145 = .ok (.lcmp, 1) := by decide +kernel
theorem dX10_sum_146 : decode cX10_sum 146 = .ok (.ifCond .eq 7, 3) := by decide +kernel
theorem dX10_sum_149 : decode cX10_sum 149 = .ok (.iconst 1, 1) := by decide +kernel
theorem dX10_sum_150 : decode cX10_sum 150 = .ok (.goto 4, 3) := by decide +kernel
theorem dX10_sum_153 : decode cX10_sum 153 = .ok (.iconst 0, 1) := by decide +kernel
theorem dX10_sum_154 : decode cX10_sum 154 = .ok (.if_icmp .eq 9, 3) := by decide +kernel
theorem dX10_sum_157 : decode cX10_sum 157 = .ok (.ldc2_w 265, 3) := by decide +kernel
theorem dX10_sum_160 : decode cX10_sum 160 = .ok (.goto 4, 3) := by decide +kernel
theorem dX10_sum_163 : decode cX10_sum 163 = .ok (.lconst 0, 1) := by decide +kernel
theorem dX10_sum_164 : decode cX10_sum 164 = .ok (.lstore_n 1, 1) := by decide +kernel
theorem dX10_sum_165 : decode cX10_sum 165 = .ok (.goto (-160), 3) := by decide +kernel
theorem dX10_sum_168 : decode cX10_sum 168 = .ok (.lload_n 1, 1) := by decide +kernel
theorem dX10_sum_169 : decode cX10_sum 169 = .ok (.lreturn, 1) := by decide +kernel
set_option maxRecDepth 20000 in
theorem ggX10_test_X10_sum : GoodIn wsX10_test wsX10_sum := goodIn_r _ [75, 1, 2, 3, 4, 76, 77, 78, 8, 79, 80, 81, 82, 23, 24, 25, 26, 13, 14, 15, 16, 17, 66, 67, 68, 69, 39, 40, 41, 42, 43, 44, 45, 46, 47, 48, 49, 50, 18, 19, 20, 21, 22, 27, 28, 29, 30, 31, 32, 33, 34, 35, 36, 37, 38, 51, 52, 53, 54, 55, 56, 57, 58, 59, 60, 61, 62, 63, 64, 65, 70, 71, 72, 73, 74, 0, 5, 6, 7, 9, 10, 11, 12, 83, 84, 85, 86, 87, 88, 89, 90, 91, 92, 93, 94, 95, 96, 97, 98, 99, 100, 101, 102, 103, 104, 105, 106, 107, 108, 109, 110, 111, 112, 113, 114, 115, 116] (by decide +kernel) (by decide +kernel)
set_option maxRecDepth 20000 in
theorem gX10_test_X10_sum : GoodIn wsX10_test (wsV RX10 297 RX10 yX10_sum wsX10_sum) := goodIn_app (goodIn_of _ (by decide +kernel)) ggX10_test_X10_sum
set_option maxRecDepth 20000 in
theorem ggX10_test_X10_isRelation : GoodIn wsX10_test wsX10_isRelation := goodIn_r _ [12, 1, 2, 3, 13, 14, 15, 8, 16, 17, 85, 86, 87, 88, 89, 90, 91, 92, 93, 94, 95, 96, 97, 98, 99, 100, 101, 102, 103, 104, 105, 106, 107, 108, 109, 110, 111, 112, 113, 114, 115, 116] (by decide +kernel) (by decide +kernel)
set_option maxRecDepth 20000 in
theorem gX10_test_X10_isRelation : GoodIn wsX10_test (wsV RX10 181 RX10 yX10_isRelation wsX10_isRelation) := goodIn_app (goodIn_of _ (by decide +kernel)) ggX10_test_X10_isRelation
theorem dX10_test_0 : decode cX10_test 0 = .ok (.aload_n 0, 1) := by decide +kernel
theorem dX10_test_1 : decode cX10_test 1 = .ok (.invokevirtual 297, 3) := by decide +kernel
theorem dX10_test_4 : decode cX10_test 4 = .ok (.lstore_n 1, 1) := by decide +kernel
theorem dX10_test_5 : decode cX10_test 5 = .ok (.aload_n 0, 1) := by decide +kernel
theorem dX10_test_6 : decode cX10_test 6 = .ok (.invokevirtual 181, 3) := by decide +kernel
theorem dX10_test_9 : decode cX10_test 9 = .ok (.ifCond .ne 5, 3) := by decide +kernel
theorem dX10_test_12 : decode cX10_test 12 = .ok (.lload_n 1, 1) := by decide +kernel
theorem dX10_test_13 : decode cX10_test 13 = .ok (.lreturn, 1) := by decide +kernel
theorem dX10_test_14 : decode cX10_test 14 = .ok (.aload_n 0, 1) := by decide +kernel
theorem dX10_test_15 : decode cX10_test 15 = .ok (.getfield 53, 3) := by decide +kernel
theorem dX10_test_18 : decode cX10_test 18 = .ok (.getfield 71, 3) := by decide +kernel
theorem dX10_test_21 : decode cX10_test 21 = .ok (.aload_n 0, 1) := by decide +kernel
theorem dX10_test_22 : decode cX10_test 22 = .ok (.getfield 121, 3) := by decide +kernel
theorem dX10_test_25 : decode cX10_test 25 = .ok (.iaload, 1) := by decide +kernel
theorem dX10_test_26 : decode cX10_test 26 = .ok (.istore_n 3, 1) := by decide +kernel
theorem dX10_test_27 : decode cX10_test 27 = .ok (.aload_n 0, 1) := by decide +kernel
theorem dX10_test_28 : decode cX10_test 28 = .ok (.dup, 1) := by decide +kernel
theorem dX10_test_29 : decode cX10_test 29 = .ok (.getfield 121, 3) := by decide +kernel
theorem dX10_test_32 : decode cX10_test 32 = .ok (.iconst 1, 1) := by decide +kernel
theorem dX10_test_33 : decode cX10_test 33 = .ok (.iadd, 1) := by decide +kernel
theorem dX10_test_34 : decode cX10_test 34 = .ok (.putfield 121, 3) := by decide +kernel
theorem dX10_test_37 : decode cX10_test 37 = .ok (.aload_n 0, 1) := by decide +kernel
theorem dX10_test_38 : decode cX10_test 38 = .ok (.invokevirtual 297, 3) := by decide +kernel
theorem dX10_test_41 : decode cX10_test 41 = .ok (.lstore 4, 2) := by decide +kernel
theorem dX10_test_43 : decode cX10_test 43 = .ok (.iload_n 3, 1) := by decide +kernel
theorem dX10_test_44 : decode cX10_test 44 = .ok (.bipush 13, 2) := by decide +kernel
theorem dX10_test_46 : decode cX10_test 46 = .ok (.if_icmp .ne 18, 3) := by decide +kernel
theorem dX10_test_49 : decode cX10_test 49 = .ok (.lload_n 1, 1) := by decide +kernel
theorem dX10_test_50 : decode cX10_test 50 = .ok (.lload 4, 2) := by decide +kernel
theorem dX10_test_52 : decode cX10_test 52 = .ok (.lcmp, 1) := by decide +kernel
theorem dX10_test_53 : decode cX10_test 53 = .ok (.ifCond .ne 7, 3) := by decide +kernel
theorem dX10_test_56 : decode cX10_test 56 = .ok (.iconst 1, 1) := by decide +kernel
theorem dX10_test_57 : decode cX10_test 57 = .ok (.goto 103, 3) := by decide +kernel
theorem dX10_test_60 : decode cX10_test 60 = .ok (.iconst 0, 1) := by decide +kernel
theorem dX10_test_61 : decode cX10_test 61 = .ok (.goto 99, 3) := by decide +kernel
theorem dX10_test_64 : decode cX10_test 64 = .ok (.iload_n 3, 1) := by decide +kernel
theorem dX10_test_65 : decode cX10_test 65 = .ok (.bipush 14, 2) := by decide +kernel
theorem dX10_test_67 : decode cX10_test 67 = .ok (.if_icmp .ne 18, 3) := by decide +kernel
theorem dX10_test_70 : decode cX10_test 70 = .ok (.lload_n 1, 1) := by decide +kernel
theorem dX10_test_71 : decode cX10_test 71 = .ok (.lload 4, 2) := by decide +kernel
theorem dX10_test_73 : decode cX10_test 73 = .ok (.lcmp, 1) := by decide +kernel
theorem dX10_test_74 : decode cX10_test 74 = .ok (.ifCond .eq 7, 3) := by decide +kernel
theorem dX10_test_77 : decode cX10_test 77 = .ok (.iconst 1, 1) := by decide +kernel
theorem dX10_test_78 : decode cX10_test 78 = .ok (.goto 82, 3) := by decide +kernel
theorem dX10_test_81 : decode cX10_test 81 = .ok (.iconst 0, 1) := by decide +kernel
theorem dX10_test_82 : decode cX10_test 82 = .ok (.goto 78, 3) := by decide +kernel
theorem dX10_test_85 : decode cX10_test 85 = .ok (.iload_n 3, 1) := by decide +kernel
theorem dX10_test_86 : decode cX10_test 86 = .ok (.bipush 15, 2) := by decide +kernel
theorem dX10_test_88 : decode cX10_test 88 = .ok (.if_icmp .ne 18, 3) := by decide +kernel
theorem dX10_test_91 : decode cX10_test 91 = .ok (.lload_n 1, 1) := by decide +kernel
theorem dX10_test_92 : decode cX10_test 92 = .ok (.lload 4, 2) := by decide +kernel
theorem dX10_test_94 : decode cX10_test 94 = .ok (.lcmp, 1) := by decide +kernel
theorem dX10_test_95 : decode cX10_test 95 = .ok (.ifCond .ge 7, 3) := by decide +kernel
theorem dX10_test_98 : decode cX10_test 98 = .ok (.iconst 1, 1) := by decide +kernel
theorem dX10_test_99 : decode cX10_test 99 = .ok (.goto 61, 3) := by decide +kernel
theorem dX10_test_102 : decode cX10_test 102 = .ok (.iconst 0, 1) := by decide +kernel
theorem dX10_test_103 : decode cX10_test 103 = .ok (.goto 57, 3) := by decide +kernel
theorem dX10_test_106 : decode cX10_test 106 = .ok (.iload_n 3, 1) := by decide +kernel
theorem dX10_test_107 : decode cX10_test 107 = .ok (.bipush 16, 2) := by decide +kernel
theorem dX10_test_109 : decode cX10_test 109 = .ok (.if_icmp .ne 18, 3) := by decide +kernel
theorem dX10_test_112 : decode cX10_test 112 = .ok (.lload_n 1, 1) := by decide +kernel
theorem dX10_test_113 : decode cX10_test 113 = .ok (.lload 4, 2) := by decide +kernel
theorem dX10_test_115 : decode cX10_test 115 = .ok (.lcmp, 1) := by decide +kernel
theorem dX10_test_116 : decode cX10_test 116 = .ok (.ifCond .gt 7, 3) := by decide +kernel
theorem dX10_test_119 : decode cX10_test 119 = .ok (.iconst 1, 1) := by decide +kernel
theorem dX10_test_120 : decode cX10_test 120 = .ok (.goto 40, 3) := by decide +kernel
theorem dX10_test_123 : decode cX10_test 123 = .ok (.iconst 0, 1) := by decide +kernel
theorem dX10_test_124 : decode cX10_test 124 = .ok (.goto 36, 3) := by decide +kernel
theorem dX10_test_127 : decode cX10_test 127 = .ok (.iload_n 3, 1) := by decide +kernel
theorem dX10_test_128 : decode cX10_test 128 = .ok (.bipush 17, 2) := by decide +kernel
theorem dX10_test_130 : decode cX10_test 130 = .ok (.if_icmp .ne 18, 3) := by decide +kernel
theorem dX10_test_133 : decode cX10_test 133 = .ok (.lload_n 1, 1) := by decide +kernel
theorem dX10_test_134 : decode cX10_test 134 = .ok (.lload 4, 2) := by decide +kernel
theorem dX10_test_136 : decode cX10_test 136 = .ok (.lcmp, 1) := by decide +kernel
theorem dX10_test_137 : decode cX10_test 137 = .ok (.ifCond .le 7, 3) := by decide +kernel
theorem dX10_test_140 : decode cX10_test 140 = .ok (.iconst 1, 1) := by decide +kernel
theorem dX10_test_141 : decode cX10_test 141 = .ok (.goto 19, 3) := by decide +kernel
theorem dX10_test_144 : decode cX10_test 144 = .ok (.iconst 0, 1) := by decide +kernel
theorem dX10_test_145 : decode cX10_test 145 = .ok (.goto 15, 3) := by decide +kernel
theorem dX10_test_148 : decode cX10_test 148 = .ok (.lload_n 1, 1) := by decide +kernel
theorem dX10_test_149 : decode cX10_test 149 = .ok (.lload 4, 2) := by decide +kernel
theorem dX10_test_151 : decode cX10_test 151 = .ok (.lcmp, 1) := by decide +kernel
theorem dX10_test_152 : decode cX10_test 152 = .ok (.ifCond .lt 7, 3) := by decide +kernel
theorem dX10_test_155 : decode cX10_test 155 = .ok (.iconst 1, 1) := by decide +kernel
theorem dX10_test_156 : decode cX10_test 156 = .ok (.goto 4, 3) := by decide +kernel
theorem dX10_test_159 : decode cX10_test 159 = .ok (.iconst 0, 1) := by decide +kernel
theorem dX10_test_160 : decode cX10_test 160 = .ok (.istore 6, 2) := by decide +kernel
theorem dX10_test_162 : decode cX10_test 162 = .ok (.iload 6, 2) := by decide +kernel
theorem dX10_test_164 : decode cX10_test 164 = .ok (.ifCond .eq 9, 3) := by decide +kernel
theorem dX10_test_167 : decode cX10_test 167 = .ok (.ldc2_w 265, 3) := by decide +kernel
theorem dX10_test_170 : decode cX10_test 170 = .ok (.goto 4, 3) := by decide +kernel
theorem dX10_test_173 : decode cX10_test 173 = .ok (.lconst 0, 1) := by decide +kernel
theorem dX10_test_174 : decode cX10_test 174 = .ok (.lreturn, 1) := by decide +kernel
set_option maxRecDepth 20000 in
theorem ggX10_run_X10_alarmed : GoodIn wsX10_run wsX10_alarmed := goodIn_r _ [13, 8, 14, 109, 110, 111, 112, 113, 114, 115, 116, 117, 118, 119, 120, 121, 122, 123, 124, 125, 126, 127] (by decide +kernel) (by decide +kernel)
set_option maxRecDepth 20000 in
theorem gX10_run_X10_alarmed : GoodIn wsX10_run (wsV RX10 254 RX10 yX10_alarmed wsX10_alarmed) := goodIn_app (goodIn_of _ (by decide +kernel)) ggX10_run_X10_alarmed
set_option maxRecDepth 20000 in
theorem ggX10_run_X10_done : GoodIn wsX10_run wsX10_done := goodIn_r _ [18, 4, 19, 20, 21, 22, 23, 24, 25, 26, 27, 28, 12, 29, 30, 31, 32, 33, 34, 35, 36, 37, 38, 39, 40, 41, 42, 43, 44, 45, 46, 47, 9, 10, 11, 13, 8, 14, 48, 49, 50, 51, 52, 53, 54, 55, 56, 57, 58, 59, 60, 61, 62, 63, 64, 65, 66, 67, 68, 69, 70, 71, 72, 73, 74, 75, 76, 77, 78, 79, 80, 81, 82, 83, 84, 85, 86, 87, 88, 89, 90, 91, 92, 93, 94, 95, 96, 97, 98, 99, 100, 101, 102, 103, 104, 105, 106, 107, 7, 108, 109, 110, 111, 112, 113, 114, 115, 116, 117, 118, 119, 120, 121, 122, 123, 124, 125, 126, 127, 128, 129, 130, 131, 132, 133, 134, 135, 136, 137, 138, 139, 140] (by decide +kernel) (by decide +kernel)
set_option maxRecDepth 20000 in
theorem gX10_run_X10_done : GoodIn wsX10_run (wsV RX10 306 RX10 yX10_done wsX10_done) := goodIn_app (goodIn_of _ (by decide +kernel)) ggX10_run_X10_done
theorem dX10_run_0 : decode cX10_run 0 = .ok (.aload_n 0, 1) := by decide +kernel
theorem dX10_run_1 : decode cX10_run 1 = .ok (.getfield 239, 3) := by decide +kernel
theorem dX10_run_4 : decode cX10_run 4 = .ok (.ifCond .eq 14, 3) := by decide +kernel
theorem dX10_run_7 : decode cX10_run 7 = .ok (.iload_n 1, 1) := by decide +kernel
theorem dX10_run_8 : decode cX10_run 8 = .ok (.ifCond .lt 10, 3) := by decide +kernel
theorem dX10_run_11 : decode cX10_run 11 = .ok (.iload_n 1, 1) := by decide +kernel
theorem dX10_run_12 : decode cX10_run 12 = .ok (.sipush 30000, 3) := by decide +kernel
theorem dX10_run_15 : decode cX10_run 15 = .ok (.if_icmp .le 5, 3) := by decide +kernel
theorem dX10_run_18 : decode cX10_run 18 = .ok (.iconst (-1), 1) := by decide +kernel
theorem dX10_run_19 : decode cX10_run 19 = .ok (.ireturn, 1) := by decide +kernel
theorem dX10_run_20 : decode cX10_run 20 = .ok (.aload_n 0, 1) := by decide +kernel
theorem dX10_run_21 : decode cX10_run 21 = .ok (.aload_n 0, 1) := by decide +kernel
theorem dX10_run_22 : decode cX10_run 22 = .ok (.getfield 10, 3) := by decide +kernel
theorem dX10_run_25 : decode cX10_run 25 = .ok (.putfield 53, 3) := by decide +kernel
theorem dX10_run_28 : decode cX10_run 28 = .ok (.aload_n 0, 1) := by decide +kernel
theorem dX10_run_29 : decode cX10_run 29 = .ok (.iconst 0, 1) := by decide +kernel
theorem dX10_run_30 : decode cX10_run 30 = .ok (.putfield 300, 3) := by decide +kernel
theorem dX10_run_33 : decode cX10_run 33 = .ok (.aload_n 0, 1) := by decide +kernel
theorem dX10_run_34 : decode cX10_run 34 = .ok (.iconst 0, 1) := by decide +kernel
theorem dX10_run_35 : decode cX10_run 35 = .ok (.putfield 303, 3) := by decide +kernel
theorem dX10_run_38 : decode cX10_run 38 = .ok (.iconst 0, 1) := by decide +kernel
theorem dX10_run_39 : decode cX10_run 39 = .ok (.istore_n 2, 1) := by decide +kernel
theorem dX10_run_40 : decode cX10_run 40 = .ok (.iload_n 2, 1) := by decide +kernel
theorem dX10_run_41 : decode cX10_run 41 = .ok (.aload_n 0, 1) := by decide +kernel
theorem dX10_run_42 : decode cX10_run 42 = .ok (.getfield 53, 3) := by decide +kernel
theorem dX10_run_45 : decode cX10_run 45 = .ok (.getfield 215, 3) := by decide +kernel
theorem dX10_run_48 : decode cX10_run 48 = .ok (.if_icmp .ge 44, 3) := by decide +kernel
theorem dX10_run_51 : decode cX10_run 51 = .ok (.aload_n 0, 1) := by decide +kernel
theorem dX10_run_52 : decode cX10_run 52 = .ok (.iload_n 2, 1) := by decide +kernel
theorem dX10_run_53 : decode cX10_run 53 = .ok (.iconst 1, 1) := by decide +kernel
theorem dX10_run_54 : decode cX10_run 54 = .ok (.iadd, 1) := by decide +kernel
theorem dX10_run_55 : decode cX10_run 55 = .ok (.putfield 303, 3) := by decide +kernel
theorem dX10_run_58 : decode cX10_run 58 = .ok (.aload_n 0, 1) := by decide +kernel
theorem dX10_run_59 : decode cX10_run 59 = .ok (.getfield 300, 3) := by decide +kernel
theorem dX10_run_62 : decode cX10_run 62 = .ok (.iload_n 1, 1) := by decide +kernel
theorem dX10_run_63 : decode cX10_run 63 = .ok (.if_icmp .ne 10, 3) := by decide +kernel
theorem dX10_run_66 : decode cX10_run 66 = .ok (.aload_n 0, 1) := by decide +kernel
theorem dX10_run_67 : decode cX10_run 67 = .ok (.bipush 15, 2) := by decide +kernel
theorem dX10_run_69 : decode cX10_run 69 = .ok (.invokevirtual 254, 3) := by decide +kernel
theorem dX10_run_72 : decode cX10_run 72 = .ok (.athrow, 1) := by decide +kernel
theorem dX10_run_73 : decode cX10_run 73 = .ok (.aload_n 0, 1) := by decide +kernel
theorem dX10_run_74 : decode cX10_run 74 = .ok (.dup, 1) := by decide +kernel
theorem dX10_run_75 : decode cX10_run 75 = .ok (.getfield 300, 3) := by decide +kernel
theorem dX10_run_78 : decode cX10_run 78 = .ok (.iconst 1, 1) := by decide +kernel
theorem dX10_run_79 : decode cX10_run 79 = .ok (.iadd, 1) := by decide +kernel
theorem dX10_run_80 : decode cX10_run 80 = .ok (.putfield 300, 3) := by decide +kernel
theorem dX10_run_83 : decode cX10_run 83 = .ok (.aload_n 0, 1) := by decide +kernel
theorem dX10_run_84 : decode cX10_run 84 = .ok (.iload_n 2, 1) := by decide +kernel
theorem dX10_run_85 : decode cX10_run 85 = .ok (.invokevirtual 306, 3) := by decide +kernel
theorem dX10_run_88 : decode cX10_run 88 = .ok (.istore_n 2, 1) := by decide +kernel
theorem dX10_run_89 : decode cX10_run 89 = .ok (.goto (-49), 3) := by decide +kernel
theorem dX10_run_92 : decode cX10_run 92 = .ok (.goto 9, 3) := by decide +kernel
theorem dX10_run_95 : decode cX10_run 95 = .ok (.astore_n 3, 1) := by decide +kernel
theorem dX10_run_96 : decode cX10_run 96 = .ok (.aload_n 0, 1) := by decide +kernel
theorem dX10_run_97 : decode cX10_run 97 = .ok (.getfield 247, 3) := by decide +kernel
theorem dX10_run_100 : decode cX10_run 100 = .ok (.ireturn, 1) := by decide +kernel
theorem dX10_run_101 : decode cX10_run 101 = .ok (.aload_n 0, 1) := by decide +kernel
theorem dX10_run_102 : decode cX10_run 102 = .ok (.iconst 0, 1) := by decide +kernel
theorem dX10_run_103 : decode cX10_run 103 = .ok (.putfield 303, 3) := by decide +kernel
theorem dX10_run_106 : decode cX10_run 106 = .ok (.iconst 0, 1) := by decide +kernel
theorem dX10_run_107 : decode cX10_run 107 = .ok (.ireturn, 1) := by decide +kernel
set_option maxRecDepth 20000 in
theorem ggX10_done_X10_isLetter : GoodIn wsX10_done wsX10_isLetter := goodIn_r _ [13, 1, 6, 3, 14, 15, 16, 12, 17, 18, 100, 101, 102, 103, 104, 105, 106, 107, 108, 109, 110, 111, 112, 113, 114, 115, 116, 117, 118, 119, 120, 121, 122, 123, 124, 125, 126, 127, 128, 129, 130, 131] (by decide +kernel) (by decide +kernel)
set_option maxRecDepth 20000 in
theorem gX10_done_X10_isLetter : GoodIn wsX10_done (wsV RX10 196 RX10 yX10_isLetter wsX10_isLetter) := goodIn_app (goodIn_of _ (by decide +kernel)) ggX10_done_X10_isLetter
set_option maxRecDepth 20000 in
theorem ggX10_done_X10_variableAt : GoodIn wsX10_done wsX10_variableAt := goodIn_r _ [22, 3, 1, 6, 23, 24, 25, 26, 27, 12, 28, 14, 15, 16, 17, 18, 29, 30, 31, 32, 33, 34, 35, 36, 37, 38, 39, 40, 41, 42, 43, 44, 45, 46, 47, 48, 49, 50, 51, 52, 53, 54, 55, 56, 57, 58, 59, 60, 61, 62, 63, 5, 19, 20, 21, 64, 65, 66, 67, 68, 69, 70, 71, 72, 73, 74, 75, 76, 77, 78, 79, 80, 81, 82, 83, 84, 85, 86, 87, 88, 89, 90, 91, 92, 93, 100, 101, 102, 103, 104, 105, 106, 107, 108, 109, 110, 111, 112, 113, 114, 115, 116, 117, 118, 119, 120, 121, 122, 123, 124, 125, 126, 127, 128, 129, 130, 131] (by decide +kernel) (by decide +kernel)
set_option maxRecDepth 20000 in
theorem gX10_done_X10_variableAt : GoodIn wsX10_done (wsV RX10 269 RX10 yX10_variableAt wsX10_variableAt) := goodIn_app (goodIn_of _ (by decide +kernel)) ggX10_done_X10_variableAt
set_option maxRecDepth 20000 in
theorem ggX10_done_X10_sum : GoodIn wsX10_done wsX10_sum := goodIn_r _ [78, 1, 6, 3, 23, 79, 80, 81, 12, 82, 83, 84, 85, 25, 26, 27, 28, 14, 15, 16, 17, 18, 69, 70, 71, 72, 52, 53, 54, 55, 56, 57, 32, 33, 34, 35, 36, 37, 38, 39, 40, 41, 42, 43, 44, 45, 46, 47, 48, 29, 30, 31, 49, 50, 51, 58, 59, 60, 61, 62, 63, 5, 19, 20, 21, 64, 65, 66, 67, 68, 73, 74, 75, 76, 77, 86, 87, 88, 89, 90, 91, 92, 93, 22, 24, 100, 101, 102, 103, 104, 105, 106, 107, 108, 109, 110, 111, 112, 113, 114, 115, 116, 117, 118, 119, 120, 121, 122, 123, 124, 125, 126, 127, 128, 129, 130, 131] (by decide +kernel) (by decide +kernel)
set_option maxRecDepth 20000 in
theorem gX10_done_X10_sum : GoodIn wsX10_done (wsV RX10 297 RX10 yX10_sum wsX10_sum) := goodIn_app (goodIn_of _ (by decide +kernel)) ggX10_done_X10_sum
set_option maxRecDepth 20000 in
theorem ggX10_done_X10_bracketed : GoodIn wsX10_done wsX10_bracketed := goodIn_r _ [38, 3, 39, 40, 41, 12, 42, 1, 6, 23, 25, 26, 27, 28, 14, 15, 16, 17, 18, 43, 44, 45, 46, 47, 48, 29, 30, 31, 49, 50, 51, 52, 53, 54, 55, 56, 57, 32, 33, 34, 35, 36, 37, 58, 59, 60, 61, 62, 63, 5, 19, 20, 21, 64, 65, 66, 67, 68, 69, 70, 71, 72, 73, 74, 75, 76, 77, 78, 79, 80, 81, 82, 83, 84, 85, 86, 87, 88, 89, 90, 91, 92, 93, 22, 24, 100, 101, 102, 103, 104, 105, 106, 107, 108, 109, 110, 111, 112, 113, 114, 115, 116, 117, 118, 119, 120, 121, 122, 123, 124, 125, 126, 127, 128, 129, 130, 131] (by decide +kernel) (by decide +kernel)
set_option maxRecDepth 20000 in
theorem gX10_done_X10_bracketed : GoodIn wsX10_done (wsV RX10 262 RX10 yX10_bracketed wsX10_bracketed) := goodIn_app (goodIn_of _ (by decide +kernel)) ggX10_done_X10_bracketed
set_option maxRecDepth 20000 in
theorem ggX10_done_X10_lineOf : GoodIn wsX10_done wsX10_lineOf := goodIn_r _ [97, 1, 98, 99, 100, 101, 102, 103, 104, 105, 106, 107, 108, 109, 110, 111, 112, 113, 114, 115, 116, 117, 118, 119, 120, 121, 122, 123, 124, 125, 126, 127, 128, 129, 130, 131] (by decide +kernel) (by decide +kernel)
set_option maxRecDepth 20000 in
theorem gX10_done_X10_lineOf : GoodIn wsX10_done (wsV RX10 218 RX10 yX10_lineOf wsX10_lineOf) := goodIn_app (goodIn_of _ (by decide +kernel)) ggX10_done_X10_lineOf
theorem dX10_done_0 : decode cX10_done 0 = .ok (.aload_n 0, 1) := by decide +kernel
theorem dX10_done_1 : decode cX10_done 1 = .ok (.aload_n 0, 1) := by decide +kernel
theorem dX10_done_2 : decode cX10_done 2 = .ok (.getfield 53, 3) := by decide +kernel
theorem dX10_done_5 : decode cX10_done 5 = .ok (.getfield 221, 3) := by decide +kernel
theorem dX10_done_8 : decode cX10_done 8 = .ok (.iload_n 1, 1) := by decide +kernel
theorem dX10_done_9 : decode cX10_done 9 = .ok (.iaload, 1) := by decide +kernel
theorem dX10_done_10 : decode cX10_done 10 = .ok (.putfield 121, 3) := by decide +kernel
theorem dX10_done_13 : decode cX10_done 13 = .ok (.aload_n 0, 1) := by decide +kernel
theorem dX10_done_14 : decode cX10_done 14 = .ok (.bipush 78, 2) := by decide +kernel
theorem dX10_done_16 : decode cX10_done 16 = .ok (.invokevirtual 196, 3) := by decide +kernel
theorem dX10_done_19 : decode cX10_done 19 = .ok (.ifCond .eq 13, 3) := by decide +kernel
theorem dX10_done_22 : decode cX10_done 22 = .ok (.aload_n 0, 1) := by decide +kernel
theorem dX10_done_23 : decode cX10_done 23 = .ok (.dup, 1) := by decide +kernel
theorem dX10_done_24 : decode cX10_done 24 = .ok (.getfield 121, 3) := by decide +kernel
theorem dX10_done_27 : decode cX10_done 27 = .ok (.iconst 2, 1) := by decide +kernel
theorem dX10_done_28 : decode cX10_done 28 = .ok (.iadd, 1) := by decide +kernel
theorem dX10_done_29 : decode cX10_done 29 = .ok (.putfield 121, 3) := by decide +kernel
theorem dX10_done_32 : decode cX10_done 32 = .ok (.aload_n 0, 1) := by decide +kernel
theorem dX10_done_33 : decode cX10_done 33 = .ok (.getfield 53, 3) := by decide +kernel
theorem dX10_done_36 : decode cX10_done 36 = .ok (.getfield 193, 3) := by decide +kernel
theorem dX10_done_39 : decode cX10_done 39 = .ok (.iload_n 1, 1) := by decide +kernel
theorem dX10_done_40 : decode cX10_done 40 = .ok (.baload, 1) := by decide +kernel
theorem dX10_done_41 : decode cX10_done 41 = .ok (.tableswitch 180 2 6 #[35, 64, 111, 133, 170], 35) := by decide +kernel
theorem dX10_done_76 : decode cX10_done 76 = .ok (.aload_n 0, 1) := by decide +kernel
theorem dX10_done_77 : decode cX10_done 77 = .ok (.invokevirtual 269, 3) := by decide +kernel
theorem dX10_done_80 : decode cX10_done 80 = .ok (.istore_n 2, 1) := by decide +kernel
theorem dX10_done_81 : decode cX10_done 81 = .ok (.aload_n 0, 1) := by decide +kernel
theorem dX10_done_82 : decode cX10_done 82 = .ok (.dup, 1) := by decide +kernel
theorem dX10_done_83 : decode cX10_done 83 = .ok (.getfield 121, 3) := by decide +kernel
theorem dX10_done_86 : decode cX10_done 86 = .ok (.iconst 1, 1) := by decide +kernel
theorem dX10_done_87 : decode cX10_done 87 = .ok (.iadd, 1) := by decide +kernel
theorem dX10_done_88 : decode cX10_done 88 = .ok (.putfield 121, 3) := by decide +kernel
theorem dX10_done_91 : decode cX10_done 91 = .ok (.aload_n 0, 1) := by decide +kernel
theorem dX10_done_92 : decode cX10_done 92 = .ok (.getfield 38, 3) := by decide +kernel
theorem dX10_done_95 : decode cX10_done 95 = .ok (.iload_n 2, 1) := by decide +kernel
theorem dX10_done_96 : decode cX10_done 96 = .ok (.aload_n 0, 1) := by decide +kernel
theorem dX10_done_97 : decode cX10_done 97 = .ok (.invokevirtual 297, 3) := by decide +kernel
theorem dX10_done_100 : decode cX10_done 100 = .ok (.lastore, 1) := by decide +kernel
theorem dX10_done_101 : decode cX10_done 101 = .ok (.iload_n 1, 1) := by decide +kernel
theorem dX10_done_102 : decode cX10_done 102 = .ok (.iconst 1, 1) := by decide +kernel
theorem dX10_done_103 : decode cX10_done 103 = .ok (.iadd, 1) := by decide +kernel
theorem dX10_done_104 : decode cX10_done 104 = .ok (.ireturn, 1) := by decide +kernel
theorem dX10_done_105 : decode cX10_done 105 = .ok (.aload_n 0, 1) := by decide +kernel
theorem dX10_done_106 : decode cX10_done 106 = .ok (.dup, 1) := by decide +kernel
theorem dX10_done_107 : decode cX10_done 107 = .ok (.getfield 121, 3) := by decide +kernel
theorem dX10_done_110 : decode cX10_done 110 = .ok (.iconst 1, 1) := by decide +kernel
theorem dX10_done_111 : decode cX10_done 111 = .ok (.iadd, 1) := by decide +kernel
theorem dX10_done_112 : decode cX10_done 112 = .ok (.putfield 121, 3) := by decide +kernel
theorem dX10_done_115 : decode cX10_done 115 = .ok (.aload_n 0, 1) := by decide +kernel
theorem dX10_done_116 : decode cX10_done 116 = .ok (.invokevirtual 262, 3) := by decide +kernel
theorem dX10_done_119 : decode cX10_done 119 = .ok (.lconst 0, 1) := by decide +kernel
theorem dX10_done_120 : decode cX10_done 120 = .ok (.lcmp, 1) := by decide +kernel
theorem dX10_done_121 : decode cX10_done 121 = .ok (.ifCond .eq 27, 3) := by decide +kernel
theorem dX10_done_124 : decode cX10_done 124 = .ok (.aload_n 0, 1) := by decide +kernel
theorem dX10_done_125 : decode cX10_done 125 = .ok (.aload_n 0, 1) := by decide +kernel
theorem dX10_done_126 : decode cX10_done 126 = .ok (.getfield 53, 3) := by decide +kernel
theorem dX10_done_129 : decode cX10_done 129 = .ok (.getfield 71, 3) := by decide +kernel
theorem dX10_done_132 : decode cX10_done 132 = .ok (.aload_n 0, 1) := by decide +kernel
theorem dX10_done_133 : decode cX10_done 133 = .ok (.getfield 53, 3) := by decide +kernel
theorem dX10_done_136 : decode cX10_done 136 = .ok (.getfield 190, 3) := by decide +kernel
theorem dX10_done_139 : decode cX10_done 139 = .ok (.iload_n 1, 1) := by decide +kernel
theorem dX10_done_140 : decode cX10_done 140 = .ok (.iaload, 1) := by decide +kernel
theorem dX10_done_141 : decode cX10_done 141 = .ok (.iaload, 1) := by decide +kernel
theorem dX10_done_142 : decode cX10_done 142 = .ok (.invokevirtual 218, 3) := by decide +kernel
theorem dX10_done_145 : decode cX10_done 145 = .ok (.goto 6, 3) := by decide +kernel
theorem dX10_done_148 : decode cX10_done 148 = .ok (.iload_n 1, 1) := by decide +kernel
theorem dX10_done_149 : decode cX10_done 149 = .ok (.iconst 1, 1) := by decide +kernel
theorem dX10_done_150 : decode cX10_done 150 = .ok (.iadd, 1) := by decide +kernel
theorem dX10_done_151 : decode cX10_done 151 = .ok (.ireturn, 1) := by decide +kernel
theorem dX10_done_152 : decode cX10_done 152 = .ok (.aload_n 0, 1) := by decide +kernel
theorem dX10_done_153 : decode cX10_done 153 = .ok (.aload_n 0, 1) := by decide +kernel
theorem dX10_done_154 : decode cX10_done 154 = .ok (.getfield 53, 3) := by decide +kernel
theorem dX10_done_157 : decode cX10_done 157 = .ok (.getfield 71, 3) := by decide +kernel
theorem dX10_done_160 : decode cX10_done 160 = .ok (.aload_n 0, 1) := by decide +kernel
theorem dX10_done_161 : decode cX10_done 161 = .ok (.getfield 53, 3) := by decide +kernel
theorem dX10_done_164 : decode cX10_done 164 = .ok (.getfield 190, 3) := by decide +kernel
theorem dX10_done_167 : decode cX10_done 167 = .ok (.iload_n 1, 1) := by decide +kernel
theorem dX10_done_168 : decode cX10_done 168 = .ok (.iaload, 1) := by decide +kernel
theorem dX10_done_169 : decode cX10_done 169 = .ok (.iaload, 1) := by decide +kernel
theorem dX10_done_170 : decode cX10_done 170 = .ok (.invokevirtual 218, 3) := by decide +kernel
theorem dX10_done_173 : decode cX10_done 173 = .ok (.ireturn, 1) := by decide +kernel
theorem dX10_done_174 : decode cX10_done 174 = .ok (.aload_n 0, 1) := by decide +kernel
theorem dX10_done_175 : decode cX10_done 175 = .ok (.dup, 1) := by decide +kernel
theorem dX10_done_176 : decode cX10_done 176 = .ok (.getfield 121, 3) := by decide +kernel
theorem dX10_done_179 : decode cX10_done 179 = .ok (.iconst 1, 1) := by decide +kernel
theorem dX10_done_180 : decode cX10_done 180 = .ok (.iadd, 1) := by decide +kernel
theorem dX10_done_181 : decode cX10_done 181 = .ok (.putfield 121, 3) := by decide +kernel
theorem dX10_done_184 : decode cX10_done 184 = .ok (.aload_n 0, 1) := by decide +kernel
theorem dX10_done_185 : decode cX10_done 185 = .ok (.invokevirtual 262, 3) := by decide +kernel
theorem dX10_done_188 : decode cX10_done 188 = .ok (.lconst 0, 1) := by decide +kernel
theorem dX10_done_189 : decode cX10_done 189 = .ok (.lcmp, 1) := by decide +kernel
theorem dX10_done_190 : decode cX10_done 190 = .ok (.ifCond .ne 17, 3) := by decide +kernel
theorem dX10_done_193 : decode cX10_done 193 = .ok (.aload_n 0, 1) := by decide +kernel
theorem dX10_done_194 : decode cX10_done 194 = .ok (.getfield 53, 3) := by decide +kernel
theorem dX10_done_197 : decode cX10_done 197 = .ok (.getfield 187, 3) := by decide +kernel
theorem dX10_done_200 : decode cX10_done 200 = .ok (.iload_n 1, 1) := by decide +kernel
theorem dX10_done_201 : decode cX10_done 201 = .ok (.iaload, 1) := by decide +kernel
theorem dX10_done_202 : decode cX10_done 202 = .ok (.iconst 1, 1) := by decide +kernel
theorem dX10_done_203 : decode cX10_done 203 = .ok (.iadd, 1) := by decide +kernel
theorem dX10_done_204 : decode cX10_done 204 = .ok (.goto 6, 3) := by decide +kernel
theorem dX10_done_207 : decode cX10_done 207 = .ok (.iload_n 1, 1) := by decide +kernel
theorem dX10_done_208 : decode cX10_done 208 = .ok (.iconst 1, 1) := by decide +kernel
theorem dX10_done_209 : decode cX10_done 209 = .ok (.iadd, 1) := by decide +kernel
theorem dX10_done_210 : decode cX10_done 210 = .ok (.ireturn, 1) := by decide +kernel
theorem dX10_done_211 : decode cX10_done 211 = .ok (.aload_n 0, 1) := by decide +kernel
theorem dX10_done_212 : decode cX10_done 212 = .ok (.getfield 53, 3) := by decide +kernel
theorem dX10_done_215 : decode cX10_done 215 = .ok (.getfield 187, 3) := by decide +kernel
theorem dX10_done_218 : decode cX10_done 218 = .ok (.iload_n 1, 1) := by decide +kernel
theorem dX10_done_219 : decode cX10_done 219 = .ok (.iaload, 1) := by decide +kernel
theorem dX10_done_220 : decode cX10_done 220 = .ok (.ireturn, 1) := by decide +kernel
theorem dX10_done_221 : decode cX10_done 221 = .ok (.iload_n 1, 1) := by decide +kernel
theorem dX10_done_222 : decode cX10_done 222 = .ok (.iconst 1, 1) := by decide +kernel
theorem dX10_done_223 : decode cX10_done 223 = .ok (.iadd, 1) := by decide +kernel
theorem dX10_done_224 : decode cX10_done 224 = .ok (.ireturn, 1) := by decide +kernel
theorem dX10_line_0 : decode cX10_line 0 = .ok (.aload_n 0, 1) := by decide +kernel
theorem dX10_line_1 : decode cX10_line 1 = .ok (.getfield 303, 3) := by decide +kernel
theorem dX10_line_4 : decode cX10_line 4 = .ok (.ireturn, 1) := by decide +kernel
theorem dX10_steps_0 : decode cX10_steps 0 = .ok (.aload_n 0, 1) := by decide +kernel
theorem dX10_steps_1 : decode cX10_steps 1 = .ok (.getfield 300, 3) := by decide +kernel
theorem dX10_steps_4 : decode cX10_steps 4 = .ok (.ireturn, 1) := by decide +kernel
theorem dX10_variable_0 : decode cX10_variable 0 = .ok (.iload_n 1, 1) := by decide +kernel
theorem dX10_variable_1 : decode cX10_variable 1 = .ok (.iconst 1, 1) := by decide +kernel
theorem dX10_variable_2 : decode cX10_variable 2 = .ok (.if_icmp .lt 19, 3) := by decide +kernel
theorem dX10_variable_5 : decode cX10_variable 5 = .ok (.iload_n 1, 1) := by decide +kernel
theorem dX10_variable_6 : decode cX10_variable 6 = .ok (.sipush 199, 3) := by decide +kernel
theorem dX10_variable_9 : decode cX10_variable 9 = .ok (.if_icmp .gt 12, 3) := by decide +kernel
theorem dX10_variable_12 : decode cX10_variable 12 = .ok (.aload_n 0, 1) := by decide +kernel
theorem dX10_variable_13 : decode cX10_variable 13 = .ok (.getfield 38, 3) := by decide +kernel
theorem dX10_variable_16 : decode cX10_variable 16 = .ok (.iload_n 1, 1) := by decide +kernel
theorem dX10_variable_17 : decode cX10_variable 17 = .ok (.laload, 1) := by decide +kernel
theorem dX10_variable_18 : decode cX10_variable 18 = .ok (.goto 4, 3) := by decide +kernel
theorem dX10_variable_21 : decode cX10_variable 21 = .ok (.lconst 0, 1) := by decide +kernel
theorem dX10_variable_22 : decode cX10_variable 22 = .ok (.lreturn, 1) := by decide +kernel
theorem dX10_put_0 : decode cX10_put 0 = .ok (.iload_n 1, 1) := by decide +kernel
theorem dX10_put_1 : decode cX10_put 1 = .ok (.iconst 1, 1) := by decide +kernel
theorem dX10_put_2 : decode cX10_put 2 = .ok (.if_icmp .lt 26, 3) := by decide +kernel
theorem dX10_put_5 : decode cX10_put 5 = .ok (.iload_n 1, 1) := by decide +kernel
theorem dX10_put_6 : decode cX10_put 6 = .ok (.sipush 199, 3) := by decide +kernel
theorem dX10_put_9 : decode cX10_put 9 = .ok (.if_icmp .gt 19, 3) := by decide +kernel
theorem dX10_put_12 : decode cX10_put 12 = .ok (.lload_n 2, 1) := by decide +kernel
theorem dX10_put_13 : decode cX10_put 13 = .ok (.ldc2_w 250, 3) := by decide +kernel
theorem dX10_put_16 : decode cX10_put 16 = .ok (.lcmp, 1) := by decide +kernel
theorem dX10_put_17 : decode cX10_put 17 = .ok (.ifCond .gt 11, 3) := by decide +kernel
theorem dX10_put_20 : decode cX10_put 20 = .ok (.lload_n 2, 1) := by decide +kernel
theorem dX10_put_21 : decode cX10_put 21 = .ok (.ldc2_w 252, 3) := by decide +kernel
theorem dX10_put_24 : decode cX10_put 24 = .ok (.lcmp, 1) := by decide +kernel
theorem dX10_put_25 : decode cX10_put 25 = .ok (.ifCond .ge 5, 3) := by decide +kernel
theorem dX10_put_28 : decode cX10_put 28 = .ok (.iconst 0, 1) := by decide +kernel
theorem dX10_put_29 : decode cX10_put 29 = .ok (.ireturn, 1) := by decide +kernel
theorem dX10_put_30 : decode cX10_put 30 = .ok (.aload_n 0, 1) := by decide +kernel
theorem dX10_put_31 : decode cX10_put 31 = .ok (.getfield 38, 3) := by decide +kernel
theorem dX10_put_34 : decode cX10_put 34 = .ok (.iload_n 1, 1) := by decide +kernel
theorem dX10_put_35 : decode cX10_put 35 = .ok (.lload_n 2, 1) := by decide +kernel
theorem dX10_put_36 : decode cX10_put 36 = .ok (.lastore, 1) := by decide +kernel
theorem dX10_put_37 : decode cX10_put 37 = .ok (.iconst 1, 1) := by decide +kernel
theorem dX10_put_38 : decode cX10_put 38 = .ok (.ireturn, 1) := by decide +kernel
