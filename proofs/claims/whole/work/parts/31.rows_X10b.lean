set_option maxRecDepth 20000 in
theorem gX10_lookFactor_X10_bracket : GoodIn wsX10_lookFactor (wsV RX10 153 RX10 yX10_bracket wsX10_bracket) := goodIn_app (goodIn_of _ (by decide +kernel)) ggX10_lookFactor_X10_bracket
set_option maxRecDepth 20000 in
theorem ggX10_lookFactor_X10_lookItem : GoodIn wsX10_lookFactor wsX10_lookItem := goodIn_r _ [43, 1, 10, 11, 12, 8, 13, 3, 14, 5, 6, 7, 9, 4, 44, 45, 46, 29, 30, 31, 35, 2, 19, 20, 21, 22, 23, 24, 25, 15, 16, 17, 18, 36, 37, 38, 39, 40, 41, 42, 0, 26, 27, 28, 32, 33, 34, 47, 48, 49, 50, 51, 52, 53, 54, 55, 56, 57, 58, 59, 60, 61, 62, 63, 64, 65, 66, 67, 68, 69, 70, 71, 72, 73, 74, 75, 76, 77, 78, 79, 80, 81, 82, 83, 84, 85, 86, 87, 88, 89, 90, 91, 92, 93, 94, 95, 96, 97, 98, 99, 100, 101, 102, 103, 104, 105] (by decide +kernel) (by decide +kernel)
set_option maxRecDepth 20000 in
theorem gX10_lookFactor_X10_lookItem : GoodIn wsX10_lookFactor (wsV RX10 165 RX10 yX10_lookItem wsX10_lookItem) := goodIn_app (goodIn_of _ (by decide +kernel)) ggX10_lookFactor_X10_lookItem
theorem dX10_lookFactor_0 : decode cX10_lookFactor 0 = .ok (.aload_n 0, 1) := by decide +kernel
theorem dX10_lookFactor_1 : decode cX10_lookFactor 1 = .ok (.bipush 45, 2) := by decide +kernel
theorem dX10_lookFactor_3 : decode cX10_lookFactor 3 = .ok (.invokevirtual 144, 3) := by decide +kernel
theorem dX10_lookFactor_6 : decode cX10_lookFactor 6 = .ok (.ifCond .eq 34, 3) := by decide +kernel
theorem dX10_lookFactor_9 : decode cX10_lookFactor 9 = .ok (.aload_n 0, 1) := by decide +kernel
theorem dX10_lookFactor_10 : decode cX10_lookFactor 10 = .ok (.invokevirtual 147, 3) := by decide +kernel
theorem dX10_lookFactor_13 : decode cX10_lookFactor 13 = .ok (.aload_n 0, 1) := by decide +kernel
theorem dX10_lookFactor_14 : decode cX10_lookFactor 14 = .ok (.dup, 1) := by decide +kernel
theorem dX10_lookFactor_15 : decode cX10_lookFactor 15 = .ok (.getfield 121, 3) := by decide +kernel
theorem dX10_lookFactor_18 : decode cX10_lookFactor 18 = .ok (.iconst 1, 1) := by decide +kernel
theorem dX10_lookFactor_19 : decode cX10_lookFactor 19 = .ok (.iadd, 1) := by decide +kernel
theorem dX10_lookFactor_20 : decode cX10_lookFactor 20 = .ok (.putfield 121, 3) := by decide +kernel
theorem dX10_lookFactor_23 : decode cX10_lookFactor 23 = .ok (.aload_n 0, 1) := by decide +kernel
theorem dX10_lookFactor_24 : decode cX10_lookFactor 24 = .ok (.invokevirtual 162, 3) := by decide +kernel
theorem dX10_lookFactor_27 : decode cX10_lookFactor 27 = .ok (.aload_n 0, 1) := by decide +kernel
theorem dX10_lookFactor_28 : decode cX10_lookFactor 28 = .ok (.dup, 1) := by decide +kernel
theorem dX10_lookFactor_29 : decode cX10_lookFactor 29 = .ok (.getfield 141, 3) := by decide +kernel
theorem dX10_lookFactor_32 : decode cX10_lookFactor 32 = .ok (.iconst 1, 1) := by decide +kernel
theorem dX10_lookFactor_33 : decode cX10_lookFactor 33 = .ok (.isub, 1) := by decide +kernel
theorem dX10_lookFactor_34 : decode cX10_lookFactor 34 = .ok (.putfield 141, 3) := by decide +kernel
theorem dX10_lookFactor_37 : decode cX10_lookFactor 37 = .ok (.goto 65, 3) := by decide +kernel
theorem dX10_lookFactor_40 : decode cX10_lookFactor 40 = .ok (.aload_n 0, 1) := by decide +kernel
theorem dX10_lookFactor_41 : decode cX10_lookFactor 41 = .ok (.invokevirtual 124, 3) := by decide +kernel
theorem dX10_lookFactor_44 : decode cX10_lookFactor 44 = .ok (.iconst 3, 1) := by decide +kernel
theorem dX10_lookFactor_45 : decode cX10_lookFactor 45 = .ok (.if_icmp .ne 53, 3) := by decide +kernel
theorem dX10_lookFactor_48 : decode cX10_lookFactor 48 = .ok (.aload_n 0, 1) := by decide +kernel
theorem dX10_lookFactor_49 : decode cX10_lookFactor 49 = .ok (.getfield 53, 3) := by decide +kernel
theorem dX10_lookFactor_52 : decode cX10_lookFactor 52 = .ok (.getfield 71, 3) := by decide +kernel
theorem dX10_lookFactor_55 : decode cX10_lookFactor 55 = .ok (.aload_n 0, 1) := by decide +kernel
theorem dX10_lookFactor_56 : decode cX10_lookFactor 56 = .ok (.getfield 121, 3) := by decide +kernel
theorem dX10_lookFactor_59 : decode cX10_lookFactor 59 = .ok (.iaload, 1) := by decide +kernel
theorem dX10_lookFactor_60 : decode cX10_lookFactor 60 = .ok (.iconst 5, 1) := by decide +kernel
theorem dX10_lookFactor_61 : decode cX10_lookFactor 61 = .ok (.if_icmp .lt 37, 3) := by decide +kernel
theorem dX10_lookFactor_64 : decode cX10_lookFactor 64 = .ok (.aload_n 0, 1) := by decide +kernel
theorem dX10_lookFactor_65 : decode cX10_lookFactor 65 = .ok (.getfield 53, 3) := by decide +kernel
theorem dX10_lookFactor_68 : decode cX10_lookFactor 68 = .ok (.getfield 71, 3) := by decide +kernel
theorem dX10_lookFactor_71 : decode cX10_lookFactor 71 = .ok (.aload_n 0, 1) := by decide +kernel
theorem dX10_lookFactor_72 : decode cX10_lookFactor 72 = .ok (.getfield 121, 3) := by decide +kernel
theorem dX10_lookFactor_75 : decode cX10_lookFactor 75 = .ok (.iaload, 1) := by decide +kernel
theorem dX10_lookFactor_76 : decode cX10_lookFactor 76 = .ok (.bipush 8, 2) := by decide +kernel
theorem dX10_lookFactor_78 : decode cX10_lookFactor 78 = .ok (.if_icmp .gt 20, 3) := by decide +kernel
theorem dX10_lookFactor_81 : decode cX10_lookFactor 81 = .ok (.aload_n 0, 1) := by decide +kernel
theorem dX10_lookFactor_82 : decode cX10_lookFactor 82 = .ok (.dup, 1) := by decide +kernel
theorem dX10_lookFactor_83 : decode cX10_lookFactor 83 = .ok (.getfield 121, 3) := by decide +kernel
theorem dX10_lookFactor_86 : decode cX10_lookFactor 86 = .ok (.iconst 1, 1) := by decide +kernel
theorem dX10_lookFactor_87 : decode cX10_lookFactor 87 = .ok (.iadd, 1) := by decide +kernel
theorem dX10_lookFactor_88 : decode cX10_lookFactor 88 = .ok (.putfield 121, 3) := by decide +kernel
theorem dX10_lookFactor_91 : decode cX10_lookFactor 91 = .ok (.aload_n 0, 1) := by decide +kernel
theorem dX10_lookFactor_92 : decode cX10_lookFactor 92 = .ok (.invokevirtual 153, 3) := by decide +kernel
theorem dX10_lookFactor_95 : decode cX10_lookFactor 95 = .ok (.goto 7, 3) := by decide +kernel
theorem dX10_lookFactor_98 : decode cX10_lookFactor 98 = .ok (.aload_n 0, 1) := by decide +kernel
theorem dX10_lookFactor_99 : decode cX10_lookFactor 99 = .ok (.invokevirtual 165, 3) := by decide +kernel
theorem dX10_lookFactor_102 : decode cX10_lookFactor 102 = .ok (.return_, 1) := by decide +kernel
set_option maxRecDepth 20000 in
theorem ggX10_isTimes_X10_isSign : GoodIn wsX10_isTimes wsX10_isSign := goodIn_r _ [5, 6, 7, 8, 9, 10, 11, 4, 12, 13, 18, 19, 20, 21, 22, 23, 24, 25, 26, 27, 28, 29, 30, 31, 32, 33, 34, 35, 36, 37, 38, 39, 40, 41, 42, 43, 44, 45, 46, 47, 48, 49] (by decide +kernel) (by decide +kernel)
set_option maxRecDepth 20000 in
theorem gX10_isTimes_X10_isSign : GoodIn wsX10_isTimes (wsV RX10 144 RX10 yX10_isSign wsX10_isSign) := goodIn_app (goodIn_of _ (by decide +kernel)) ggX10_isTimes_X10_isSign
set_option maxRecDepth 20000 in
theorem ggX10_isTimes_X10_isWord : GoodIn wsX10_isTimes wsX10_isWord := goodIn_r _ [17, 6, 7, 8, 9, 10, 11, 4, 12, 13, 18, 19, 20, 21, 22, 23, 24, 25, 26, 27, 28, 29, 30, 31, 32, 33, 34, 35, 36, 37, 38, 39, 40, 41, 42, 43, 44, 45, 46, 47, 48, 49] (by decide +kernel) (by decide +kernel)
set_option maxRecDepth 20000 in
theorem gX10_isTimes_X10_isWord : GoodIn wsX10_isTimes (wsV RX10 168 RX10 yX10_isWord wsX10_isWord) := goodIn_app (goodIn_of _ (by decide +kernel)) ggX10_isTimes_X10_isWord
theorem dX10_isTimes_0 : decode cX10_isTimes 0 = .ok (.aload_n 0, 1) := by decide +kernel
theorem dX10_isTimes_1 : decode cX10_isTimes 1 = .ok (.bipush 42, 2) := by decide +kernel
theorem dX10_isTimes_3 : decode cX10_isTimes 3 = .ok (.invokevirtual 144, 3) := by decide +kernel
theorem dX10_isTimes_6 : decode cX10_isTimes 6 = .ok (.ifCond .ne 30, 3) := by decide +kernel
theorem dX10_isTimes_9 : decode cX10_isTimes 9 = .ok (.aload_n 0, 1) := by decide +kernel
theorem dX10_isTimes_10 : decode cX10_isTimes 10 = .ok (.bipush 47, 2) := by decide +kernel
theorem dX10_isTimes_12 : decode cX10_isTimes 12 = .ok (.invokevirtual 144, 3) := by decide +kernel
theorem dX10_isTimes_15 : decode cX10_isTimes 15 = .ok (.ifCond .ne 21, 3) := by decide +kernel
theorem dX10_isTimes_18 : decode cX10_isTimes 18 = .ok (.aload_n 0, 1) := by decide +kernel
theorem dX10_isTimes_19 : decode cX10_isTimes 19 = .ok (.bipush 9, 2) := by decide +kernel
theorem dX10_isTimes_21 : decode cX10_isTimes 21 = .ok (.invokevirtual 168, 3) := by decide +kernel
theorem dX10_isTimes_24 : decode cX10_isTimes 24 = .ok (.ifCond .ne 12, 3) := by decide +kernel
theorem dX10_isTimes_27 : decode cX10_isTimes 27 = .ok (.aload_n 0, 1) := by decide +kernel
theorem dX10_isTimes_28 : decode cX10_isTimes 28 = .ok (.bipush 10, 2) := by decide +kernel
theorem dX10_isTimes_30 : decode cX10_isTimes 30 = .ok (.invokevirtual 168, 3) := by decide +kernel
theorem dX10_isTimes_33 : decode cX10_isTimes 33 = .ok (.ifCond .eq 7, 3) := by decide +kernel
theorem dX10_isTimes_36 : decode cX10_isTimes 36 = .ok (.iconst 1, 1) := by decide +kernel
theorem dX10_isTimes_37 : decode cX10_isTimes 37 = .ok (.goto 4, 3) := by decide +kernel
theorem dX10_isTimes_40 : decode cX10_isTimes 40 = .ok (.iconst 0, 1) := by decide +kernel
theorem dX10_isTimes_41 : decode cX10_isTimes 41 = .ok (.ireturn, 1) := by decide +kernel
set_option maxRecDepth 20000 in
theorem ggX10_isPlus_X10_isSign : GoodIn wsX10_isPlus wsX10_isSign := goodIn_r _ [5, 6, 7, 8, 9, 10, 11, 4, 12, 13, 18, 19, 20, 21, 22, 23, 24, 25, 26, 27, 28, 29, 30, 31, 32, 33, 34, 35, 36, 37, 38, 39, 40, 41, 42, 43, 44, 45, 46, 47, 48, 49] (by decide +kernel) (by decide +kernel)
set_option maxRecDepth 20000 in
theorem gX10_isPlus_X10_isSign : GoodIn wsX10_isPlus (wsV RX10 144 RX10 yX10_isSign wsX10_isSign) := goodIn_app (goodIn_of _ (by decide +kernel)) ggX10_isPlus_X10_isSign
set_option maxRecDepth 20000 in
theorem ggX10_isPlus_X10_isWord : GoodIn wsX10_isPlus wsX10_isWord := goodIn_r _ [17, 6, 7, 8, 9, 10, 11, 4, 12, 13, 18, 19, 20, 21, 22, 23, 24, 25, 26, 27, 28, 29, 30, 31, 32, 33, 34, 35, 36, 37, 38, 39, 40, 41, 42, 43, 44, 45, 46, 47, 48, 49] (by decide +kernel) (by decide +kernel)
set_option maxRecDepth 20000 in
theorem gX10_isPlus_X10_isWord : GoodIn wsX10_isPlus (wsV RX10 168 RX10 yX10_isWord wsX10_isWord) := goodIn_app (goodIn_of _ (by decide +kernel)) ggX10_isPlus_X10_isWord
theorem dX10_isPlus_0 : decode cX10_isPlus 0 = .ok (.aload_n 0, 1) := by decide +kernel
theorem dX10_isPlus_1 : decode cX10_isPlus 1 = .ok (.bipush 43, 2) := by decide +kernel
theorem dX10_isPlus_3 : decode cX10_isPlus 3 = .ok (.invokevirtual 144, 3) := by decide +kernel
theorem dX10_isPlus_6 : decode cX10_isPlus 6 = .ok (.ifCond .ne 30, 3) := by decide +kernel
theorem dX10_isPlus_9 : decode cX10_isPlus 9 = .ok (.aload_n 0, 1) := by decide +kernel
theorem dX10_isPlus_10 : decode cX10_isPlus 10 = .ok (.bipush 45, 2) := by decide +kernel
theorem dX10_isPlus_12 : decode cX10_isPlus 12 = .ok (.invokevirtual 144, 3) := by decide +kernel
theorem dX10_isPlus_15 : decode cX10_isPlus 15 = .ok (.ifCond .ne 21, 3) := by decide +kernel
theorem dX10_isPlus_18 : decode cX10_isPlus 18 = .ok (.aload_n 0, 1) := by decide +kernel
theorem dX10_isPlus_19 : decode cX10_isPlus 19 = .ok (.bipush 11, 2) := by decide +kernel
theorem dX10_isPlus_21 : decode cX10_isPlus 21 = .ok (.invokevirtual 168, 3) := by decide +kernel
theorem dX10_isPlus_24 : decode cX10_isPlus 24 = .ok (.ifCond .ne 12, 3) := by decide +kernel
theorem dX10_isPlus_27 : decode cX10_isPlus 27 = .ok (.aload_n 0, 1) := by decide +kernel
theorem dX10_isPlus_28 : decode cX10_isPlus 28 = .ok (.bipush 12, 2) := by decide +kernel
theorem dX10_isPlus_30 : decode cX10_isPlus 30 = .ok (.invokevirtual 168, 3) := by decide +kernel
theorem dX10_isPlus_33 : decode cX10_isPlus 33 = .ok (.ifCond .eq 7, 3) := by decide +kernel
theorem dX10_isPlus_36 : decode cX10_isPlus 36 = .ok (.iconst 1, 1) := by decide +kernel
theorem dX10_isPlus_37 : decode cX10_isPlus 37 = .ok (.goto 4, 3) := by decide +kernel
theorem dX10_isPlus_40 : decode cX10_isPlus 40 = .ok (.iconst 0, 1) := by decide +kernel
theorem dX10_isPlus_41 : decode cX10_isPlus 41 = .ok (.ireturn, 1) := by decide +kernel
set_option maxRecDepth 20000 in
theorem ggX10_isRelation_X10_kind : GoodIn wsX10_isRelation wsX10_kind := goodIn_r _ [8, 1, 9, 3, 10, 11, 12, 13, 14, 15, 16, 17, 18, 19, 20, 21, 22, 23, 24, 25, 26, 27, 28, 29, 30, 31, 32, 33, 34, 35, 36, 37, 38, 39, 40, 41] (by decide +kernel) (by decide +kernel)
set_option maxRecDepth 20000 in
theorem gX10_isRelation_X10_kind : GoodIn wsX10_isRelation (wsV RX10 124 RX10 yX10_kind wsX10_kind) := goodIn_app (goodIn_of _ (by decide +kernel)) ggX10_isRelation_X10_kind
theorem dX10_isRelation_0 : decode cX10_isRelation 0 = .ok (.aload_n 0, 1) := by decide +kernel
theorem dX10_isRelation_1 : decode cX10_isRelation 1 = .ok (.invokevirtual 124, 3) := by decide +kernel
theorem dX10_isRelation_4 : decode cX10_isRelation 4 = .ok (.iconst 3, 1) := by decide +kernel
theorem dX10_isRelation_5 : decode cX10_isRelation 5 = .ok (.if_icmp .ne 41, 3) := by decide +kernel
theorem dX10_isRelation_8 : decode cX10_isRelation 8 = .ok (.aload_n 0, 1) := by decide +kernel
theorem dX10_isRelation_9 : decode cX10_isRelation 9 = .ok (.getfield 53, 3) := by decide +kernel
theorem dX10_isRelation_12 : decode cX10_isRelation 12 = .ok (.getfield 71, 3) := by decide +kernel
theorem dX10_isRelation_15 : decode cX10_isRelation 15 = .ok (.aload_n 0, 1) := by decide +kernel
theorem dX10_isRelation_16 : decode cX10_isRelation 16 = .ok (.getfield 121, 3) := by decide +kernel
theorem dX10_isRelation_19 : decode cX10_isRelation 19 = .ok (.iaload, 1) := by decide +kernel
theorem dX10_isRelation_20 : decode cX10_isRelation 20 = .ok (.bipush 13, 2) := by decide +kernel
theorem dX10_isRelation_22 : decode cX10_isRelation 22 = .ok (.if_icmp .lt 24, 3) := by decide +kernel
theorem dX10_isRelation_25 : decode cX10_isRelation 25 = .ok (.aload_n 0, 1) := by decide +kernel
theorem dX10_isRelation_26 : decode cX10_isRelation 26 = .ok (.getfield 53, 3) := by decide +kernel
theorem dX10_isRelation_29 : decode cX10_isRelation 29 = .ok (.getfield 71, 3) := by decide +kernel
theorem dX10_isRelation_32 : decode cX10_isRelation 32 = .ok (.aload_n 0, 1) := by decide +kernel
theorem dX10_isRelation_33 : decode cX10_isRelation 33 = .ok (.getfield 121, 3) := by decide +kernel
theorem dX10_isRelation_36 : decode cX10_isRelation 36 = .ok (.iaload, 1) := by decide +kernel
theorem dX10_isRelation_37 : decode cX10_isRelation 37 = .ok (.bipush 18, 2) := by decide +kernel
theorem dX10_isRelation_39 : decode cX10_isRelation 39 = .ok (.if_icmp .gt 7, 3) := by decide +kernel
theorem dX10_isRelation_42 : decode cX10_isRelation 42 = .ok (.iconst 1, 1) := by decide +kernel
theorem dX10_isRelation_43 : decode cX10_isRelation 43 = .ok (.goto 4, 3) := by decide +kernel
theorem dX10_isRelation_46 : decode cX10_isRelation 46 = .ok (.iconst 0, 1) := by decide +kernel
theorem dX10_isRelation_47 : decode cX10_isRelation 47 = .ok (.ireturn, 1) := by decide +kernel
set_option maxRecDepth 20000 in
theorem ggX10_lookSum_X10_lookFactor : GoodIn wsX10_lookSum wsX10_lookFactor := goodIn_r _ [49, 1, 30, 14, 15, 10, 11, 12, 5, 13, 16, 17, 18, 19, 20, 38, 39, 40, 41, 31, 32, 33, 34, 35, 36, 37, 2, 3, 4, 50, 51, 52, 53, 54, 55, 29, 42, 43, 44, 45, 46, 47, 48, 56, 57, 58, 59, 60, 61, 62, 63, 64, 65, 0, 6, 7, 8, 9, 21, 22, 23, 24, 25, 26, 27, 28, 66, 67, 68, 69, 70, 71, 72, 73, 74, 75, 76, 77, 78, 79, 80, 81, 82, 83, 84, 85, 86, 87, 88, 89, 90, 91, 92, 93, 94, 95, 96, 97, 98, 99, 100, 101, 102, 103, 104, 105] (by decide +kernel) (by decide +kernel)
set_option maxRecDepth 20000 in
theorem gX10_lookSum_X10_lookFactor : GoodIn wsX10_lookSum (wsV RX10 162 RX10 yX10_lookFactor wsX10_lookFactor) := goodIn_app (goodIn_of _ (by decide +kernel)) ggX10_lookSum_X10_lookFactor
set_option maxRecDepth 20000 in
theorem ggX10_lookSum_X10_isTimes : GoodIn wsX10_lookSum wsX10_isTimes := goodIn_r _ [9, 10, 11, 12, 5, 13, 14, 15, 1, 16, 17, 18, 19, 20, 21, 22, 23, 24, 74, 75, 76, 77, 78, 79, 80, 81, 82, 83, 84, 85, 86, 87, 88, 89, 90, 91, 92, 93, 94, 95, 96, 97, 98, 99, 100, 101, 102, 103, 104, 105] (by decide +kernel) (by decide +kernel)
set_option maxRecDepth 20000 in
theorem gX10_lookSum_X10_isTimes : GoodIn wsX10_lookSum (wsV RX10 171 RX10 yX10_isTimes wsX10_isTimes) := goodIn_app (goodIn_of _ (by decide +kernel)) ggX10_lookSum_X10_isTimes
set_option maxRecDepth 20000 in
theorem ggX10_lookSum_X10_isPlus : GoodIn wsX10_lookSum wsX10_isPlus := goodIn_r _ [28, 10, 11, 12, 5, 13, 14, 15, 1, 16, 17, 18, 19, 20, 21, 22, 23, 24, 74, 75, 76, 77, 78, 79, 80, 81, 82, 83, 84, 85, 86, 87, 88, 89, 90, 91, 92, 93, 94, 95, 96, 97, 98, 99, 100, 101, 102, 103, 104, 105] (by decide +kernel) (by decide +kernel)
set_option maxRecDepth 20000 in
theorem gX10_lookSum_X10_isPlus : GoodIn wsX10_lookSum (wsV RX10 175 RX10 yX10_isPlus wsX10_isPlus) := goodIn_app (goodIn_of _ (by decide +kernel)) ggX10_lookSum_X10_isPlus
theorem dX10_lookSum_0 : decode cX10_lookSum 0 = .ok (.iconst 1, 1) := by decide +kernel
theorem dX10_lookSum_1 : decode cX10_lookSum 1 = .ok (.istore_n 1, 1) := by decide +kernel
theorem dX10_lookSum_2 : decode cX10_lookSum 2 = .ok (.iload_n 1, 1) := by decide +kernel
theorem dX10_lookSum_3 : decode cX10_lookSum 3 = .ok (.ifCond .eq 53, 3) := by decide +kernel
theorem dX10_lookSum_6 : decode cX10_lookSum 6 = .ok (.aload_n 0, 1) := by decide +kernel
theorem dX10_lookSum_7 : decode cX10_lookSum 7 = .ok (.invokevirtual 162, 3) := by decide +kernel
theorem dX10_lookSum_10 : decode cX10_lookSum 10 = .ok (.aload_n 0, 1) := by decide +kernel
theorem dX10_lookSum_11 : decode cX10_lookSum 11 = .ok (.invokevirtual 171, 3) := by decide +kernel
theorem dX10_lookSum_14 : decode cX10_lookSum 14 = .ok (.ifCond .eq 20, 3) := by decide +kernel
theorem dX10_lookSum_17 : decode cX10_lookSum 17 = .ok (.aload_n 0, 1) := by decide +kernel
theorem dX10_lookSum_18 : decode cX10_lookSum 18 = .ok (.dup, 1) := by decide +kernel
theorem dX10_lookSum_19 : decode cX10_lookSum 19 = .ok (.getfield 121, 3) := by decide +kernel
theorem dX10_lookSum_22 : decode cX10_lookSum 22 = .ok (.iconst 1, 1) := by decide +kernel
theorem dX10_lookSum_23 : decode cX10_lookSum 23 = .ok (.iadd, 1) := by decide +kernel
theorem dX10_lookSum_24 : decode cX10_lookSum 24 = .ok (.putfield 121, 3) := by decide +kernel
theorem dX10_lookSum_27 : decode cX10_lookSum 27 = .ok (.aload_n 0, 1) := by decide +kernel
theorem dX10_lookSum_28 : decode cX10_lookSum 28 = .ok (.invokevirtual 162, 3) := by decide +kernel
theorem dX10_lookSum_31 : decode cX10_lookSum 31 = .ok (.goto (-21), 3) := by decide +kernel
theorem dX10_lookSum_34 : decode cX10_lookSum 34 = .ok (.aload_n 0, 1) := by decide +kernel
theorem dX10_lookSum_35 : decode cX10_lookSum 35 = .ok (.invokevirtual 175, 3) := by decide +kernel
theorem dX10_lookSum_38 : decode cX10_lookSum 38 = .ok (.istore_n 1, 1) := by decide +kernel
theorem dX10_lookSum_39 : decode cX10_lookSum 39 = .ok (.iload_n 1, 1) := by decide +kernel
theorem dX10_lookSum_40 : decode cX10_lookSum 40 = .ok (.ifCond .eq (-38), 3) := by decide +kernel
theorem dX10_lookSum_43 : decode cX10_lookSum 43 = .ok (.aload_n 0, 1) := by decide +kernel
theorem dX10_lookSum_44 : decode cX10_lookSum 44 = .ok (.dup, 1) := by decide +kernel
theorem dX10_lookSum_45 : decode cX10_lookSum 45 = .ok (.getfield 121, 3) := by decide +kernel
theorem dX10_lookSum_48 : decode cX10_lookSum 48 = .ok (.iconst 1, 1) := by decide +kernel
theorem dX10_lookSum_49 : decode cX10_lookSum 49 = .ok (.iadd, 1) := by decide +kernel
theorem dX10_lookSum_50 : decode cX10_lookSum 50 = .ok (.putfield 121, 3) := by decide +kernel
theorem dX10_lookSum_53 : decode cX10_lookSum 53 = .ok (.goto (-51), 3) := by decide +kernel
theorem dX10_lookSum_56 : decode cX10_lookSum 56 = .ok (.return_, 1) := by decide +kernel
set_option maxRecDepth 20000 in
theorem ggX10_lookTest_X10_lookSum : GoodIn wsX10_lookTest wsX10_lookSum := goodIn_r _ [61, 1, 42, 43, 44, 5, 62, 63, 64, 65, 19, 20, 21, 22, 10, 11, 12, 13, 14, 15, 16, 66, 67, 68, 69, 70, 71, 72, 73, 17, 18, 23, 24, 25, 26, 27, 28, 29, 30, 31, 32, 33, 34, 35, 36, 37, 38, 39, 40, 41, 45, 46, 47, 48, 49, 50, 51, 52, 53, 54, 55, 56, 57, 58, 59, 60, 0, 2, 3, 4, 6, 7, 8, 9, 74, 75, 76, 77, 78, 79, 80, 81, 82, 83, 84, 85, 86, 87, 88, 89, 90, 91, 92, 93, 94, 95, 96, 97, 98, 99, 100, 101, 102, 103, 104, 105] (by decide +kernel) (by decide +kernel)
set_option maxRecDepth 20000 in
theorem gX10_lookTest_X10_lookSum : GoodIn wsX10_lookTest (wsV RX10 178 RX10 yX10_lookSum wsX10_lookSum) := goodIn_app (goodIn_of _ (by decide +kernel)) ggX10_lookTest_X10_lookSum
set_option maxRecDepth 20000 in
theorem ggX10_lookTest_X10_isRelation : GoodIn wsX10_lookTest wsX10_isRelation := goodIn_r _ [9, 10, 11, 1, 12, 13, 14, 5, 15, 16, 74, 75, 76, 77, 78, 79, 80, 81, 82, 83, 84, 85, 86, 87, 88, 89, 90, 91, 92, 93, 94, 95, 96, 97, 98, 99, 100, 101, 102, 103, 104, 105] (by decide +kernel) (by decide +kernel)
set_option maxRecDepth 20000 in
theorem gX10_lookTest_X10_isRelation : GoodIn wsX10_lookTest (wsV RX10 181 RX10 yX10_isRelation wsX10_isRelation) := goodIn_app (goodIn_of _ (by decide +kernel)) ggX10_lookTest_X10_isRelation
theorem dX10_lookTest_0 : decode cX10_lookTest 0 = .ok (.aload_n 0, 1) := by decide +kernel
theorem dX10_lookTest_1 : decode cX10_lookTest 1 = .ok (.invokevirtual 178, 3) := by decide +kernel
theorem dX10_lookTest_4 : decode cX10_lookTest 4 = .ok (.aload_n 0, 1) := by decide +kernel
theorem dX10_lookTest_5 : decode cX10_lookTest 5 = .ok (.invokevirtual 181, 3) := by decide +kernel
theorem dX10_lookTest_8 : decode cX10_lookTest 8 = .ok (.ifCond .ne 4, 3) := by decide +kernel
theorem dX10_lookTest_11 : decode cX10_lookTest 11 = .ok (.return_, 1) := by decide +kernel
theorem dX10_lookTest_12 : decode cX10_lookTest 12 = .ok (.aload_n 0, 1) := by decide +kernel
theorem dX10_lookTest_13 : decode cX10_lookTest 13 = .ok (.dup, 1) := by decide +kernel
theorem dX10_lookTest_14 : decode cX10_lookTest 14 = .ok (.getfield 121, 3) := by decide +kernel
theorem dX10_lookTest_17 : decode cX10_lookTest 17 = .ok (.iconst 1, 1) := by decide +kernel
theorem dX10_lookTest_18 : decode cX10_lookTest 18 = .ok (.iadd, 1) := by decide +kernel
theorem dX10_lookTest_19 : decode cX10_lookTest 19 = .ok (.putfield 121, 3) := by decide +kernel
theorem dX10_lookTest_22 : decode cX10_lookTest 22 = .ok (.aload_n 0, 1) := by decide +kernel
theorem dX10_lookTest_23 : decode cX10_lookTest 23 = .ok (.invokevirtual 178, 3) := by decide +kernel
theorem dX10_lookTest_26 : decode cX10_lookTest 26 = .ok (.return_, 1) := by decide +kernel
set_option maxRecDepth 20000 in
theorem ggX10_lookLine_X10_isLetter : GoodIn wsX10_lookLine wsX10_isLetter := goodIn_r _ [12, 1, 7, 6, 13, 14, 15, 11, 16, 17, 102, 103, 104, 105, 106, 107, 108, 109, 110, 111, 112, 113, 114, 115, 116, 117, 118, 119, 120, 121, 122, 123, 124, 125, 126, 127, 128, 129, 130, 131, 132, 133] (by decide +kernel) (by decide +kernel)
set_option maxRecDepth 20000 in
theorem gX10_lookLine_X10_isLetter : GoodIn wsX10_lookLine (wsV RX10 196 RX10 yX10_isLetter wsX10_isLetter) := goodIn_app (goodIn_of _ (by decide +kernel)) ggX10_lookLine_X10_isLetter
set_option maxRecDepth 20000 in
theorem ggX10_lookLine_X10_whole : GoodIn wsX10_lookLine wsX10_whole := goodIn_r _ [21, 1, 22, 6, 13, 14, 15, 11, 16, 17, 23, 24, 25, 26, 27, 28, 29, 30, 31, 32, 33, 102, 103, 104, 105, 106, 107, 108, 109, 110, 111, 112, 113, 114, 115, 116, 117, 118, 119, 120, 121, 122, 123, 124, 125, 126, 127, 128, 129, 130, 131, 132, 133] (by decide +kernel) (by decide +kernel)
set_option maxRecDepth 20000 in
theorem gX10_lookLine_X10_whole : GoodIn wsX10_lookLine (wsV RX10 156 RX10 yX10_whole wsX10_whole) := goodIn_app (goodIn_of _ (by decide +kernel)) ggX10_lookLine_X10_whole
set_option maxRecDepth 20000 in
theorem ggX10_lookLine_X10_later : GoodIn wsX10_lookLine wsX10_later := goodIn_r _ [37, 38, 1, 31, 102, 103, 104, 105, 106, 107, 108, 109, 110, 111, 112, 113, 114, 115, 116, 117, 118, 119, 120, 121, 122, 123, 124, 125, 126, 127, 128, 129, 130, 131, 132, 133] (by decide +kernel) (by decide +kernel)
set_option maxRecDepth 20000 in
theorem gX10_lookLine_X10_later : GoodIn wsX10_lookLine (wsV RX10 199 RX10 yX10_later wsX10_later) := goodIn_app (goodIn_of _ (by decide +kernel)) ggX10_lookLine_X10_later
set_option maxRecDepth 20000 in
theorem ggX10_lookLine_X10_lookRest : GoodIn wsX10_lookLine wsX10_lookRest := goodIn_r _ [42, 43, 1, 5, 6, 4, 44, 45, 46, 11, 47, 7, 13, 14, 15, 16, 17, 48, 49, 50, 51, 23, 24, 25, 26, 27, 28, 29, 30, 31, 32, 33, 52, 53, 54, 18, 19, 20, 21, 22, 55, 56, 57, 58, 59, 60, 61, 62, 63, 64, 65, 66, 67, 68, 69, 70, 71, 72, 73, 74, 75, 76, 77, 78, 79, 80, 81, 82, 83, 84, 85, 86, 87, 88, 89, 90, 91, 92, 93, 94, 95, 96, 97, 34, 35, 36, 37, 38, 98, 99, 100, 101, 3, 102, 103, 104, 105, 106, 107, 108, 109, 110, 111, 112, 113, 114, 115, 116, 117, 118, 119, 120, 121, 122, 123, 124, 125, 126, 127, 128, 129, 130, 131, 132, 133] (by decide +kernel) (by decide +kernel)
set_option maxRecDepth 20000 in
theorem gX10_lookLine_X10_lookRest : GoodIn wsX10_lookLine (wsV RX10 202 RX10 yX10_lookRest wsX10_lookRest) := goodIn_app (goodIn_of _ (by decide +kernel)) ggX10_lookLine_X10_lookRest
set_option maxRecDepth 20000 in
theorem ggX10_lookLine_X10_kind : GoodIn wsX10_lookLine wsX10_kind := goodIn_r _ [16, 1, 17, 6, 102, 103, 104, 105, 106, 107, 108, 109, 110, 111, 112, 113, 114, 115, 116, 117, 118, 119, 120, 121, 122, 123, 124, 125, 126, 127, 128, 129, 130, 131, 132, 133] (by decide +kernel) (by decide +kernel)
set_option maxRecDepth 20000 in
theorem gX10_lookLine_X10_kind : GoodIn wsX10_lookLine (wsV RX10 124 RX10 yX10_kind wsX10_kind) := goodIn_app (goodIn_of _ (by decide +kernel)) ggX10_lookLine_X10_kind
set_option maxRecDepth 20000 in
theorem ggX10_lookLine_X10_wrong : GoodIn wsX10_lookLine wsX10_wrong := goodIn_r _ [30, 1, 31, 6, 32, 33, 102, 103, 104, 105, 106, 107, 108, 109, 110, 111, 112, 113, 114, 115, 116, 117, 118, 119, 120, 121, 122, 123, 124, 125, 126, 127, 128, 129, 130, 131, 132, 133] (by decide +kernel) (by decide +kernel)
set_option maxRecDepth 20000 in
theorem gX10_lookLine_X10_wrong : GoodIn wsX10_lookLine (wsV RX10 130 RX10 yX10_wrong wsX10_wrong) := goodIn_app (goodIn_of _ (by decide +kernel)) ggX10_lookLine_X10_wrong
theorem dX10_lookLine_0 : decode cX10_lookLine 0 = .ok (.aload_n 0, 1) := by decide +kernel
theorem dX10_lookLine_1 : decode cX10_lookLine 1 = .ok (.getfield 53, 3) := by decide +kernel
theorem dX10_lookLine_4 : decode cX10_lookLine 4 = .ok (.getfield 184, 3) := by decide +kernel
theorem dX10_lookLine_7 : decode cX10_lookLine 7 = .ok (.iload_n 1, 1) := by decide +kernel
theorem dX10_lookLine_8 : decode cX10_lookLine 8 = .ok (.iconst (-1), 1) := by decide +kernel
theorem dX10_lookLine_9 : decode cX10_lookLine 9 = .ok (.iastore, 1) := by decide +kernel
theorem dX10_lookLine_10 : decode cX10_lookLine 10 = .ok (.aload_n 0, 1) := by decide +kernel
theorem dX10_lookLine_11 : decode cX10_lookLine 11 = .ok (.getfield 53, 3) := by decide +kernel
theorem dX10_lookLine_14 : decode cX10_lookLine 14 = .ok (.getfield 187, 3) := by decide +kernel
theorem dX10_lookLine_17 : decode cX10_lookLine 17 = .ok (.iload_n 1, 1) := by decide +kernel
theorem dX10_lookLine_18 : decode cX10_lookLine 18 = .ok (.iconst (-1), 1) := by decide +kernel
theorem dX10_lookLine_19 : decode cX10_lookLine 19 = .ok (.iastore, 1) := by decide +kernel
theorem dX10_lookLine_20 : decode cX10_lookLine 20 = .ok (.aload_n 0, 1) := by decide +kernel
theorem dX10_lookLine_21 : decode cX10_lookLine 21 = .ok (.getfield 53, 3) := by decide +kernel
theorem dX10_lookLine_24 : decode cX10_lookLine 24 = .ok (.getfield 190, 3) := by decide +kernel
theorem dX10_lookLine_27 : decode cX10_lookLine 27 = .ok (.iload_n 1, 1) := by decide +kernel
theorem dX10_lookLine_28 : decode cX10_lookLine 28 = .ok (.iconst (-1), 1) := by decide +kernel
theorem dX10_lookLine_29 : decode cX10_lookLine 29 = .ok (.iastore, 1) := by decide +kernel
theorem dX10_lookLine_30 : decode cX10_lookLine 30 = .ok (.aload_n 0, 1) := by decide +kernel
theorem dX10_lookLine_31 : decode cX10_lookLine 31 = .ok (.getfield 53, 3) := by decide +kernel
theorem dX10_lookLine_34 : decode cX10_lookLine 34 = .ok (.getfield 193, 3) := by decide +kernel
theorem dX10_lookLine_37 : decode cX10_lookLine 37 = .ok (.iload_n 1, 1) := by decide +kernel
theorem dX10_lookLine_38 : decode cX10_lookLine 38 = .ok (.iconst 0, 1) := by decide +kernel
theorem dX10_lookLine_39 : decode cX10_lookLine 39 = .ok (.bastore, 1) := by decide +kernel
theorem dX10_lookLine_40 : decode cX10_lookLine 40 = .ok (.aload_n 0, 1) := by decide +kernel
theorem dX10_lookLine_41 : decode cX10_lookLine 41 = .ok (.bipush 78, 2) := by decide +kernel
theorem dX10_lookLine_43 : decode cX10_lookLine 43 = .ok (.invokevirtual 196, 3) := by decide +kernel
theorem dX10_lookLine_46 : decode cX10_lookLine 46 = .ok (.ifCond .eq 79, 3) := by decide +kernel
theorem dX10_lookLine_49 : decode cX10_lookLine 49 = .ok (.aload_n 0, 1) := by decide +kernel
theorem dX10_lookLine_50 : decode cX10_lookLine 50 = .ok (.dup, 1) := by decide +kernel
theorem dX10_lookLine_51 : decode cX10_lookLine 51 = .ok (.getfield 121, 3) := by decide +kernel
theorem dX10_lookLine_54 : decode cX10_lookLine 54 = .ok (.iconst 1, 1) := by decide +kernel
theorem dX10_lookLine_55 : decode cX10_lookLine 55 = .ok (.iadd, 1) := by decide +kernel
theorem dX10_lookLine_56 : decode cX10_lookLine 56 = .ok (.putfield 121, 3) := by decide +kernel
theorem dX10_lookLine_59 : decode cX10_lookLine 59 = .ok (.aload_n 0, 1) := by decide +kernel
theorem dX10_lookLine_60 : decode cX10_lookLine 60 = .ok (.getfield 121, 3) := by decide +kernel
theorem dX10_lookLine_63 : decode cX10_lookLine 63 = .ok (.istore_n 2, 1) := by decide +kernel
theorem dX10_lookLine_64 : decode cX10_lookLine 64 = .ok (.aload_n 0, 1) := by decide +kernel
theorem dX10_lookLine_65 : decode cX10_lookLine 65 = .ok (.invokevirtual 156, 3) := by decide +kernel
theorem dX10_lookLine_68 : decode cX10_lookLine 68 = .ok (.iconst 0, 1) := by decide +kernel
theorem dX10_lookLine_69 : decode cX10_lookLine 69 = .ok (.istore_n 3, 1) := by decide +kernel
theorem dX10_lookLine_70 : decode cX10_lookLine 70 = .ok (.iload_n 3, 1) := by decide +kernel
theorem dX10_lookLine_71 : decode cX10_lookLine 71 = .ok (.iload_n 1, 1) := by decide +kernel
theorem dX10_lookLine_72 : decode cX10_lookLine 72 = .ok (.if_icmp .ge 35, 3) := by decide +kernel
theorem dX10_lookLine_75 : decode cX10_lookLine 75 = .ok (.aload_n 0, 1) := by decide +kernel
theorem dX10_lookLine_76 : decode cX10_lookLine 76 = .ok (.getfield 53, 3) := by decide +kernel
theorem dX10_lookLine_79 : decode cX10_lookLine 79 = .ok (.getfield 184, 3) := by decide +kernel
theorem dX10_lookLine_82 : decode cX10_lookLine 82 = .ok (.iload_n 3, 1) := by decide +kernel
theorem dX10_lookLine_83 : decode cX10_lookLine 83 = .ok (.iaload, 1) := by decide +kernel
theorem dX10_lookLine_84 : decode cX10_lookLine 84 = .ok (.aload_n 0, 1) := by decide +kernel
theorem dX10_lookLine_85 : decode cX10_lookLine 85 = .ok (.getfield 53, 3) := by decide +kernel
theorem dX10_lookLine_88 : decode cX10_lookLine 88 = .ok (.getfield 71, 3) := by decide +kernel
theorem dX10_lookLine_91 : decode cX10_lookLine 91 = .ok (.iload_n 2, 1) := by decide +kernel
theorem dX10_lookLine_92 : decode cX10_lookLine 92 = .ok (.iaload, 1) := by decide +kernel
theorem dX10_lookLine_93 : decode cX10_lookLine 93 = .ok (.if_icmp .ne 8, 3) := by decide +kernel
theorem dX10_lookLine_96 : decode cX10_lookLine 96 = .ok (.aload_n 0, 1) := by decide +kernel
theorem dX10_lookLine_97 : decode cX10_lookLine 97 = .ok (.iload_n 2, 1) := by decide +kernel
theorem dX10_lookLine_98 : decode cX10_lookLine 98 = .ok (.invokevirtual 199, 3) := by decide +kernel
theorem dX10_lookLine_101 : decode cX10_lookLine 101 = .ok (.iinc 3 1, 3) := by decide +kernel
theorem dX10_lookLine_104 : decode cX10_lookLine 104 = .ok (.goto (-34), 3) := by decide +kernel
theorem dX10_lookLine_107 : decode cX10_lookLine 107 = .ok (.aload_n 0, 1) := by decide +kernel
theorem dX10_lookLine_108 : decode cX10_lookLine 108 = .ok (.getfield 53, 3) := by decide +kernel
theorem dX10_lookLine_111 : decode cX10_lookLine 111 = .ok (.getfield 184, 3) := by decide +kernel
theorem dX10_lookLine_114 : decode cX10_lookLine 114 = .ok (.iload_n 1, 1) := by decide +kernel
theorem dX10_lookLine_115 : decode cX10_lookLine 115 = .ok (.aload_n 0, 1) := by decide +kernel
theorem dX10_lookLine_116 : decode cX10_lookLine 116 = .ok (.getfield 53, 3) := by decide +kernel
theorem dX10_lookLine_119 : decode cX10_lookLine 119 = .ok (.getfield 71, 3) := by decide +kernel
theorem dX10_lookLine_122 : decode cX10_lookLine 122 = .ok (.iload_n 2, 1) := by decide +kernel
theorem dX10_lookLine_123 : decode cX10_lookLine 123 = .ok (.iaload, 1) := by decide +kernel
theorem dX10_lookLine_124 : decode cX10_lookLine 124 = .ok (.iastore, 1) := by decide +kernel
theorem dX10_lookLine_125 : decode cX10_lookLine 125 = .ok (.aload_n 0, 1) := by decide +kernel
theorem dX10_lookLine_126 : decode cX10_lookLine 126 = .ok (.iload_n 1, 1) := by decide +kernel
theorem dX10_lookLine_127 : decode cX10_lookLine 127 = .ok (.invokevirtual 202, 3) := by decide +kernel
theorem dX10_lookLine_130 : decode cX10_lookLine 130 = .ok (.aload_n 0, 1) := by decide +kernel
theorem dX10_lookLine_131 : decode cX10_lookLine 131 = .ok (.invokevirtual 124, 3) := by decide +kernel
theorem dX10_lookLine_134 : decode cX10_lookLine 134 = .ok (.ifCond .eq 8, 3) := by decide +kernel
theorem dX10_lookLine_137 : decode cX10_lookLine 137 = .ok (.aload_n 0, 1) := by decide +kernel
theorem dX10_lookLine_138 : decode cX10_lookLine 138 = .ok (.invokevirtual 130, 3) := by decide +kernel
theorem dX10_lookLine_141 : decode cX10_lookLine 141 = .ok (.athrow, 1) := by decide +kernel
theorem dX10_lookLine_142 : decode cX10_lookLine 142 = .ok (.aload_n 0, 1) := by decide +kernel
theorem dX10_lookLine_143 : decode cX10_lookLine 143 = .ok (.dup, 1) := by decide +kernel
theorem dX10_lookLine_144 : decode cX10_lookLine 144 = .ok (.getfield 121, 3) := by decide +kernel
theorem dX10_lookLine_147 : decode cX10_lookLine 147 = .ok (.iconst 1, 1) := by decide +kernel
theorem dX10_lookLine_148 : decode cX10_lookLine 148 = .ok (.iadd, 1) := by decide +kernel
theorem dX10_lookLine_149 : decode cX10_lookLine 149 = .ok (.putfield 121, 3) := by decide +kernel
theorem dX10_lookLine_152 : decode cX10_lookLine 152 = .ok (.return_, 1) := by decide +kernel
set_option maxRecDepth 20000 in
theorem ggX10_lookRest_X10_isSign : GoodIn wsX10_lookRest wsX10_isSign := goodIn_r _ [10, 2, 11, 4, 12, 13, 14, 9, 15, 16, 93, 94, 95, 96, 97, 98, 99, 100, 101, 102, 103, 104, 105, 106, 107, 108, 109, 110, 111, 112, 113, 114, 115, 116, 117, 118, 119, 120, 121, 122, 123, 124] (by decide +kernel) (by decide +kernel)
set_option maxRecDepth 20000 in
theorem gX10_lookRest_X10_isSign : GoodIn wsX10_lookRest (wsV RX10 144 RX10 yX10_isSign wsX10_isSign) := goodIn_app (goodIn_of _ (by decide +kernel)) ggX10_lookRest_X10_isSign
set_option maxRecDepth 20000 in
theorem ggX10_lookRest_X10_lookPlace : GoodIn wsX10_lookRest wsX10_lookPlace := goodIn_r _ [20, 6, 7, 8, 9, 10, 2, 11, 4, 12, 13, 14, 15, 16, 21, 22, 23, 24, 25, 26, 27, 28, 29, 30, 31, 32, 33, 34, 35, 36, 37, 38, 39, 40, 1, 41, 42, 43, 44, 45, 46, 47, 48, 49, 50, 51, 52, 53, 54, 55, 17, 18, 19, 56, 57, 58, 59, 60, 61, 62, 63, 64, 65, 66, 67, 68, 69, 70, 71, 72, 73, 74, 75, 76, 93, 94, 95, 96, 97, 98, 99, 100, 101, 102, 103, 104, 105, 106, 107, 108, 109, 110, 111, 112, 113, 114, 115, 116, 117, 118, 119, 120, 121, 122, 123, 124] (by decide +kernel) (by decide +kernel)
set_option maxRecDepth 20000 in
theorem gX10_lookRest_X10_lookPlace : GoodIn wsX10_lookRest (wsV RX10 159 RX10 yX10_lookPlace wsX10_lookPlace) := goodIn_app (goodIn_of _ (by decide +kernel)) ggX10_lookRest_X10_lookPlace
set_option maxRecDepth 20000 in
theorem ggX10_lookRest_X10_expect : GoodIn wsX10_lookRest wsX10_expect := goodIn_r _ [24, 4, 25, 26, 27, 9, 28, 2, 29, 30, 31, 93, 94, 95, 96, 97, 98, 99, 100, 101, 102, 103, 104, 105, 106, 107, 108, 109, 110, 111, 112, 113, 114, 115, 116, 117, 118, 119, 120, 121, 122, 123, 124] (by decide +kernel) (by decide +kernel)
set_option maxRecDepth 20000 in
theorem gX10_lookRest_X10_expect : GoodIn wsX10_lookRest (wsV RX10 137 RX10 yX10_expect wsX10_expect) := goodIn_app (goodIn_of _ (by decide +kernel)) ggX10_lookRest_X10_expect
set_option maxRecDepth 20000 in
theorem ggX10_lookRest_X10_lookSum : GoodIn wsX10_lookRest wsX10_lookSum := goodIn_r _ [56, 4, 49, 50, 51, 9, 57, 58, 59, 60, 6, 7, 8, 10, 2, 11, 12, 13, 14, 15, 16, 61, 62, 63, 64, 65, 66, 67, 68, 40, 1, 25, 26, 27, 28, 29, 30, 31, 41, 42, 43, 44, 45, 46, 47, 21, 22, 23, 24, 48, 32, 33, 34, 52, 53, 54, 55, 17, 18, 19, 20, 35, 36, 37, 38, 39, 69, 70, 71, 72, 73, 74, 75, 76, 93, 94, 95, 96, 97, 98, 99, 100, 101, 102, 103, 104, 105, 106, 107, 108, 109, 110, 111, 112, 113, 114, 115, 116, 117, 118, 119, 120, 121, 122, 123, 124] (by decide +kernel) (by decide +kernel)
set_option maxRecDepth 20000 in
theorem gX10_lookRest_X10_lookSum : GoodIn wsX10_lookRest (wsV RX10 178 RX10 yX10_lookSum wsX10_lookSum) := goodIn_app (goodIn_of _ (by decide +kernel)) ggX10_lookRest_X10_lookSum
set_option maxRecDepth 20000 in
theorem ggX10_lookRest_X10_isWord : GoodIn wsX10_lookRest wsX10_isWord := goodIn_r _ [64, 2, 11, 4, 12, 13, 14, 9, 15, 16, 93, 94, 95, 96, 97, 98, 99, 100, 101, 102, 103, 104, 105, 106, 107, 108, 109, 110, 111, 112, 113, 114, 115, 116, 117, 118, 119, 120, 121, 122, 123, 124] (by decide +kernel) (by decide +kernel)
set_option maxRecDepth 20000 in
theorem gX10_lookRest_X10_isWord : GoodIn wsX10_lookRest (wsV RX10 168 RX10 yX10_isWord wsX10_isWord) := goodIn_app (goodIn_of _ (by decide +kernel)) ggX10_lookRest_X10_isWord
set_option maxRecDepth 20000 in
theorem ggX10_lookRest_X10_bracket : GoodIn wsX10_lookRest wsX10_bracket := goodIn_r _ [40, 4, 1, 6, 7, 8, 9, 10, 2, 11, 12, 13, 14, 15, 16, 25, 26, 27, 28, 29, 30, 31, 41, 42, 43, 44, 45, 46, 47, 21, 22, 23, 24, 48, 49, 50, 51, 32, 33, 34, 52, 53, 54, 55, 17, 18, 19, 20, 35, 36, 37, 38, 39, 56, 57, 58, 59, 60, 61, 62, 63, 64, 65, 66, 67, 68, 69, 70, 71, 72, 73, 74, 75, 76, 93, 94, 95, 96, 97, 98, 99, 100, 101, 102, 103, 104, 105, 106, 107, 108, 109, 110, 111, 112, 113, 114, 115, 116, 117, 118, 119, 120, 121, 122, 123, 124] (by decide +kernel) (by decide +kernel)
set_option maxRecDepth 20000 in
theorem gX10_lookRest_X10_bracket : GoodIn wsX10_lookRest (wsV RX10 153 RX10 yX10_bracket wsX10_bracket) := goodIn_app (goodIn_of _ (by decide +kernel)) ggX10_lookRest_X10_bracket
set_option maxRecDepth 20000 in
theorem ggX10_lookRest_X10_whole : GoodIn wsX10_lookRest wsX10_whole := goodIn_r _ [38, 2, 39, 4, 12, 13, 14, 9, 15, 16, 21, 22, 23, 24, 25, 26, 27, 28, 29, 30, 31, 93, 94, 95, 96, 97, 98, 99, 100, 101, 102, 103, 104, 105, 106, 107, 108, 109, 110, 111, 112, 113, 114, 115, 116, 117, 118, 119, 120, 121, 122, 123, 124] (by decide +kernel) (by decide +kernel)
set_option maxRecDepth 20000 in
theorem gX10_lookRest_X10_whole : GoodIn wsX10_lookRest (wsV RX10 156 RX10 yX10_whole wsX10_whole) := goodIn_app (goodIn_of _ (by decide +kernel)) ggX10_lookRest_X10_whole
set_option maxRecDepth 20000 in
theorem ggX10_lookRest_X10_lookDo : GoodIn wsX10_lookRest wsX10_lookDo := goodIn_r _ [80, 2, 11, 81, 5, 82, 83, 84, 85, 9, 86, 87, 29, 93, 94, 95, 96, 97, 98, 99, 100, 101, 102, 103, 104, 105, 106, 107, 108, 109, 110, 111, 112, 113, 114, 115, 116, 117, 118, 119, 120, 121, 122, 123, 124] (by decide +kernel) (by decide +kernel)
set_option maxRecDepth 20000 in
theorem gX10_lookRest_X10_lookDo : GoodIn wsX10_lookRest (wsV RX10 205 RX10 yX10_lookDo wsX10_lookDo) := goodIn_app (goodIn_of _ (by decide +kernel)) ggX10_lookRest_X10_lookDo
set_option maxRecDepth 20000 in
theorem ggX10_lookRest_X10_lookEnd : GoodIn wsX10_lookRest wsX10_lookEnd := goodIn_r _ [91, 81, 2, 11, 5, 82, 92, 83, 84, 85, 9, 86, 87, 29, 93, 94, 95, 96, 97, 98, 99, 100, 101, 102, 103, 104, 105, 106, 107, 108, 109, 110, 111, 112, 113, 114, 115, 116, 117, 118, 119, 120, 121, 122, 123, 124] (by decide +kernel) (by decide +kernel)
set_option maxRecDepth 20000 in
theorem gX10_lookRest_X10_lookEnd : GoodIn wsX10_lookRest (wsV RX10 209 RX10 yX10_lookEnd wsX10_lookEnd) := goodIn_app (goodIn_of _ (by decide +kernel)) ggX10_lookRest_X10_lookEnd
theorem dX10_lookRest_0 : decode cX10_lookRest 0 = .ok (.aload_n 0, 1) := by decide +kernel
theorem dX10_lookRest_1 : decode cX10_lookRest 1 = .ok (.iconst 0, 1) := by decide +kernel
theorem dX10_lookRest_2 : decode cX10_lookRest 2 = .ok (.putfield 141, 3) := by decide +kernel
theorem dX10_lookRest_5 : decode cX10_lookRest 5 = .ok (.aload_n 0, 1) := by decide +kernel
theorem dX10_lookRest_6 : decode cX10_lookRest 6 = .ok (.bipush 35, 2) := by decide +kernel
theorem dX10_lookRest_8 : decode cX10_lookRest 8 = .ok (.invokevirtual 144, 3) := by decide +kernel
theorem dX10_lookRest_11 : decode cX10_lookRest 11 = .ok (.ifCond .eq 34, 3) := by decide +kernel
theorem dX10_lookRest_14 : decode cX10_lookRest 14 = .ok (.aload_n 0, 1) := by decide +kernel
theorem dX10_lookRest_15 : decode cX10_lookRest 15 = .ok (.getfield 53, 3) := by decide +kernel
theorem dX10_lookRest_18 : decode cX10_lookRest 18 = .ok (.getfield 193, 3) := by decide +kernel
theorem dX10_lookRest_21 : decode cX10_lookRest 21 = .ok (.iload_n 1, 1) := by decide +kernel
theorem dX10_lookRest_22 : decode cX10_lookRest 22 = .ok (.iconst 2, 1) := by decide +kernel
theorem dX10_lookRest_23 : decode cX10_lookRest 23 = .ok (.bastore, 1) := by decide +kernel
theorem dX10_lookRest_24 : decode cX10_lookRest 24 = .ok (.aload_n 0, 1) := by decide +kernel
theorem dX10_lookRest_25 : decode cX10_lookRest 25 = .ok (.invokevirtual 159, 3) := by decide +kernel
theorem dX10_lookRest_28 : decode cX10_lookRest 28 = .ok (.aload_n 0, 1) := by decide +kernel
theorem dX10_lookRest_29 : decode cX10_lookRest 29 = .ok (.aload_n 0, 1) := by decide +kernel
theorem dX10_lookRest_30 : decode cX10_lookRest 30 = .ok (.bipush 61, 2) := by decide +kernel
theorem dX10_lookRest_32 : decode cX10_lookRest 32 = .ok (.invokevirtual 144, 3) := by decide +kernel
theorem dX10_lookRest_35 : decode cX10_lookRest 35 = .ok (.invokevirtual 137, 3) := by decide +kernel
theorem dX10_lookRest_38 : decode cX10_lookRest 38 = .ok (.aload_n 0, 1) := by decide +kernel
theorem dX10_lookRest_39 : decode cX10_lookRest 39 = .ok (.invokevirtual 178, 3) := by decide +kernel
theorem dX10_lookRest_42 : decode cX10_lookRest 42 = .ok (.goto 206, 3) := by decide +kernel
theorem dX10_lookRest_45 : decode cX10_lookRest 45 = .ok (.aload_n 0, 1) := by decide +kernel
theorem dX10_lookRest_46 : decode cX10_lookRest 46 = .ok (.iconst 0, 1) := by decide +kernel
theorem dX10_lookRest_47 : decode cX10_lookRest 47 = .ok (.invokevirtual 168, 3) := by decide +kernel
theorem dX10_lookRest_50 : decode cX10_lookRest 50 = .ok (.ifCond .ne 11, 3) := by decide +kernel
theorem dX10_lookRest_53 : decode cX10_lookRest 53 = .ok (.aload_n 0, 1) := by decide +kernel
theorem dX10_lookRest_54 : decode cX10_lookRest 54 = .ok (.iconst 1, 1) := by decide +kernel
theorem dX10_lookRest_55 : decode cX10_lookRest 55 = .ok (.invokevirtual 168, 3) := by decide +kernel
theorem dX10_lookRest_58 : decode cX10_lookRest 58 = .ok (.ifCond .eq 77, 3) := by decide +kernel
theorem dX10_lookRest_61 : decode cX10_lookRest 61 = .ok (.aload_n 0, 1) := by decide +kernel
theorem dX10_lookRest_62 : decode cX10_lookRest 62 = .ok (.getfield 53, 3) := by decide +kernel
theorem dX10_lookRest_65 : decode cX10_lookRest 65 = .ok (.getfield 193, 3) := by decide +kernel
theorem dX10_lookRest_68 : decode cX10_lookRest 68 = .ok (.iload_n 1, 1) := by decide +kernel
theorem dX10_lookRest_69 : decode cX10_lookRest 69 = .ok (.aload_n 0, 1) := by decide +kernel
theorem dX10_lookRest_70 : decode cX10_lookRest 70 = .ok (.iconst 0, 1) := by decide +kernel
theorem dX10_lookRest_71 : decode cX10_lookRest 71 = .ok (.invokevirtual 168, 3) := by decide +kernel
theorem dX10_lookRest_74 : decode cX10_lookRest 74 = .ok (.ifCond .eq 7, 3) := by decide +kernel
theorem dX10_lookRest_77 : decode cX10_lookRest 77 = .ok (.iconst 3, 1) := by decide +kernel
theorem dX10_lookRest_78 : decode cX10_lookRest 78 = .ok (.goto 4, 3) := by decide +kernel
theorem dX10_lookRest_81 : decode cX10_lookRest 81 = .ok (.iconst 4, 1) := by decide +kernel
theorem dX10_lookRest_82 : decode cX10_lookRest 82 = .ok (.i2b, 1) := by decide +kernel
theorem dX10_lookRest_83 : decode cX10_lookRest 83 = .ok (.bastore, 1) := by decide +kernel
theorem dX10_lookRest_84 : decode cX10_lookRest 84 = .ok (.aload_n 0, 1) := by decide +kernel
theorem dX10_lookRest_85 : decode cX10_lookRest 85 = .ok (.iconst 0, 1) := by decide +kernel
theorem dX10_lookRest_86 : decode cX10_lookRest 86 = .ok (.invokevirtual 168, 3) := by decide +kernel
theorem dX10_lookRest_89 : decode cX10_lookRest 89 = .ok (.ifCond .eq 17, 3) := by decide +kernel
theorem dX10_lookRest_92 : decode cX10_lookRest 92 = .ok (.aload_n 0, 1) := by decide +kernel
theorem dX10_lookRest_93 : decode cX10_lookRest 93 = .ok (.dup, 1) := by decide +kernel
theorem dX10_lookRest_94 : decode cX10_lookRest 94 = .ok (.getfield 121, 3) := by decide +kernel
theorem dX10_lookRest_97 : decode cX10_lookRest 97 = .ok (.iconst 1, 1) := by decide +kernel
theorem dX10_lookRest_98 : decode cX10_lookRest 98 = .ok (.iadd, 1) := by decide +kernel
theorem dX10_lookRest_99 : decode cX10_lookRest 99 = .ok (.putfield 121, 3) := by decide +kernel
theorem dX10_lookRest_102 : decode cX10_lookRest 102 = .ok (.aload_n 0, 1) := by decide +kernel
theorem dX10_lookRest_103 : decode cX10_lookRest 103 = .ok (.invokevirtual 153, 3) := by decide +kernel
theorem dX10_lookRest_106 : decode cX10_lookRest 106 = .ok (.aload_n 0, 1) := by decide +kernel
theorem dX10_lookRest_107 : decode cX10_lookRest 107 = .ok (.aload_n 0, 1) := by decide +kernel
theorem dX10_lookRest_108 : decode cX10_lookRest 108 = .ok (.iconst 1, 1) := by decide +kernel
theorem dX10_lookRest_109 : decode cX10_lookRest 109 = .ok (.invokevirtual 168, 3) := by decide +kernel
theorem dX10_lookRest_112 : decode cX10_lookRest 112 = .ok (.invokevirtual 137, 3) := by decide +kernel
theorem dX10_lookRest_115 : decode cX10_lookRest 115 = .ok (.aload_n 0, 1) := by decide +kernel
theorem dX10_lookRest_116 : decode cX10_lookRest 116 = .ok (.getfield 53, 3) := by decide +kernel
theorem dX10_lookRest_119 : decode cX10_lookRest 119 = .ok (.getfield 190, 3) := by decide +kernel
theorem dX10_lookRest_122 : decode cX10_lookRest 122 = .ok (.iload_n 1, 1) := by decide +kernel
theorem dX10_lookRest_123 : decode cX10_lookRest 123 = .ok (.aload_n 0, 1) := by decide +kernel
theorem dX10_lookRest_124 : decode cX10_lookRest 124 = .ok (.getfield 121, 3) := by decide +kernel
theorem dX10_lookRest_127 : decode cX10_lookRest 127 = .ok (.iastore, 1) := by decide +kernel
theorem dX10_lookRest_128 : decode cX10_lookRest 128 = .ok (.aload_n 0, 1) := by decide +kernel
theorem dX10_lookRest_129 : decode cX10_lookRest 129 = .ok (.invokevirtual 156, 3) := by decide +kernel
theorem dX10_lookRest_132 : decode cX10_lookRest 132 = .ok (.goto 116, 3) := by decide +kernel
theorem dX10_lookRest_135 : decode cX10_lookRest 135 = .ok (.aload_n 0, 1) := by decide +kernel
theorem dX10_lookRest_136 : decode cX10_lookRest 136 = .ok (.iconst 2, 1) := by decide +kernel
theorem dX10_lookRest_137 : decode cX10_lookRest 137 = .ok (.invokevirtual 168, 3) := by decide +kernel
theorem dX10_lookRest_140 : decode cX10_lookRest 140 = .ok (.ifCond .eq 64, 3) := by decide +kernel
theorem dX10_lookRest_143 : decode cX10_lookRest 143 = .ok (.aload_n 0, 1) := by decide +kernel
theorem dX10_lookRest_144 : decode cX10_lookRest 144 = .ok (.getfield 53, 3) := by decide +kernel
theorem dX10_lookRest_147 : decode cX10_lookRest 147 = .ok (.getfield 193, 3) := by decide +kernel
theorem dX10_lookRest_150 : decode cX10_lookRest 150 = .ok (.iload_n 1, 1) := by decide +kernel
theorem dX10_lookRest_151 : decode cX10_lookRest 151 = .ok (.iconst 5, 1) := by decide +kernel
theorem dX10_lookRest_152 : decode cX10_lookRest 152 = .ok (.bastore, 1) := by decide +kernel
theorem dX10_lookRest_153 : decode cX10_lookRest 153 = .ok (.aload_n 0, 1) := by decide +kernel
theorem dX10_lookRest_154 : decode cX10_lookRest 154 = .ok (.dup, 1) := by decide +kernel
theorem dX10_lookRest_155 : decode cX10_lookRest 155 = .ok (.getfield 121, 3) := by decide +kernel
theorem dX10_lookRest_158 : decode cX10_lookRest 158 = .ok (.iconst 1, 1) := by decide +kernel
theorem dX10_lookRest_159 : decode cX10_lookRest 159 = .ok (.iadd, 1) := by decide +kernel
theorem dX10_lookRest_160 : decode cX10_lookRest 160 = .ok (.putfield 121, 3) := by decide +kernel
theorem dX10_lookRest_163 : decode cX10_lookRest 163 = .ok (.aload_n 0, 1) := by decide +kernel
theorem dX10_lookRest_164 : decode cX10_lookRest 164 = .ok (.invokevirtual 153, 3) := by decide +kernel
theorem dX10_lookRest_167 : decode cX10_lookRest 167 = .ok (.aload_n 0, 1) := by decide +kernel
theorem dX10_lookRest_168 : decode cX10_lookRest 168 = .ok (.aload_n 0, 1) := by decide +kernel
theorem dX10_lookRest_169 : decode cX10_lookRest 169 = .ok (.iconst 3, 1) := by decide +kernel
theorem dX10_lookRest_170 : decode cX10_lookRest 170 = .ok (.invokevirtual 168, 3) := by decide +kernel
theorem dX10_lookRest_173 : decode cX10_lookRest 173 = .ok (.invokevirtual 137, 3) := by decide +kernel
theorem dX10_lookRest_176 : decode cX10_lookRest 176 = .ok (.aload_n 0, 1) := by decide +kernel
theorem dX10_lookRest_177 : decode cX10_lookRest 177 = .ok (.getfield 121, 3) := by decide +kernel
theorem dX10_lookRest_180 : decode cX10_lookRest 180 = .ok (.istore_n 2, 1) := by decide +kernel
theorem dX10_lookRest_181 : decode cX10_lookRest 181 = .ok (.aload_n 0, 1) := by decide +kernel
theorem dX10_lookRest_182 : decode cX10_lookRest 182 = .ok (.invokevirtual 156, 3) := by decide +kernel
theorem dX10_lookRest_185 : decode cX10_lookRest 185 = .ok (.aload_n 0, 1) := by decide +kernel
theorem dX10_lookRest_186 : decode cX10_lookRest 186 = .ok (.getfield 53, 3) := by decide +kernel
theorem dX10_lookRest_189 : decode cX10_lookRest 189 = .ok (.getfield 190, 3) := by decide +kernel
theorem dX10_lookRest_192 : decode cX10_lookRest 192 = .ok (.iload_n 1, 1) := by decide +kernel
theorem dX10_lookRest_193 : decode cX10_lookRest 193 = .ok (.iload_n 2, 1) := by decide +kernel
theorem dX10_lookRest_194 : decode cX10_lookRest 194 = .ok (.iastore, 1) := by decide +kernel
theorem dX10_lookRest_195 : decode cX10_lookRest 195 = .ok (.aload_n 0, 1) := by decide +kernel
theorem dX10_lookRest_196 : decode cX10_lookRest 196 = .ok (.iload_n 1, 1) := by decide +kernel
theorem dX10_lookRest_197 : decode cX10_lookRest 197 = .ok (.iload_n 2, 1) := by decide +kernel
theorem dX10_lookRest_198 : decode cX10_lookRest 198 = .ok (.invokevirtual 205, 3) := by decide +kernel
theorem dX10_lookRest_201 : decode cX10_lookRest 201 = .ok (.goto 47, 3) := by decide +kernel
theorem dX10_lookRest_204 : decode cX10_lookRest 204 = .ok (.aload_n 0, 1) := by decide +kernel
theorem dX10_lookRest_205 : decode cX10_lookRest 205 = .ok (.iconst 4, 1) := by decide +kernel
theorem dX10_lookRest_206 : decode cX10_lookRest 206 = .ok (.invokevirtual 168, 3) := by decide +kernel
theorem dX10_lookRest_209 : decode cX10_lookRest 209 = .ok (.ifCond .eq 39, 3) := by decide +kernel
theorem dX10_lookRest_212 : decode cX10_lookRest 212 = .ok (.aload_n 0, 1) := by decide +kernel
theorem dX10_lookRest_213 : decode cX10_lookRest 213 = .ok (.getfield 53, 3) := by decide +kernel
theorem dX10_lookRest_216 : decode cX10_lookRest 216 = .ok (.getfield 193, 3) := by decide +kernel
theorem dX10_lookRest_219 : decode cX10_lookRest 219 = .ok (.iload_n 1, 1) := by decide +kernel
theorem dX10_lookRest_220 : decode cX10_lookRest 220 = .ok (.bipush 6, 2) := by decide +kernel
theorem dX10_lookRest_222 : decode cX10_lookRest 222 = .ok (.bastore, 1) := by decide +kernel
theorem dX10_lookRest_223 : decode cX10_lookRest 223 = .ok (.aload_n 0, 1) := by decide +kernel
theorem dX10_lookRest_224 : decode cX10_lookRest 224 = .ok (.dup, 1) := by decide +kernel
theorem dX10_lookRest_225 : decode cX10_lookRest 225 = .ok (.getfield 121, 3) := by decide +kernel
theorem dX10_lookRest_228 : decode cX10_lookRest 228 = .ok (.iconst 1, 1) := by decide +kernel
theorem dX10_lookRest_229 : decode cX10_lookRest 229 = .ok (.iadd, 1) := by decide +kernel
theorem dX10_lookRest_230 : decode cX10_lookRest 230 = .ok (.putfield 121, 3) := by decide +kernel
theorem dX10_lookRest_233 : decode cX10_lookRest 233 = .ok (.aload_n 0, 1) := by decide +kernel
theorem dX10_lookRest_234 : decode cX10_lookRest 234 = .ok (.getfield 121, 3) := by decide +kernel
theorem dX10_lookRest_237 : decode cX10_lookRest 237 = .ok (.istore_n 2, 1) := by decide +kernel
theorem dX10_lookRest_238 : decode cX10_lookRest 238 = .ok (.aload_n 0, 1) := by decide +kernel
theorem dX10_lookRest_239 : decode cX10_lookRest 239 = .ok (.invokevirtual 156, 3) := by decide +kernel
theorem dX10_lookRest_242 : decode cX10_lookRest 242 = .ok (.aload_n 0, 1) := by decide +kernel
theorem dX10_lookRest_243 : decode cX10_lookRest 243 = .ok (.iload_n 1, 1) := by decide +kernel
theorem dX10_lookRest_244 : decode cX10_lookRest 244 = .ok (.iload_n 2, 1) := by decide +kernel
theorem dX10_lookRest_245 : decode cX10_lookRest 245 = .ok (.invokevirtual 209, 3) := by decide +kernel
theorem dX10_lookRest_248 : decode cX10_lookRest 248 = .ok (.return_, 1) := by decide +kernel
set_option maxRecDepth 20000 in
theorem ggX10_lookDo_X10_later : GoodIn wsX10_lookDo wsX10_later := goodIn_r _ [10, 11, 1, 12, 13, 14, 15, 16, 17, 18, 19, 20, 21, 22, 23, 24, 25, 26, 27, 28, 29, 30, 31, 32, 33, 34, 35, 36, 37, 38, 39, 40, 41, 42, 43, 44] (by decide +kernel) (by decide +kernel)
set_option maxRecDepth 20000 in
theorem gX10_lookDo_X10_later : GoodIn wsX10_lookDo (wsV RX10 199 RX10 yX10_later wsX10_later) := goodIn_app (goodIn_of _ (by decide +kernel)) ggX10_lookDo_X10_later
theorem dX10_lookDo_0 : decode cX10_lookDo 0 = .ok (.aload_n 0, 1) := by decide +kernel
theorem dX10_lookDo_1 : decode cX10_lookDo 1 = .ok (.getfield 53, 3) := by decide +kernel
theorem dX10_lookDo_4 : decode cX10_lookDo 4 = .ok (.getfield 71, 3) := by decide +kernel
theorem dX10_lookDo_7 : decode cX10_lookDo 7 = .ok (.iload_n 2, 1) := by decide +kernel
theorem dX10_lookDo_8 : decode cX10_lookDo 8 = .ok (.iaload, 1) := by decide +kernel
theorem dX10_lookDo_9 : decode cX10_lookDo 9 = .ok (.istore_n 3, 1) := by decide +kernel
theorem dX10_lookDo_10 : decode cX10_lookDo 10 = .ok (.iload_n 3, 1) := by decide +kernel
theorem dX10_lookDo_11 : decode cX10_lookDo 11 = .ok (.sipush 1000, 3) := by decide +kernel
theorem dX10_lookDo_14 : decode cX10_lookDo 14 = .ok (.if_icmp .eq 17, 3) := by decide +kernel
theorem dX10_lookDo_17 : decode cX10_lookDo 17 = .ok (.iload_n 3, 1) := by decide +kernel
theorem dX10_lookDo_18 : decode cX10_lookDo 18 = .ok (.sipush 2000, 3) := by decide +kernel
theorem dX10_lookDo_21 : decode cX10_lookDo 21 = .ok (.if_icmp .eq 10, 3) := by decide +kernel
theorem dX10_lookDo_24 : decode cX10_lookDo 24 = .ok (.iload_n 3, 1) := by decide +kernel
theorem dX10_lookDo_25 : decode cX10_lookDo 25 = .ok (.sipush 3000, 3) := by decide +kernel
theorem dX10_lookDo_28 : decode cX10_lookDo 28 = .ok (.if_icmp .ne 7, 3) := by decide +kernel
theorem dX10_lookDo_31 : decode cX10_lookDo 31 = .ok (.iconst 1, 1) := by decide +kernel
theorem dX10_lookDo_32 : decode cX10_lookDo 32 = .ok (.goto 4, 3) := by decide +kernel
theorem dX10_lookDo_35 : decode cX10_lookDo 35 = .ok (.iconst 0, 1) := by decide +kernel
theorem dX10_lookDo_36 : decode cX10_lookDo 36 = .ok (.istore 4, 2) := by decide +kernel
theorem dX10_lookDo_38 : decode cX10_lookDo 38 = .ok (.iconst 0, 1) := by decide +kernel
theorem dX10_lookDo_39 : decode cX10_lookDo 39 = .ok (.istore 5, 2) := by decide +kernel
theorem dX10_lookDo_41 : decode cX10_lookDo 41 = .ok (.iload 5, 2) := by decide +kernel
theorem dX10_lookDo_43 : decode cX10_lookDo 43 = .ok (.aload_n 0, 1) := by decide +kernel
theorem dX10_lookDo_44 : decode cX10_lookDo 44 = .ok (.getfield 212, 3) := by decide +kernel
theorem dX10_lookDo_47 : decode cX10_lookDo 47 = .ok (.if_icmp .ge 54, 3) := by decide +kernel
theorem dX10_lookDo_50 : decode cX10_lookDo 50 = .ok (.iload 5, 2) := by decide +kernel
theorem dX10_lookDo_52 : decode cX10_lookDo 52 = .ok (.iconst 4, 1) := by decide +kernel
theorem dX10_lookDo_53 : decode cX10_lookDo 53 = .ok (.if_icmp .ge 48, 3) := by decide +kernel
theorem dX10_lookDo_56 : decode cX10_lookDo 56 = .ok (.iload 4, 2) := by decide +kernel
theorem dX10_lookDo_58 : decode cX10_lookDo 58 = .ok (.ifCond .eq 34, 3) := by decide +kernel
theorem dX10_lookDo_61 : decode cX10_lookDo 61 = .ok (.aload_n 0, 1) := by decide +kernel
theorem dX10_lookDo_62 : decode cX10_lookDo 62 = .ok (.getfield 53, 3) := by decide +kernel
theorem dX10_lookDo_65 : decode cX10_lookDo 65 = .ok (.getfield 71, 3) := by decide +kernel
theorem dX10_lookDo_68 : decode cX10_lookDo 68 = .ok (.aload_n 0, 1) := by decide +kernel
theorem dX10_lookDo_69 : decode cX10_lookDo 69 = .ok (.getfield 53, 3) := by decide +kernel
theorem dX10_lookDo_72 : decode cX10_lookDo 72 = .ok (.getfield 190, 3) := by decide +kernel
theorem dX10_lookDo_75 : decode cX10_lookDo 75 = .ok (.aload_n 0, 1) := by decide +kernel
theorem dX10_lookDo_76 : decode cX10_lookDo 76 = .ok (.getfield 34, 3) := by decide +kernel
theorem dX10_lookDo_79 : decode cX10_lookDo 79 = .ok (.iload 5, 2) := by decide +kernel
theorem dX10_lookDo_81 : decode cX10_lookDo 81 = .ok (.iaload, 1) := by decide +kernel
theorem dX10_lookDo_82 : decode cX10_lookDo 82 = .ok (.iaload, 1) := by decide +kernel
theorem dX10_lookDo_83 : decode cX10_lookDo 83 = .ok (.iaload, 1) := by decide +kernel
theorem dX10_lookDo_84 : decode cX10_lookDo 84 = .ok (.iload_n 3, 1) := by decide +kernel
theorem dX10_lookDo_85 : decode cX10_lookDo 85 = .ok (.if_icmp .eq 7, 3) := by decide +kernel
theorem dX10_lookDo_88 : decode cX10_lookDo 88 = .ok (.iconst 1, 1) := by decide +kernel
theorem dX10_lookDo_89 : decode cX10_lookDo 89 = .ok (.goto 4, 3) := by decide +kernel
theorem dX10_lookDo_92 : decode cX10_lookDo 92 = .ok (.iconst 0, 1) := by decide +kernel
theorem dX10_lookDo_93 : decode cX10_lookDo 93 = .ok (.istore 4, 2) := by decide +kernel
theorem dX10_lookDo_95 : decode cX10_lookDo 95 = .ok (.iinc 5 1, 3) := by decide +kernel
theorem dX10_lookDo_98 : decode cX10_lookDo 98 = .ok (.goto (-57), 3) := by decide +kernel
theorem dX10_lookDo_101 : decode cX10_lookDo 101 = .ok (.iload 4, 2) := by decide +kernel
theorem dX10_lookDo_103 : decode cX10_lookDo 103 = .ok (.ifCond .ne 8, 3) := by decide +kernel
theorem dX10_lookDo_106 : decode cX10_lookDo 106 = .ok (.aload_n 0, 1) := by decide +kernel
theorem dX10_lookDo_107 : decode cX10_lookDo 107 = .ok (.iload_n 2, 1) := by decide +kernel
theorem dX10_lookDo_108 : decode cX10_lookDo 108 = .ok (.invokevirtual 199, 3) := by decide +kernel
theorem dX10_lookDo_111 : decode cX10_lookDo 111 = .ok (.aload_n 0, 1) := by decide +kernel
theorem dX10_lookDo_112 : decode cX10_lookDo 112 = .ok (.getfield 212, 3) := by decide +kernel
theorem dX10_lookDo_115 : decode cX10_lookDo 115 = .ok (.iconst 4, 1) := by decide +kernel
theorem dX10_lookDo_116 : decode cX10_lookDo 116 = .ok (.if_icmp .ge 13, 3) := by decide +kernel
theorem dX10_lookDo_119 : decode cX10_lookDo 119 = .ok (.aload_n 0, 1) := by decide +kernel
theorem dX10_lookDo_120 : decode cX10_lookDo 120 = .ok (.getfield 34, 3) := by decide +kernel
theorem dX10_lookDo_123 : decode cX10_lookDo 123 = .ok (.aload_n 0, 1) := by decide +kernel
theorem dX10_lookDo_124 : decode cX10_lookDo 124 = .ok (.getfield 212, 3) := by decide +kernel
theorem dX10_lookDo_127 : decode cX10_lookDo 127 = .ok (.iload_n 1, 1) := by decide +kernel
theorem dX10_lookDo_128 : decode cX10_lookDo 128 = .ok (.iastore, 1) := by decide +kernel
theorem dX10_lookDo_129 : decode cX10_lookDo 129 = .ok (.aload_n 0, 1) := by decide +kernel
theorem dX10_lookDo_130 : decode cX10_lookDo 130 = .ok (.getfield 212, 3) := by decide +kernel
theorem dX10_lookDo_133 : decode cX10_lookDo 133 = .ok (.iconst 4, 1) := by decide +kernel
theorem dX10_lookDo_134 : decode cX10_lookDo 134 = .ok (.if_icmp .ge 13, 3) := by decide +kernel
theorem dX10_lookDo_137 : decode cX10_lookDo 137 = .ok (.aload_n 0, 1) := by decide +kernel
theorem dX10_lookDo_138 : decode cX10_lookDo 138 = .ok (.dup, 1) := by decide +kernel
theorem dX10_lookDo_139 : decode cX10_lookDo 139 = .ok (.getfield 212, 3) := by decide +kernel
theorem dX10_lookDo_142 : decode cX10_lookDo 142 = .ok (.iconst 1, 1) := by decide +kernel
theorem dX10_lookDo_143 : decode cX10_lookDo 143 = .ok (.iadd, 1) := by decide +kernel
theorem dX10_lookDo_144 : decode cX10_lookDo 144 = .ok (.putfield 212, 3) := by decide +kernel
theorem dX10_lookDo_147 : decode cX10_lookDo 147 = .ok (.return_, 1) := by decide +kernel
set_option maxRecDepth 20000 in
theorem ggX10_lookEnd_X10_later : GoodIn wsX10_lookEnd wsX10_later := goodIn_r _ [11, 12, 2, 13, 14, 15, 16, 17, 18, 19, 20, 21, 22, 23, 24, 25, 26, 27, 28, 29, 30, 31, 32, 33, 34, 35, 36, 37, 38, 39, 40, 41, 42, 43, 44, 45] (by decide +kernel) (by decide +kernel)
set_option maxRecDepth 20000 in
theorem gX10_lookEnd_X10_later : GoodIn wsX10_lookEnd (wsV RX10 199 RX10 yX10_later wsX10_later) := goodIn_app (goodIn_of _ (by decide +kernel)) ggX10_lookEnd_X10_later
theorem dX10_lookEnd_0 : decode cX10_lookEnd 0 = .ok (.aload_n 0, 1) := by decide +kernel
theorem dX10_lookEnd_1 : decode cX10_lookEnd 1 = .ok (.getfield 212, 3) := by decide +kernel
theorem dX10_lookEnd_4 : decode cX10_lookEnd 4 = .ok (.ifCond .le 46, 3) := by decide +kernel
theorem dX10_lookEnd_7 : decode cX10_lookEnd 7 = .ok (.aload_n 0, 1) := by decide +kernel
theorem dX10_lookEnd_8 : decode cX10_lookEnd 8 = .ok (.getfield 53, 3) := by decide +kernel
theorem dX10_lookEnd_11 : decode cX10_lookEnd 11 = .ok (.getfield 71, 3) := by decide +kernel
theorem dX10_lookEnd_14 : decode cX10_lookEnd 14 = .ok (.aload_n 0, 1) := by decide +kernel
theorem dX10_lookEnd_15 : decode cX10_lookEnd 15 = .ok (.getfield 53, 3) := by decide +kernel
theorem dX10_lookEnd_18 : decode cX10_lookEnd 18 = .ok (.getfield 190, 3) := by decide +kernel
theorem dX10_lookEnd_21 : decode cX10_lookEnd 21 = .ok (.aload_n 0, 1) := by decide +kernel
theorem dX10_lookEnd_22 : decode cX10_lookEnd 22 = .ok (.getfield 34, 3) := by decide +kernel
theorem dX10_lookEnd_25 : decode cX10_lookEnd 25 = .ok (.aload_n 0, 1) := by decide +kernel
theorem dX10_lookEnd_26 : decode cX10_lookEnd 26 = .ok (.getfield 212, 3) := by decide +kernel
theorem dX10_lookEnd_29 : decode cX10_lookEnd 29 = .ok (.iconst 1, 1) := by decide +kernel
theorem dX10_lookEnd_30 : decode cX10_lookEnd 30 = .ok (.isub, 1) := by decide +kernel
theorem dX10_lookEnd_31 : decode cX10_lookEnd 31 = .ok (.iaload, 1) := by decide +kernel
theorem dX10_lookEnd_32 : decode cX10_lookEnd 32 = .ok (.iaload, 1) := by decide +kernel
theorem dX10_lookEnd_33 : decode cX10_lookEnd 33 = .ok (.iaload, 1) := by decide +kernel
theorem dX10_lookEnd_34 : decode cX10_lookEnd 34 = .ok (.aload_n 0, 1) := by decide +kernel
theorem dX10_lookEnd_35 : decode cX10_lookEnd 35 = .ok (.getfield 53, 3) := by decide +kernel
theorem dX10_lookEnd_38 : decode cX10_lookEnd 38 = .ok (.getfield 71, 3) := by decide +kernel
theorem dX10_lookEnd_41 : decode cX10_lookEnd 41 = .ok (.iload_n 2, 1) := by decide +kernel
theorem dX10_lookEnd_42 : decode cX10_lookEnd 42 = .ok (.iaload, 1) := by decide +kernel
theorem dX10_lookEnd_43 : decode cX10_lookEnd 43 = .ok (.if_icmp .ne 7, 3) := by decide +kernel
theorem dX10_lookEnd_46 : decode cX10_lookEnd 46 = .ok (.iconst 1, 1) := by decide +kernel
theorem dX10_lookEnd_47 : decode cX10_lookEnd 47 = .ok (.goto 4, 3) := by decide +kernel
theorem dX10_lookEnd_50 : decode cX10_lookEnd 50 = .ok (.iconst 0, 1) := by decide +kernel
theorem dX10_lookEnd_51 : decode cX10_lookEnd 51 = .ok (.istore_n 3, 1) := by decide +kernel
theorem dX10_lookEnd_52 : decode cX10_lookEnd 52 = .ok (.iload_n 3, 1) := by decide +kernel
theorem dX10_lookEnd_53 : decode cX10_lookEnd 53 = .ok (.ifCond .ne 9, 3) := by decide +kernel
theorem dX10_lookEnd_56 : decode cX10_lookEnd 56 = .ok (.aload_n 0, 1) := by decide +kernel
theorem dX10_lookEnd_57 : decode cX10_lookEnd 57 = .ok (.iload_n 2, 1) := by decide +kernel
theorem dX10_lookEnd_58 : decode cX10_lookEnd 58 = .ok (.invokevirtual 199, 3) := by decide +kernel
theorem dX10_lookEnd_61 : decode cX10_lookEnd 61 = .ok (.return_, 1) := by decide +kernel
theorem dX10_lookEnd_62 : decode cX10_lookEnd 62 = .ok (.aload_n 0, 1) := by decide +kernel
theorem dX10_lookEnd_63 : decode cX10_lookEnd 63 = .ok (.dup, 1) := by decide +kernel
theorem dX10_lookEnd_64 : decode cX10_lookEnd 64 = .ok (.getfield 212, 3) := by decide +kernel
theorem dX10_lookEnd_67 : decode cX10_lookEnd 67 = .ok (.iconst 1, 1) := by decide +kernel
theorem dX10_lookEnd_68 : decode cX10_lookEnd 68 = .ok (.isub, 1) := by decide +kernel
theorem dX10_lookEnd_69 : decode cX10_lookEnd 69 = .ok (.putfield 212, 3) := by decide +kernel
theorem dX10_lookEnd_72 : decode cX10_lookEnd 72 = .ok (.aload_n 0, 1) := by decide +kernel
theorem dX10_lookEnd_73 : decode cX10_lookEnd 73 = .ok (.getfield 53, 3) := by decide +kernel
theorem dX10_lookEnd_76 : decode cX10_lookEnd 76 = .ok (.getfield 187, 3) := by decide +kernel
theorem dX10_lookEnd_79 : decode cX10_lookEnd 79 = .ok (.iload_n 1, 1) := by decide +kernel
theorem dX10_lookEnd_80 : decode cX10_lookEnd 80 = .ok (.aload_n 0, 1) := by decide +kernel
theorem dX10_lookEnd_81 : decode cX10_lookEnd 81 = .ok (.getfield 34, 3) := by decide +kernel
theorem dX10_lookEnd_84 : decode cX10_lookEnd 84 = .ok (.aload_n 0, 1) := by decide +kernel
theorem dX10_lookEnd_85 : decode cX10_lookEnd 85 = .ok (.getfield 212, 3) := by decide +kernel
theorem dX10_lookEnd_88 : decode cX10_lookEnd 88 = .ok (.iaload, 1) := by decide +kernel
theorem dX10_lookEnd_89 : decode cX10_lookEnd 89 = .ok (.iastore, 1) := by decide +kernel
theorem dX10_lookEnd_90 : decode cX10_lookEnd 90 = .ok (.aload_n 0, 1) := by decide +kernel
theorem dX10_lookEnd_91 : decode cX10_lookEnd 91 = .ok (.getfield 53, 3) := by decide +kernel
theorem dX10_lookEnd_94 : decode cX10_lookEnd 94 = .ok (.getfield 187, 3) := by decide +kernel
theorem dX10_lookEnd_97 : decode cX10_lookEnd 97 = .ok (.aload_n 0, 1) := by decide +kernel
theorem dX10_lookEnd_98 : decode cX10_lookEnd 98 = .ok (.getfield 34, 3) := by decide +kernel
theorem dX10_lookEnd_101 : decode cX10_lookEnd 101 = .ok (.aload_n 0, 1) := by decide +kernel
theorem dX10_lookEnd_102 : decode cX10_lookEnd 102 = .ok (.getfield 212, 3) := by decide +kernel
theorem dX10_lookEnd_105 : decode cX10_lookEnd 105 = .ok (.iaload, 1) := by decide +kernel
theorem dX10_lookEnd_106 : decode cX10_lookEnd 106 = .ok (.iload_n 1, 1) := by decide +kernel
theorem dX10_lookEnd_107 : decode cX10_lookEnd 107 = .ok (.iastore, 1) := by decide +kernel
theorem dX10_lookEnd_108 : decode cX10_lookEnd 108 = .ok (.return_, 1) := by decide +kernel
theorem dX10_lineOf_0 : decode cX10_lineOf 0 = .ok (.iconst 0, 1) := by decide +kernel
theorem dX10_lineOf_1 : decode cX10_lineOf 1 = .ok (.istore_n 2, 1) := by decide +kernel
theorem dX10_lineOf_2 : decode cX10_lineOf 2 = .ok (.iload_n 2, 1) := by decide +kernel
theorem dX10_lineOf_3 : decode cX10_lineOf 3 = .ok (.aload_n 0, 1) := by decide +kernel
theorem dX10_lineOf_4 : decode cX10_lineOf 4 = .ok (.getfield 53, 3) := by decide +kernel
theorem dX10_lineOf_7 : decode cX10_lineOf 7 = .ok (.getfield 215, 3) := by decide +kernel
theorem dX10_lineOf_10 : decode cX10_lineOf 10 = .ok (.if_icmp .ge 24, 3) := by decide +kernel
theorem dX10_lineOf_13 : decode cX10_lineOf 13 = .ok (.aload_n 0, 1) := by decide +kernel
theorem dX10_lineOf_14 : decode cX10_lineOf 14 = .ok (.getfield 53, 3) := by decide +kernel
theorem dX10_lineOf_17 : decode cX10_lineOf 17 = .ok (.getfield 184, 3) := by decide +kernel
theorem dX10_lineOf_20 : decode cX10_lineOf 20 = .ok (.iload_n 2, 1) := by decide +kernel
theorem dX10_lineOf_21 : decode cX10_lineOf 21 = .ok (.iaload, 1) := by decide +kernel
theorem dX10_lineOf_22 : decode cX10_lineOf 22 = .ok (.iload_n 1, 1) := by decide +kernel
theorem dX10_lineOf_23 : decode cX10_lineOf 23 = .ok (.if_icmp .ne 5, 3) := by decide +kernel
theorem dX10_lineOf_26 : decode cX10_lineOf 26 = .ok (.iload_n 2, 1) := by decide +kernel
theorem dX10_lineOf_27 : decode cX10_lineOf 27 = .ok (.ireturn, 1) := by decide +kernel
theorem dX10_lineOf_28 : decode cX10_lineOf 28 = .ok (.iinc 2 1, 3) := by decide +kernel
theorem dX10_lineOf_31 : decode cX10_lineOf 31 = .ok (.goto (-29), 3) := by decide +kernel
theorem dX10_lineOf_34 : decode cX10_lineOf 34 = .ok (.iconst (-1), 1) := by decide +kernel
theorem dX10_lineOf_35 : decode cX10_lineOf 35 = .ok (.ireturn, 1) := by decide +kernel
set_option maxRecDepth 20000 in
theorem ggX10_behindAll_X10_later : GoodIn wsX10_behindAll wsX10_later := goodIn_r _ [11, 12, 1, 13, 19, 20, 21, 22, 23, 24, 25, 26, 27, 28, 29, 30, 31, 32, 33, 34, 35, 36, 37, 38, 39, 40, 41, 42, 43, 44, 45, 46, 47, 48, 49, 50] (by decide +kernel) (by decide +kernel)
set_option maxRecDepth 20000 in
theorem gX10_behindAll_X10_later : GoodIn wsX10_behindAll (wsV RX10 199 RX10 yX10_later wsX10_later) := goodIn_app (goodIn_of _ (by decide +kernel)) ggX10_behindAll_X10_later
set_option maxRecDepth 20000 in
theorem ggX10_behindAll_X10_lineOf : GoodIn wsX10_behindAll wsX10_lineOf := goodIn_r _ [17, 1, 2, 18, 19, 20, 21, 22, 23, 24, 25, 26, 27, 28, 29, 30, 31, 32, 33, 34, 35, 36, 37, 38, 39, 40, 41, 42, 43, 44, 45, 46, 47, 48, 49, 50] (by decide +kernel) (by decide +kernel)
set_option maxRecDepth 20000 in
theorem gX10_behindAll_X10_lineOf : GoodIn wsX10_behindAll (wsV RX10 218 RX10 yX10_lineOf wsX10_lineOf) := goodIn_app (goodIn_of _ (by decide +kernel)) ggX10_behindAll_X10_lineOf
theorem dX10_behindAll_0 : decode cX10_behindAll 0 = .ok (.iconst 0, 1) := by decide +kernel
theorem dX10_behindAll_1 : decode cX10_behindAll 1 = .ok (.istore_n 1, 1) := by decide +kernel
theorem dX10_behindAll_2 : decode cX10_behindAll 2 = .ok (.iload_n 1, 1) := by decide +kernel
theorem dX10_behindAll_3 : decode cX10_behindAll 3 = .ok (.aload_n 0, 1) := by decide +kernel
theorem dX10_behindAll_4 : decode cX10_behindAll 4 = .ok (.getfield 53, 3) := by decide +kernel
theorem dX10_behindAll_7 : decode cX10_behindAll 7 = .ok (.getfield 215, 3) := by decide +kernel
theorem dX10_behindAll_10 : decode cX10_behindAll 10 = .ok (.if_icmp .ge 47, 3) := by decide +kernel
theorem dX10_behindAll_13 : decode cX10_behindAll 13 = .ok (.aload_n 0, 1) := by decide +kernel
theorem dX10_behindAll_14 : decode cX10_behindAll 14 = .ok (.getfield 53, 3) := by decide +kernel
theorem dX10_behindAll_17 : decode cX10_behindAll 17 = .ok (.getfield 193, 3) := by decide +kernel
theorem dX10_behindAll_20 : decode cX10_behindAll 20 = .ok (.iload_n 1, 1) := by decide +kernel
theorem dX10_behindAll_21 : decode cX10_behindAll 21 = .ok (.baload, 1) := by decide +kernel
theorem dX10_behindAll_22 : decode cX10_behindAll 22 = .ok (.iconst 5, 1) := by decide +kernel
theorem dX10_behindAll_23 : decode cX10_behindAll 23 = .ok (.if_icmp .ne 28, 3) := by decide +kernel
theorem dX10_behindAll_26 : decode cX10_behindAll 26 = .ok (.aload_n 0, 1) := by decide +kernel
theorem dX10_behindAll_27 : decode cX10_behindAll 27 = .ok (.getfield 53, 3) := by decide +kernel
theorem dX10_behindAll_30 : decode cX10_behindAll 30 = .ok (.getfield 187, 3) := by decide +kernel
theorem dX10_behindAll_33 : decode cX10_behindAll 33 = .ok (.iload_n 1, 1) := by decide +kernel
theorem dX10_behindAll_34 : decode cX10_behindAll 34 = .ok (.iaload, 1) := by decide +kernel
theorem dX10_behindAll_35 : decode cX10_behindAll 35 = .ok (.ifCond .ge 16, 3) := by decide +kernel
theorem dX10_behindAll_38 : decode cX10_behindAll 38 = .ok (.aload_n 0, 1) := by decide +kernel
theorem dX10_behindAll_39 : decode cX10_behindAll 39 = .ok (.aload_n 0, 1) := by decide +kernel
theorem dX10_behindAll_40 : decode cX10_behindAll 40 = .ok (.getfield 53, 3) := by decide +kernel
theorem dX10_behindAll_43 : decode cX10_behindAll 43 = .ok (.getfield 190, 3) := by decide +kernel
theorem dX10_behindAll_46 : decode cX10_behindAll 46 = .ok (.iload_n 1, 1) := by decide +kernel
theorem dX10_behindAll_47 : decode cX10_behindAll 47 = .ok (.iaload, 1) := by decide +kernel
theorem dX10_behindAll_48 : decode cX10_behindAll 48 = .ok (.invokevirtual 199, 3) := by decide +kernel
theorem dX10_behindAll_51 : decode cX10_behindAll 51 = .ok (.iinc 1 1, 3) := by decide +kernel
theorem dX10_behindAll_54 : decode cX10_behindAll 54 = .ok (.goto (-52), 3) := by decide +kernel
theorem dX10_behindAll_57 : decode cX10_behindAll 57 = .ok (.iconst 0, 1) := by decide +kernel
theorem dX10_behindAll_58 : decode cX10_behindAll 58 = .ok (.istore_n 1, 1) := by decide +kernel
theorem dX10_behindAll_59 : decode cX10_behindAll 59 = .ok (.iload_n 1, 1) := by decide +kernel
theorem dX10_behindAll_60 : decode cX10_behindAll 60 = .ok (.aload_n 0, 1) := by decide +kernel
theorem dX10_behindAll_61 : decode cX10_behindAll 61 = .ok (.getfield 53, 3) := by decide +kernel
theorem dX10_behindAll_64 : decode cX10_behindAll 64 = .ok (.getfield 215, 3) := by decide +kernel
theorem dX10_behindAll_67 : decode cX10_behindAll 67 = .ok (.if_icmp .ge 82, 3) := by decide +kernel
theorem dX10_behindAll_70 : decode cX10_behindAll 70 = .ok (.aload_n 0, 1) := by decide +kernel
theorem dX10_behindAll_71 : decode cX10_behindAll 71 = .ok (.getfield 53, 3) := by decide +kernel
theorem dX10_behindAll_74 : decode cX10_behindAll 74 = .ok (.getfield 193, 3) := by decide +kernel
theorem dX10_behindAll_77 : decode cX10_behindAll 77 = .ok (.iload_n 1, 1) := by decide +kernel
theorem dX10_behindAll_78 : decode cX10_behindAll 78 = .ok (.baload, 1) := by decide +kernel
theorem dX10_behindAll_79 : decode cX10_behindAll 79 = .ok (.iconst 3, 1) := by decide +kernel
theorem dX10_behindAll_80 : decode cX10_behindAll 80 = .ok (.if_icmp .eq 16, 3) := by decide +kernel
theorem dX10_behindAll_83 : decode cX10_behindAll 83 = .ok (.aload_n 0, 1) := by decide +kernel
theorem dX10_behindAll_84 : decode cX10_behindAll 84 = .ok (.getfield 53, 3) := by decide +kernel
theorem dX10_behindAll_87 : decode cX10_behindAll 87 = .ok (.getfield 193, 3) := by decide +kernel
theorem dX10_behindAll_90 : decode cX10_behindAll 90 = .ok (.iload_n 1, 1) := by decide +kernel
theorem dX10_behindAll_91 : decode cX10_behindAll 91 = .ok (.baload, 1) := by decide +kernel
theorem dX10_behindAll_92 : decode cX10_behindAll 92 = .ok (.iconst 4, 1) := by decide +kernel
theorem dX10_behindAll_93 : decode cX10_behindAll 93 = .ok (.if_icmp .ne 7, 3) := by decide +kernel
theorem dX10_behindAll_96 : decode cX10_behindAll 96 = .ok (.iconst 1, 1) := by decide +kernel
theorem dX10_behindAll_97 : decode cX10_behindAll 97 = .ok (.goto 4, 3) := by decide +kernel
theorem dX10_behindAll_100 : decode cX10_behindAll 100 = .ok (.iconst 0, 1) := by decide +kernel
theorem dX10_behindAll_101 : decode cX10_behindAll 101 = .ok (.istore_n 2, 1) := by decide +kernel
theorem dX10_behindAll_102 : decode cX10_behindAll 102 = .ok (.iload_n 2, 1) := by decide +kernel
theorem dX10_behindAll_103 : decode cX10_behindAll 103 = .ok (.ifCond .eq 40, 3) := by decide +kernel
theorem dX10_behindAll_106 : decode cX10_behindAll 106 = .ok (.aload_n 0, 1) := by decide +kernel
theorem dX10_behindAll_107 : decode cX10_behindAll 107 = .ok (.aload_n 0, 1) := by decide +kernel
theorem dX10_behindAll_108 : decode cX10_behindAll 108 = .ok (.getfield 53, 3) := by decide +kernel
theorem dX10_behindAll_111 : decode cX10_behindAll 111 = .ok (.getfield 71, 3) := by decide +kernel
theorem dX10_behindAll_114 : decode cX10_behindAll 114 = .ok (.aload_n 0, 1) := by decide +kernel
theorem dX10_behindAll_115 : decode cX10_behindAll 115 = .ok (.getfield 53, 3) := by decide +kernel
theorem dX10_behindAll_118 : decode cX10_behindAll 118 = .ok (.getfield 190, 3) := by decide +kernel
theorem dX10_behindAll_121 : decode cX10_behindAll 121 = .ok (.iload_n 1, 1) := by decide +kernel
theorem dX10_behindAll_122 : decode cX10_behindAll 122 = .ok (.iaload, 1) := by decide +kernel
theorem dX10_behindAll_123 : decode cX10_behindAll 123 = .ok (.iaload, 1) := by decide +kernel
theorem dX10_behindAll_124 : decode cX10_behindAll 124 = .ok (.invokevirtual 218, 3) := by decide +kernel
theorem dX10_behindAll_127 : decode cX10_behindAll 127 = .ok (.ifCond .ge 16, 3) := by decide +kernel
theorem dX10_behindAll_130 : decode cX10_behindAll 130 = .ok (.aload_n 0, 1) := by decide +kernel
theorem dX10_behindAll_131 : decode cX10_behindAll 131 = .ok (.aload_n 0, 1) := by decide +kernel
theorem dX10_behindAll_132 : decode cX10_behindAll 132 = .ok (.getfield 53, 3) := by decide +kernel
theorem dX10_behindAll_135 : decode cX10_behindAll 135 = .ok (.getfield 190, 3) := by decide +kernel
theorem dX10_behindAll_138 : decode cX10_behindAll 138 = .ok (.iload_n 1, 1) := by decide +kernel
theorem dX10_behindAll_139 : decode cX10_behindAll 139 = .ok (.iaload, 1) := by decide +kernel
theorem dX10_behindAll_140 : decode cX10_behindAll 140 = .ok (.invokevirtual 199, 3) := by decide +kernel
theorem dX10_behindAll_143 : decode cX10_behindAll 143 = .ok (.iinc 1 1, 3) := by decide +kernel
theorem dX10_behindAll_146 : decode cX10_behindAll 146 = .ok (.goto (-87), 3) := by decide +kernel
theorem dX10_behindAll_149 : decode cX10_behindAll 149 = .ok (.return_, 1) := by decide +kernel
set_option maxRecDepth 20000 in
theorem ggX10_read_X10_cutLine : GoodIn wsX10_read wsX10_cutLine := goodIn_r _ [27, 5, 6, 28, 29, 30, 26, 31, 32, 33, 34, 35, 7, 36, 37, 38, 39, 40, 41, 42, 43, 44, 45, 46, 47, 48, 49, 50, 51, 9, 52, 53, 54, 55, 56, 57, 58, 59, 60, 61, 62, 63, 64, 65, 66, 67, 68, 69, 70, 71, 72, 73, 74, 75, 76, 77, 78, 79, 80, 81, 82, 83, 84, 85, 86, 87, 88, 89, 90, 91, 92, 93, 94, 95, 96, 97, 98, 99, 100, 101, 102, 103, 104, 105, 106, 107, 108, 109, 110, 111, 112, 113, 114, 217, 218, 219, 220, 221, 222, 223, 224, 225, 226, 227, 228, 229, 230, 231, 232, 233, 234, 235, 236, 237, 238, 239, 240, 241, 242, 243, 244, 245, 246, 247, 248] (by decide +kernel) (by decide +kernel)
set_option maxRecDepth 20000 in
theorem gX10_read_X10_cutLine : GoodIn wsX10_read (wsV RX10 224 RX10 yX10_cutLine wsX10_cutLine) := goodIn_app (goodIn_of _ (by decide +kernel)) ggX10_read_X10_cutLine
set_option maxRecDepth 20000 in
theorem ggX10_read_X10_lookLine : GoodIn wsX10_read wsX10_lookLine := goodIn_r _ [118, 5, 119, 120, 121, 122, 14, 53, 123, 124, 125, 26, 126, 127, 128, 129, 130, 51, 131, 132, 133, 134, 54, 135, 136, 137, 138, 139, 140, 141, 142, 52, 15, 16, 143, 144, 145, 146, 11, 147, 148, 149, 150, 151, 152, 153, 154, 155, 156, 157, 158, 159, 160, 161, 162, 163, 164, 165, 166, 167, 168, 169, 170, 171, 172, 173, 174, 175, 176, 177, 178, 179, 180, 181, 182, 183, 184, 185, 186, 187, 188, 189, 190, 191, 192, 193, 194, 195, 196, 197, 198, 199, 200, 201, 202, 203, 12, 204, 205, 206, 207, 208, 217, 218, 219, 220, 221, 222, 223, 224, 225, 226, 227, 228, 229, 230, 231, 232, 233, 234, 235, 236, 237, 238, 239, 240, 241, 242, 243, 244, 245, 246, 247, 248] (by decide +kernel) (by decide +kernel)
set_option maxRecDepth 20000 in
theorem gX10_read_X10_lookLine : GoodIn wsX10_read (wsV RX10 227 RX10 yX10_lookLine wsX10_lookLine) := goodIn_app (goodIn_of _ (by decide +kernel)) ggX10_read_X10_lookLine
set_option maxRecDepth 20000 in
theorem ggX10_read_X10_behindAll : GoodIn wsX10_read wsX10_behindAll := goodIn_r _ [212, 5, 10, 122, 120, 121, 53, 143, 144, 145, 26, 146, 11, 52, 213, 214, 215, 216, 119, 217, 218, 219, 220, 221, 222, 223, 224, 225, 226, 227, 228, 229, 230, 231, 232, 233, 234, 235, 236, 237, 238, 239, 240, 241, 242, 243, 244, 245, 246, 247, 248] (by decide +kernel) (by decide +kernel)
set_option maxRecDepth 20000 in
theorem gX10_read_X10_behindAll : GoodIn wsX10_read (wsV RX10 236 RX10 yX10_behindAll wsX10_behindAll) := goodIn_app (goodIn_of _ (by decide +kernel)) ggX10_read_X10_behindAll
theorem dX10_read_0 : decode cX10_read 0 = .ok (.aload_n 0, 1) := by decide +kernel
theorem dX10_read_1 : decode cX10_read 1 = .ok (.getfield 42, 3) := by decide +kernel
theorem dX10_read_4 : decode cX10_read 4 = .ok (.istore_n 1, 1) := by decide +kernel
theorem dX10_read_5 : decode cX10_read 5 = .ok (.aload_n 0, 1) := by decide +kernel
theorem dX10_read_6 : decode cX10_read 6 = .ok (.iconst 0, 1) := by decide +kernel
theorem dX10_read_7 : decode cX10_read 7 = .ok (.putfield 42, 3) := by decide +kernel
theorem dX10_read_10 : decode cX10_read 10 = .ok (.aload_n 0, 1) := by decide +kernel
theorem dX10_read_11 : decode cX10_read 11 = .ok (.iconst (-1), 1) := by decide +kernel
theorem dX10_read_12 : decode cX10_read 12 = .ok (.putfield 30, 3) := by decide +kernel
theorem dX10_read_15 : decode cX10_read 15 = .ok (.aload_n 0, 1) := by decide +kernel
theorem dX10_read_16 : decode cX10_read 16 = .ok (.aload_n 0, 1) := by decide +kernel
theorem dX10_read_17 : decode cX10_read 17 = .ok (.getfield 16, 3) := by decide +kernel
theorem dX10_read_20 : decode cX10_read 20 = .ok (.putfield 53, 3) := by decide +kernel
theorem dX10_read_23 : decode cX10_read 23 = .ok (.aload_n 0, 1) := by decide +kernel
theorem dX10_read_24 : decode cX10_read 24 = .ok (.getfield 53, 3) := by decide +kernel
theorem dX10_read_27 : decode cX10_read 27 = .ok (.iload_n 1, 1) := by decide +kernel
theorem dX10_read_28 : decode cX10_read 28 = .ok (.putfield 56, 3) := by decide +kernel
theorem dX10_read_31 : decode cX10_read 31 = .ok (.iconst 0, 1) := by decide +kernel
theorem dX10_read_32 : decode cX10_read 32 = .ok (.istore_n 2, 1) := by decide +kernel
theorem dX10_read_33 : decode cX10_read 33 = .ok (.iload_n 2, 1) := by decide +kernel
theorem dX10_read_34 : decode cX10_read 34 = .ok (.aload_n 0, 1) := by decide +kernel
theorem dX10_read_35 : decode cX10_read 35 = .ok (.getfield 53, 3) := by decide +kernel
theorem dX10_read_38 : decode cX10_read 38 = .ok (.getfield 56, 3) := by decide +kernel
theorem dX10_read_41 : decode cX10_read 41 = .ok (.if_icmp .ge 24, 3) := by decide +kernel
theorem dX10_read_44 : decode cX10_read 44 = .ok (.aload_n 0, 1) := by decide +kernel
theorem dX10_read_45 : decode cX10_read 45 = .ok (.getfield 53, 3) := by decide +kernel
theorem dX10_read_48 : decode cX10_read 48 = .ok (.getfield 59, 3) := by decide +kernel
theorem dX10_read_51 : decode cX10_read 51 = .ok (.iload_n 2, 1) := by decide +kernel
theorem dX10_read_52 : decode cX10_read 52 = .ok (.aload_n 0, 1) := by decide +kernel
theorem dX10_read_53 : decode cX10_read 53 = .ok (.getfield 19, 3) := by decide +kernel
theorem dX10_read_56 : decode cX10_read 56 = .ok (.iload_n 2, 1) := by decide +kernel
theorem dX10_read_57 : decode cX10_read 57 = .ok (.baload, 1) := by decide +kernel
theorem dX10_read_58 : decode cX10_read 58 = .ok (.bastore, 1) := by decide +kernel
theorem dX10_read_59 : decode cX10_read 59 = .ok (.iinc 2 1, 3) := by decide +kernel
theorem dX10_read_62 : decode cX10_read 62 = .ok (.goto (-29), 3) := by decide +kernel
theorem dX10_read_65 : decode cX10_read 65 = .ok (.aload_n 0, 1) := by decide +kernel
theorem dX10_read_66 : decode cX10_read 66 = .ok (.getfield 53, 3) := by decide +kernel
theorem dX10_read_69 : decode cX10_read 69 = .ok (.iconst 0, 1) := by decide +kernel
theorem dX10_read_70 : decode cX10_read 70 = .ok (.putfield 65, 3) := by decide +kernel
theorem dX10_read_73 : decode cX10_read 73 = .ok (.aload_n 0, 1) := by decide +kernel
theorem dX10_read_74 : decode cX10_read 74 = .ok (.getfield 53, 3) := by decide +kernel
theorem dX10_read_77 : decode cX10_read 77 = .ok (.iconst 0, 1) := by decide +kernel
theorem dX10_read_78 : decode cX10_read 78 = .ok (.putfield 215, 3) := by decide +kernel
theorem dX10_read_81 : decode cX10_read 81 = .ok (.aload_n 0, 1) := by decide +kernel
theorem dX10_read_82 : decode cX10_read 82 = .ok (.iconst (-1), 1) := by decide +kernel
theorem dX10_read_83 : decode cX10_read 83 = .ok (.putfield 134, 3) := by decide +kernel
theorem dX10_read_86 : decode cX10_read 86 = .ok (.aload_n 0, 1) := by decide +kernel
theorem dX10_read_87 : decode cX10_read 87 = .ok (.iconst 0, 1) := by decide +kernel
theorem dX10_read_88 : decode cX10_read 88 = .ok (.putfield 212, 3) := by decide +kernel
theorem dX10_read_91 : decode cX10_read 91 = .ok (.iconst 0, 1) := by decide +kernel
theorem dX10_read_92 : decode cX10_read 92 = .ok (.istore_n 2, 1) := by decide +kernel
theorem dX10_read_93 : decode cX10_read 93 = .ok (.iload_n 2, 1) := by decide +kernel
theorem dX10_read_94 : decode cX10_read 94 = .ok (.aload_n 0, 1) := by decide +kernel
theorem dX10_read_95 : decode cX10_read 95 = .ok (.getfield 53, 3) := by decide +kernel
theorem dX10_read_98 : decode cX10_read 98 = .ok (.getfield 56, 3) := by decide +kernel
theorem dX10_read_101 : decode cX10_read 101 = .ok (.if_icmp .ge 69, 3) := by decide +kernel
theorem dX10_read_104 : decode cX10_read 104 = .ok (.aload_n 0, 1) := by decide +kernel
theorem dX10_read_105 : decode cX10_read 105 = .ok (.getfield 53, 3) := by decide +kernel
theorem dX10_read_108 : decode cX10_read 108 = .ok (.getfield 221, 3) := by decide +kernel
theorem dX10_read_111 : decode cX10_read 111 = .ok (.aload_n 0, 1) := by decide +kernel
theorem dX10_read_112 : decode cX10_read 112 = .ok (.getfield 53, 3) := by decide +kernel
theorem dX10_read_115 : decode cX10_read 115 = .ok (.getfield 215, 3) := by decide +kernel
theorem dX10_read_118 : decode cX10_read 118 = .ok (.aload_n 0, 1) := by decide +kernel
theorem dX10_read_119 : decode cX10_read 119 = .ok (.getfield 53, 3) := by decide +kernel
theorem dX10_read_122 : decode cX10_read 122 = .ok (.getfield 65, 3) := by decide +kernel
theorem dX10_read_125 : decode cX10_read 125 = .ok (.iastore, 1) := by decide +kernel
theorem dX10_read_126 : decode cX10_read 126 = .ok (.aload_n 0, 1) := by decide +kernel
theorem dX10_read_127 : decode cX10_read 127 = .ok (.aload_n 0, 1) := by decide +kernel
theorem dX10_read_128 : decode cX10_read 128 = .ok (.getfield 53, 3) := by decide +kernel
theorem dX10_read_131 : decode cX10_read 131 = .ok (.getfield 65, 3) := by decide +kernel
theorem dX10_read_134 : decode cX10_read 134 = .ok (.putfield 121, 3) := by decide +kernel
theorem dX10_read_137 : decode cX10_read 137 = .ok (.aload_n 0, 1) := by decide +kernel
theorem dX10_read_138 : decode cX10_read 138 = .ok (.iload_n 2, 1) := by decide +kernel
theorem dX10_read_139 : decode cX10_read 139 = .ok (.invokevirtual 224, 3) := by decide +kernel
theorem dX10_read_142 : decode cX10_read 142 = .ok (.istore_n 2, 1) := by decide +kernel
theorem dX10_read_143 : decode cX10_read 143 = .ok (.aload_n 0, 1) := by decide +kernel
theorem dX10_read_144 : decode cX10_read 144 = .ok (.aload_n 0, 1) := by decide +kernel
theorem dX10_read_145 : decode cX10_read 145 = .ok (.getfield 53, 3) := by decide +kernel
theorem dX10_read_148 : decode cX10_read 148 = .ok (.getfield 215, 3) := by decide +kernel
theorem dX10_read_151 : decode cX10_read 151 = .ok (.invokevirtual 227, 3) := by decide +kernel
theorem dX10_read_154 : decode cX10_read 154 = .ok (.aload_n 0, 1) := by decide +kernel
theorem dX10_read_155 : decode cX10_read 155 = .ok (.getfield 53, 3) := by decide +kernel
theorem dX10_read_158 : decode cX10_read 158 = .ok (.dup, 1) := by decide +kernel
theorem dX10_read_159 : decode cX10_read 159 = .ok (.getfield 215, 3) := by decide +kernel
theorem dX10_read_162 : decode cX10_read 162 = .ok (.iconst 1, 1) := by decide +kernel
theorem dX10_read_163 : decode cX10_read 163 = .ok (.iadd, 1) := by decide +kernel
theorem dX10_read_164 : decode cX10_read 164 = .ok (.putfield 215, 3) := by decide +kernel
theorem dX10_read_167 : decode cX10_read 167 = .ok (.goto (-74), 3) := by decide +kernel
theorem dX10_read_170 : decode cX10_read 170 = .ok (.iload_n 1, 1) := by decide +kernel
theorem dX10_read_171 : decode cX10_read 171 = .ok (.sipush 8000, 3) := by decide +kernel
theorem dX10_read_174 : decode cX10_read 174 = .ok (.if_icmp .le 15, 3) := by decide +kernel
theorem dX10_read_177 : decode cX10_read 177 = .ok (.aload_n 0, 1) := by decide +kernel
theorem dX10_read_178 : decode cX10_read 178 = .ok (.sipush 8000, 3) := by decide +kernel
theorem dX10_read_181 : decode cX10_read 181 = .ok (.putfield 127, 3) := by decide +kernel
theorem dX10_read_184 : decode cX10_read 184 = .ok (.aload_n 0, 1) := by decide +kernel
theorem dX10_read_185 : decode cX10_read 185 = .ok (.getfield 26, 3) := by decide +kernel
theorem dX10_read_188 : decode cX10_read 188 = .ok (.athrow, 1) := by decide +kernel
theorem dX10_read_189 : decode cX10_read 189 = .ok (.goto 20, 3) := by decide +kernel
theorem dX10_read_192 : decode cX10_read 192 = .ok (.astore_n 2, 1) := by decide +kernel
theorem dX10_read_193 : decode cX10_read 193 = .ok (.aload_n 0, 1) := by decide +kernel
theorem dX10_read_194 : decode cX10_read 194 = .ok (.aload_n 0, 1) := by decide +kernel
theorem dX10_read_195 : decode cX10_read 195 = .ok (.getfield 127, 3) := by decide +kernel
theorem dX10_read_198 : decode cX10_read 198 = .ok (.sipush 8000, 3) := by decide +kernel
theorem dX10_read_201 : decode cX10_read 201 = .ok (.invokestatic 230, 3) := by decide +kernel
theorem dX10_read_204 : decode cX10_read 204 = .ok (.putfield 30, 3) := by decide +kernel
theorem dX10_read_207 : decode cX10_read 207 = .ok (.iconst (-1), 1) := by decide +kernel
theorem dX10_read_208 : decode cX10_read 208 = .ok (.ireturn, 1) := by decide +kernel
theorem dX10_read_209 : decode cX10_read 209 = .ok (.aload_n 0, 1) := by decide +kernel
theorem dX10_read_210 : decode cX10_read 210 = .ok (.invokevirtual 236, 3) := by decide +kernel
theorem dX10_read_213 : decode cX10_read 213 = .ok (.aload_n 0, 1) := by decide +kernel
theorem dX10_read_214 : decode cX10_read 214 = .ok (.getfield 134, 3) := by decide +kernel
theorem dX10_read_217 : decode cX10_read 217 = .ok (.ifCond .lt 14, 3) := by decide +kernel
theorem dX10_read_220 : decode cX10_read 220 = .ok (.aload_n 0, 1) := by decide +kernel
theorem dX10_read_221 : decode cX10_read 221 = .ok (.aload_n 0, 1) := by decide +kernel
theorem dX10_read_222 : decode cX10_read 222 = .ok (.getfield 134, 3) := by decide +kernel
theorem dX10_read_225 : decode cX10_read 225 = .ok (.putfield 30, 3) := by decide +kernel
theorem dX10_read_228 : decode cX10_read 228 = .ok (.bipush (-2), 2) := by decide +kernel
theorem dX10_read_230 : decode cX10_read 230 = .ok (.ireturn, 1) := by decide +kernel
theorem dX10_read_231 : decode cX10_read 231 = .ok (.aload_n 0, 1) := by decide +kernel
theorem dX10_read_232 : decode cX10_read 232 = .ok (.aload_n 0, 1) := by decide +kernel
theorem dX10_read_233 : decode cX10_read 233 = .ok (.getfield 10, 3) := by decide +kernel
theorem dX10_read_236 : decode cX10_read 236 = .ok (.putfield 16, 3) := by decide +kernel
theorem dX10_read_239 : decode cX10_read 239 = .ok (.aload_n 0, 1) := by decide +kernel
theorem dX10_read_240 : decode cX10_read 240 = .ok (.aload_n 0, 1) := by decide +kernel
theorem dX10_read_241 : decode cX10_read 241 = .ok (.getfield 53, 3) := by decide +kernel
theorem dX10_read_244 : decode cX10_read 244 = .ok (.putfield 10, 3) := by decide +kernel
theorem dX10_read_247 : decode cX10_read 247 = .ok (.aload_n 0, 1) := by decide +kernel
theorem dX10_read_248 : decode cX10_read 248 = .ok (.iconst 1, 1) := by decide +kernel
theorem dX10_read_249 : decode cX10_read 249 = .ok (.putfield 239, 3) := by decide +kernel
theorem dX10_read_252 : decode cX10_read 252 = .ok (.aload_n 0, 1) := by decide +kernel
theorem dX10_read_253 : decode cX10_read 253 = .ok (.getfield 53, 3) := by decide +kernel
theorem dX10_read_256 : decode cX10_read 256 = .ok (.getfield 215, 3) := by decide +kernel
theorem dX10_read_259 : decode cX10_read 259 = .ok (.ireturn, 1) := by decide +kernel
theorem dX10_place_0 : decode cX10_place 0 = .ok (.aload_n 0, 1) := by decide +kernel
theorem dX10_place_1 : decode cX10_place 1 = .ok (.getfield 30, 3) := by decide +kernel
theorem dX10_place_4 : decode cX10_place 4 = .ok (.ireturn, 1) := by decide +kernel
theorem dX10_root_0 : decode cX10_root 0 = .ok (.lconst 0, 1) := by decide +kernel
theorem dX10_root_1 : decode cX10_root 1 = .ok (.lstore_n 2, 1) := by decide +kernel
theorem dX10_root_2 : decode cX10_root 2 = .ok (.ldc2_w 243, 3) := by decide +kernel
theorem dX10_root_5 : decode cX10_root 5 = .ok (.lstore 4, 2) := by decide +kernel
theorem dX10_root_7 : decode cX10_root 7 = .ok (.lload_n 2, 1) := by decide +kernel
theorem dX10_root_8 : decode cX10_root 8 = .ok (.lload 4, 2) := by decide +kernel
theorem dX10_root_10 : decode cX10_root 10 = .ok (.lcmp, 1) := by decide +kernel
theorem dX10_root_11 : decode cX10_root 11 = .ok (.ifCond .ge 40, 3) := by decide +kernel
theorem dX10_root_14 : decode cX10_root 14 = .ok (.lload_n 2, 1) := by decide +kernel
theorem dX10_root_15 : decode cX10_root 15 = .ok (.lload 4, 2) := by decide +kernel
theorem dX10_root_17 : decode cX10_root 17 = .ok (.ladd, 1) := by decide +kernel
theorem dX10_root_18 : decode cX10_root 18 = .ok (.lconst 1, 1) := by decide +kernel
theorem dX10_root_19 : decode cX10_root 19 = .ok (.ladd, 1) := by decide +kernel
theorem dX10_root_20 : decode cX10_root 20 = .ok (.ldc2_w 245, 3) := by decide +kernel
theorem dX10_root_23 : decode cX10_root 23 = .ok (.ldiv, 1) := by decide +kernel
theorem dX10_root_24 : decode cX10_root 24 = .ok (.lstore 6, 2) := by decide +kernel
theorem dX10_root_26 : decode cX10_root 26 = .ok (.lload 6, 2) := by decide +kernel
theorem dX10_root_28 : decode cX10_root 28 = .ok (.lload 6, 2) := by decide +kernel
theorem dX10_root_30 : decode cX10_root 30 = .ok (.lmul, 1) := by decide +kernel
theorem dX10_root_31 : decode cX10_root 31 = .ok (.lload_n 0, 1) := by decide +kernel
theorem dX10_root_32 : decode cX10_root 32 = .ok (.lcmp, 1) := by decide +kernel
theorem dX10_root_33 : decode cX10_root 33 = .ok (.ifCond .gt 9, 3) := by decide +kernel
theorem dX10_root_36 : decode cX10_root 36 = .ok (.lload 6, 2) := by decide +kernel
theorem dX10_root_38 : decode cX10_root 38 = .ok (.lstore_n 2, 1) := by decide +kernel
theorem dX10_root_39 : decode cX10_root 39 = .ok (.goto 9, 3) := by decide +kernel
theorem dX10_root_42 : decode cX10_root 42 = .ok (.lload 6, 2) := by decide +kernel
theorem dX10_root_44 : decode cX10_root 44 = .ok (.lconst 1, 1) := by decide +kernel
theorem dX10_root_45 : decode cX10_root 45 = .ok (.lsub, 1) := by decide +kernel
