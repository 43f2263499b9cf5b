theorem dX2_init_0 : decode cX2_init 0 = .ok (.aload_n 0, 1) := by decide +kernel
theorem dX2_init_1 : decode cX2_init 1 = .ok (.invokespecial 1, 3) := by decide +kernel
theorem dX2_init_4 : decode cX2_init 4 = .ok (.aload_n 0, 1) := by decide +kernel
theorem dX2_init_5 : decode cX2_init 5 = .ok (.sipush 200, 3) := by decide +kernel
theorem dX2_init_8 : decode cX2_init 8 = .ok (.newarray .long, 2) := by decide +kernel
theorem dX2_init_10 : decode cX2_init 10 = .ok (.putfield 9, 3) := by decide +kernel
theorem dX2_init_13 : decode cX2_init 13 = .ok (.aload_n 0, 1) := by decide +kernel
theorem dX2_init_14 : decode cX2_init 14 = .ok (.bipush 80, 2) := by decide +kernel
theorem dX2_init_16 : decode cX2_init 16 = .ok (.newarray .long, 2) := by decide +kernel
theorem dX2_init_18 : decode cX2_init 18 = .ok (.putfield 13, 3) := by decide +kernel
theorem dX2_init_21 : decode cX2_init 21 = .ok (.return_, 1) := by decide +kernel
theorem dX2_alarmLine_0 : decode cX2_alarmLine 0 = .ok (.aload_n 0, 1) := by decide +kernel
theorem dX2_alarmLine_1 : decode cX2_alarmLine 1 = .ok (.getfield 16, 3) := by decide +kernel
theorem dX2_alarmLine_4 : decode cX2_alarmLine 4 = .ok (.ireturn, 1) := by decide +kernel
theorem dX2_stepsDone_0 : decode cX2_stepsDone 0 = .ok (.aload_n 0, 1) := by decide +kernel
theorem dX2_stepsDone_1 : decode cX2_stepsDone 1 = .ok (.getfield 20, 3) := by decide +kernel
theorem dX2_stepsDone_4 : decode cX2_stepsDone 4 = .ok (.ireturn, 1) := by decide +kernel
set_option maxRecDepth 20000 in
theorem ggX2_valueOf_X2_isVariable : GoodIn wsX2_valueOf wsX2_isVariable := goodIn_r _ [6, 7, 1, 8, 9, 10, 11, 12, 13] (by decide +kernel) (by decide +kernel)
set_option maxRecDepth 20000 in
theorem gX2_valueOf_X2_isVariable : GoodIn wsX2_valueOf (wsV RX2 23 RX2 yX2_isVariable wsX2_isVariable) := goodIn_app (goodIn_of _ (by decide +kernel)) ggX2_valueOf_X2_isVariable
theorem dX2_valueOf_0 : decode cX2_valueOf 0 = .ok (.aload_n 0, 1) := by decide +kernel
theorem dX2_valueOf_1 : decode cX2_valueOf 1 = .ok (.iload_n 1, 1) := by decide +kernel
theorem dX2_valueOf_2 : decode cX2_valueOf 2 = .ok (.i2l, 1) := by decide +kernel
theorem dX2_valueOf_3 : decode cX2_valueOf 3 = .ok (.invokevirtual 23, 3) := by decide +kernel
theorem dX2_valueOf_6 : decode cX2_valueOf 6 = .ok (.ifCond .eq 12, 3) := by decide +kernel
theorem dX2_valueOf_9 : decode cX2_valueOf 9 = .ok (.aload_n 0, 1) := by decide +kernel
theorem dX2_valueOf_10 : decode cX2_valueOf 10 = .ok (.getfield 9, 3) := by decide +kernel
theorem dX2_valueOf_13 : decode cX2_valueOf 13 = .ok (.iload_n 1, 1) := by decide +kernel
theorem dX2_valueOf_14 : decode cX2_valueOf 14 = .ok (.laload, 1) := by decide +kernel
theorem dX2_valueOf_15 : decode cX2_valueOf 15 = .ok (.goto 4, 3) := by decide +kernel
theorem dX2_valueOf_18 : decode cX2_valueOf 18 = .ok (.lconst 0, 1) := by decide +kernel
theorem dX2_valueOf_19 : decode cX2_valueOf 19 = .ok (.lreturn, 1) := by decide +kernel
set_option maxRecDepth 20000 in
theorem ggX2_setValue_X2_isVariable : GoodIn wsX2_setValue wsX2_isVariable := goodIn_r _ [6, 7, 1, 14, 15, 16, 17, 18, 19] (by decide +kernel) (by decide +kernel)
set_option maxRecDepth 20000 in
theorem gX2_setValue_X2_isVariable : GoodIn wsX2_setValue (wsV RX2 23 RX2 yX2_isVariable wsX2_isVariable) := goodIn_app (goodIn_of _ (by decide +kernel)) ggX2_setValue_X2_isVariable
set_option maxRecDepth 20000 in
theorem ggX2_setValue_X7_isTooGreat : GoodIn wsX2_setValue wsX7_isTooGreat := goodIn_r _ [11, 12, 13] (by decide +kernel) (by decide +kernel)
set_option maxRecDepth 20000 in
theorem gX2_setValue_X7_isTooGreat : GoodIn wsX2_setValue (va_wsS RX2 27 yX7_isTooGreat wsX7_isTooGreat) := goodIn_app (goodIn_of _ (by decide +kernel)) ggX2_setValue_X7_isTooGreat
theorem dX2_setValue_0 : decode cX2_setValue 0 = .ok (.aload_n 0, 1) := by decide +kernel
theorem dX2_setValue_1 : decode cX2_setValue 1 = .ok (.iload_n 1, 1) := by decide +kernel
theorem dX2_setValue_2 : decode cX2_setValue 2 = .ok (.i2l, 1) := by decide +kernel
theorem dX2_setValue_3 : decode cX2_setValue 3 = .ok (.invokevirtual 23, 3) := by decide +kernel
theorem dX2_setValue_6 : decode cX2_setValue 6 = .ok (.ifCond .eq 10, 3) := by decide +kernel
theorem dX2_setValue_9 : decode cX2_setValue 9 = .ok (.lload_n 2, 1) := by decide +kernel
theorem dX2_setValue_10 : decode cX2_setValue 10 = .ok (.invokestatic 27, 3) := by decide +kernel
theorem dX2_setValue_13 : decode cX2_setValue 13 = .ok (.ifCond .eq 5, 3) := by decide +kernel
theorem dX2_setValue_16 : decode cX2_setValue 16 = .ok (.iconst 0, 1) := by decide +kernel
theorem dX2_setValue_17 : decode cX2_setValue 17 = .ok (.ireturn, 1) := by decide +kernel
theorem dX2_setValue_18 : decode cX2_setValue 18 = .ok (.aload_n 0, 1) := by decide +kernel
theorem dX2_setValue_19 : decode cX2_setValue 19 = .ok (.getfield 9, 3) := by decide +kernel
theorem dX2_setValue_22 : decode cX2_setValue 22 = .ok (.iload_n 1, 1) := by decide +kernel
theorem dX2_setValue_23 : decode cX2_setValue 23 = .ok (.lload_n 2, 1) := by decide +kernel
theorem dX2_setValue_24 : decode cX2_setValue 24 = .ok (.lastore, 1) := by decide +kernel
theorem dX2_setValue_25 : decode cX2_setValue 25 = .ok (.iconst 1, 1) := by decide +kernel
theorem dX2_setValue_26 : decode cX2_setValue 26 = .ok (.ireturn, 1) := by decide +kernel
theorem dX2_isVariable_0 : decode cX2_isVariable 0 = .ok (.lload_n 1, 1) := by decide +kernel
theorem dX2_isVariable_1 : decode cX2_isVariable 1 = .ok (.lconst 1, 1) := by decide +kernel
theorem dX2_isVariable_2 : decode cX2_isVariable 2 = .ok (.lcmp, 1) := by decide +kernel
theorem dX2_isVariable_3 : decode cX2_isVariable 3 = .ok (.ifCond .lt 26, 3) := by decide +kernel
theorem dX2_isVariable_6 : decode cX2_isVariable 6 = .ok (.lload_n 1, 1) := by decide +kernel
theorem dX2_isVariable_7 : decode cX2_isVariable 7 = .ok (.ldc2_w 32, 3) := by decide +kernel
theorem dX2_isVariable_10 : decode cX2_isVariable 10 = .ok (.lcmp, 1) := by decide +kernel
theorem dX2_isVariable_11 : decode cX2_isVariable 11 = .ok (.ifCond .gt 18, 3) := by decide +kernel
theorem dX2_isVariable_14 : decode cX2_isVariable 14 = .ok (.lload_n 1, 1) := by decide +kernel
theorem dX2_isVariable_15 : decode cX2_isVariable 15 = .ok (.aload_n 0, 1) := by decide +kernel
theorem dX2_isVariable_16 : decode cX2_isVariable 16 = .ok (.getfield 9, 3) := by decide +kernel
theorem dX2_isVariable_19 : decode cX2_isVariable 19 = .ok (.arraylength, 1) := by decide +kernel
theorem dX2_isVariable_20 : decode cX2_isVariable 20 = .ok (.i2l, 1) := by decide +kernel
theorem dX2_isVariable_21 : decode cX2_isVariable 21 = .ok (.lcmp, 1) := by decide +kernel
theorem dX2_isVariable_22 : decode cX2_isVariable 22 = .ok (.ifCond .ge 7, 3) := by decide +kernel
theorem dX2_isVariable_25 : decode cX2_isVariable 25 = .ok (.iconst 1, 1) := by decide +kernel
theorem dX2_isVariable_26 : decode cX2_isVariable 26 = .ok (.goto 4, 3) := by decide +kernel
theorem dX2_isVariable_29 : decode cX2_isVariable 29 = .ok (.iconst 0, 1) := by decide +kernel
theorem dX2_isVariable_30 : decode cX2_isVariable 30 = .ok (.ireturn, 1) := by decide +kernel
set_option maxRecDepth 20000 in
theorem ggX2_perform_X3_size : GoodIn wsX2_perform wsX3_size := goodIn_r _ [8, 9, 10, 11, 12, 13, 14, 15, 142, 143, 144, 145, 146, 147, 148, 149, 150, 151, 152] (by decide +kernel) (by decide +kernel)
set_option maxRecDepth 20000 in
theorem gX2_perform_X3_size : GoodIn wsX2_perform (wsV RX2 37 RX3 yX3_size wsX3_size) := goodIn_app (goodIn_of _ (by decide +kernel)) ggX2_perform_X3_size
set_option maxRecDepth 20000 in
theorem ggX2_perform_X2_doLine : GoodIn wsX2_perform wsX2_doLine := goodIn_r _ [20, 21, 1, 22, 23, 24, 7, 25, 9, 26, 27, 5, 6, 8, 10, 11, 12, 13, 14, 15, 28, 29, 30, 31, 32, 33, 34, 35, 36, 37, 38, 39, 19, 40, 41, 42, 43, 44, 45, 46, 47, 48, 49, 50, 51, 52, 53, 54, 55, 56, 57, 58, 59, 60, 61, 62, 63, 64, 65, 66, 67, 68, 69, 70, 71, 72, 73, 74, 75, 76, 77, 78, 79, 80, 81, 82, 83, 84, 85, 86, 87, 88, 89, 90, 91, 92, 93, 94, 95, 96, 97, 98, 99, 100, 101, 102, 103, 104, 105, 106, 107, 108, 109, 110, 111, 112, 113, 114, 115, 116, 117, 118, 119, 120, 121, 122, 123, 124, 125, 126, 127, 128, 129, 130, 131, 132, 133, 134, 135, 136, 137, 138, 139, 140, 141, 142, 143, 144, 145, 146, 147, 148, 149, 150, 151, 152] (by decide +kernel) (by decide +kernel)
set_option maxRecDepth 20000 in
theorem gX2_perform_X2_doLine : GoodIn wsX2_perform (wsV RX2 43 RX2 yX2_doLine wsX2_doLine) := goodIn_app (goodIn_of _ (by decide +kernel)) ggX2_perform_X2_doLine
theorem dX2_perform_0 : decode cX2_perform 0 = .ok (.aload_n 0, 1) := by decide +kernel
theorem dX2_perform_1 : decode cX2_perform 1 = .ok (.iconst 0, 1) := by decide +kernel
theorem dX2_perform_2 : decode cX2_perform 2 = .ok (.putfield 34, 3) := by decide +kernel
theorem dX2_perform_5 : decode cX2_perform 5 = .ok (.aload_n 0, 1) := by decide +kernel
theorem dX2_perform_6 : decode cX2_perform 6 = .ok (.iconst 0, 1) := by decide +kernel
theorem dX2_perform_7 : decode cX2_perform 7 = .ok (.putfield 16, 3) := by decide +kernel
theorem dX2_perform_10 : decode cX2_perform 10 = .ok (.aload_n 0, 1) := by decide +kernel
theorem dX2_perform_11 : decode cX2_perform 11 = .ok (.iconst 0, 1) := by decide +kernel
theorem dX2_perform_12 : decode cX2_perform 12 = .ok (.putfield 20, 3) := by decide +kernel
theorem dX2_perform_15 : decode cX2_perform 15 = .ok (.iconst 0, 1) := by decide +kernel
theorem dX2_perform_16 : decode cX2_perform 16 = .ok (.istore_n 3, 1) := by decide +kernel
theorem dX2_perform_17 : decode cX2_perform 17 = .ok (.aload_n 0, 1) := by decide +kernel
theorem dX2_perform_18 : decode cX2_perform 18 = .ok (.getfield 20, 3) := by decide +kernel
theorem dX2_perform_21 : decode cX2_perform 21 = .ok (.iload_n 2, 1) := by decide +kernel
theorem dX2_perform_22 : decode cX2_perform 22 = .ok (.if_icmp .ge 53, 3) := by decide +kernel
theorem dX2_perform_25 : decode cX2_perform 25 = .ok (.iload_n 3, 1) := by decide +kernel
theorem dX2_perform_26 : decode cX2_perform 26 = .ok (.aload_n 1, 1) := by decide +kernel
theorem dX2_perform_27 : decode cX2_perform 27 = .ok (.invokevirtual 37, 3) := by decide +kernel
theorem dX2_perform_30 : decode cX2_perform 30 = .ok (.if_icmp .ge 45, 3) := by decide +kernel
theorem dX2_perform_33 : decode cX2_perform 33 = .ok (.aload_n 0, 1) := by decide +kernel
theorem dX2_perform_34 : decode cX2_perform 34 = .ok (.getfield 34, 3) := by decide +kernel
theorem dX2_perform_37 : decode cX2_perform 37 = .ok (.ifCond .ne 38, 3) := by decide +kernel
theorem dX2_perform_40 : decode cX2_perform 40 = .ok (.aload_n 0, 1) := by decide +kernel
theorem dX2_perform_41 : decode cX2_perform 41 = .ok (.dup, 1) := by decide +kernel
theorem dX2_perform_42 : decode cX2_perform 42 = .ok (.getfield 20, 3) := by decide +kernel
theorem dX2_perform_45 : decode cX2_perform 45 = .ok (.iconst 1, 1) := by decide +kernel
theorem dX2_perform_46 : decode cX2_perform 46 = .ok (.iadd, 1) := by decide +kernel
theorem dX2_perform_47 : decode cX2_perform 47 = .ok (.putfield 20, 3) := by decide +kernel
theorem dX2_perform_50 : decode cX2_perform 50 = .ok (.aload_n 0, 1) := by decide +kernel
theorem dX2_perform_51 : decode cX2_perform 51 = .ok (.aload_n 1, 1) := by decide +kernel
theorem dX2_perform_52 : decode cX2_perform 52 = .ok (.iload_n 3, 1) := by decide +kernel
theorem dX2_perform_53 : decode cX2_perform 53 = .ok (.invokevirtual 43, 3) := by decide +kernel
theorem dX2_perform_56 : decode cX2_perform 56 = .ok (.istore 4, 2) := by decide +kernel
theorem dX2_perform_58 : decode cX2_perform 58 = .ok (.aload_n 0, 1) := by decide +kernel
theorem dX2_perform_59 : decode cX2_perform 59 = .ok (.getfield 34, 3) := by decide +kernel
theorem dX2_perform_62 : decode cX2_perform 62 = .ok (.ifCond .ne 8, 3) := by decide +kernel
theorem dX2_perform_65 : decode cX2_perform 65 = .ok (.iload 4, 2) := by decide +kernel
theorem dX2_perform_67 : decode cX2_perform 67 = .ok (.goto 4, 3) := by decide +kernel
theorem dX2_perform_70 : decode cX2_perform 70 = .ok (.iload_n 3, 1) := by decide +kernel
theorem dX2_perform_71 : decode cX2_perform 71 = .ok (.istore_n 3, 1) := by decide +kernel
theorem dX2_perform_72 : decode cX2_perform 72 = .ok (.goto (-55), 3) := by decide +kernel
theorem dX2_perform_75 : decode cX2_perform 75 = .ok (.aload_n 0, 1) := by decide +kernel
theorem dX2_perform_76 : decode cX2_perform 76 = .ok (.getfield 34, 3) := by decide +kernel
theorem dX2_perform_79 : decode cX2_perform 79 = .ok (.ifCond .ne 17, 3) := by decide +kernel
theorem dX2_perform_82 : decode cX2_perform 82 = .ok (.iload_n 3, 1) := by decide +kernel
theorem dX2_perform_83 : decode cX2_perform 83 = .ok (.aload_n 1, 1) := by decide +kernel
theorem dX2_perform_84 : decode cX2_perform 84 = .ok (.invokevirtual 37, 3) := by decide +kernel
theorem dX2_perform_87 : decode cX2_perform 87 = .ok (.if_icmp .ge 9, 3) := by decide +kernel
theorem dX2_perform_90 : decode cX2_perform 90 = .ok (.aload_n 0, 1) := by decide +kernel
theorem dX2_perform_91 : decode cX2_perform 91 = .ok (.bipush 15, 2) := by decide +kernel
theorem dX2_perform_93 : decode cX2_perform 93 = .ok (.putfield 34, 3) := by decide +kernel
theorem dX2_perform_96 : decode cX2_perform 96 = .ok (.aload_n 0, 1) := by decide +kernel
theorem dX2_perform_97 : decode cX2_perform 97 = .ok (.getfield 34, 3) := by decide +kernel
theorem dX2_perform_100 : decode cX2_perform 100 = .ok (.ifCond .eq 10, 3) := by decide +kernel
theorem dX2_perform_103 : decode cX2_perform 103 = .ok (.aload_n 0, 1) := by decide +kernel
theorem dX2_perform_104 : decode cX2_perform 104 = .ok (.iload_n 3, 1) := by decide +kernel
theorem dX2_perform_105 : decode cX2_perform 105 = .ok (.iconst 1, 1) := by decide +kernel
theorem dX2_perform_106 : decode cX2_perform 106 = .ok (.iadd, 1) := by decide +kernel
theorem dX2_perform_107 : decode cX2_perform 107 = .ok (.putfield 16, 3) := by decide +kernel
theorem dX2_perform_110 : decode cX2_perform 110 = .ok (.aload_n 0, 1) := by decide +kernel
theorem dX2_perform_111 : decode cX2_perform 111 = .ok (.getfield 34, 3) := by decide +kernel
theorem dX2_perform_114 : decode cX2_perform 114 = .ok (.ireturn, 1) := by decide +kernel
set_option maxRecDepth 20000 in
theorem ggX2_doLine_X3_codeStart : GoodIn wsX2_doLine wsX3_codeStart := goodIn_r _ [7, 8, 9, 10, 11, 12, 6, 13, 14, 15, 16, 17, 18, 19, 20, 21, 22, 23, 24, 135, 136, 137, 138, 139, 140, 141, 142, 143, 144, 145] (by decide +kernel) (by decide +kernel)
set_option maxRecDepth 20000 in
theorem gX2_doLine_X3_codeStart : GoodIn wsX2_doLine (wsV RX2 50 RX3 yX3_codeStart wsX3_codeStart) := goodIn_app (goodIn_of _ (by decide +kernel)) ggX2_doLine_X3_codeStart
set_option maxRecDepth 20000 in
theorem ggX2_doLine_X3_entry : GoodIn wsX2_doLine wsX3_entry := goodIn_r _ [28, 9, 20, 21, 22, 17, 23, 19, 24, 135, 136, 137, 138, 139, 140, 141, 142, 143, 144, 145] (by decide +kernel) (by decide +kernel)
set_option maxRecDepth 20000 in
theorem gX2_doLine_X3_entry : GoodIn wsX2_doLine (wsV RX2 54 RX3 yX3_entry wsX3_entry) := goodIn_app (goodIn_of _ (by decide +kernel)) ggX2_doLine_X3_entry
set_option maxRecDepth 20000 in
theorem ggX2_doLine_X2_doEntry : GoodIn wsX2_doLine wsX2_doEntry := goodIn_r _ [33, 34, 35, 36, 32, 37, 1, 38, 39, 40, 41, 42, 43, 44, 45, 46, 47, 2, 48, 49, 50, 51, 52, 53, 54, 55, 56, 57, 58, 59, 60, 61, 62, 63, 64, 65, 66, 67, 68, 69, 70, 71, 72, 73, 74, 75, 76, 77, 78, 79, 80, 81, 82, 83, 84, 85, 86, 87, 88, 89, 90, 91, 92, 93, 94, 95, 96, 97, 98, 99, 100, 101, 102, 103, 104, 105, 106, 107, 108, 109, 110, 111, 112, 113, 114, 115, 116, 117, 118, 129, 130, 131, 132, 133, 134] (by decide +kernel) (by decide +kernel)
set_option maxRecDepth 20000 in
theorem gX2_doLine_X2_doEntry : GoodIn wsX2_doLine (wsV RX2 57 RX2 yX2_doEntry wsX2_doEntry) := goodIn_app (goodIn_of _ (by decide +kernel)) ggX2_doLine_X2_doEntry
set_option maxRecDepth 20000 in
theorem ggX2_doLine_X3_kindOf : GoodIn wsX2_doLine wsX3_kindOf := goodIn_r _ [122, 123, 20, 21, 22, 17, 23, 19, 24, 135, 136, 137, 138, 139, 140, 141, 142, 143, 144, 145] (by decide +kernel) (by decide +kernel)
set_option maxRecDepth 20000 in
theorem gX2_doLine_X3_kindOf : GoodIn wsX2_doLine (wsV RX2 61 RX3 yX3_kindOf wsX3_kindOf) := goodIn_app (goodIn_of _ (by decide +kernel)) ggX2_doLine_X3_kindOf
set_option maxRecDepth 20000 in
theorem ggX2_doLine_X3_target : GoodIn wsX2_doLine wsX3_target := goodIn_r _ [127, 128, 20, 21, 22, 17, 23, 19, 24, 135, 136, 137, 138, 139, 140, 141, 142, 143, 144, 145] (by decide +kernel) (by decide +kernel)
set_option maxRecDepth 20000 in
theorem gX2_doLine_X3_target : GoodIn wsX2_doLine (wsV RX2 64 RX3 yX3_target wsX3_target) := goodIn_app (goodIn_of _ (by decide +kernel)) ggX2_doLine_X3_target
set_option maxRecDepth 20000 in
theorem ggX2_doLine_X2_pop : GoodIn wsX2_doLine wsX2_pop := goodIn_r _ [42, 1, 38, 129, 130, 131, 132, 133, 134] (by decide +kernel) (by decide +kernel)
set_option maxRecDepth 20000 in
theorem gX2_doLine_X2_pop : GoodIn wsX2_doLine (wsV RX2 67 RX2 yX2_pop wsX2_pop) := goodIn_app (goodIn_of _ (by decide +kernel)) ggX2_doLine_X2_pop
theorem dX2_doLine_0 : decode cX2_doLine 0 = .ok (.aload_n 0, 1) := by decide +kernel
theorem dX2_doLine_1 : decode cX2_doLine 1 = .ok (.iconst 0, 1) := by decide +kernel
theorem dX2_doLine_2 : decode cX2_doLine 2 = .ok (.putfield 47, 3) := by decide +kernel
theorem dX2_doLine_5 : decode cX2_doLine 5 = .ok (.aload_n 1, 1) := by decide +kernel
theorem dX2_doLine_6 : decode cX2_doLine 6 = .ok (.iload_n 2, 1) := by decide +kernel
theorem dX2_doLine_7 : decode cX2_doLine 7 = .ok (.iconst 1, 1) := by decide +kernel
theorem dX2_doLine_8 : decode cX2_doLine 8 = .ok (.iadd, 1) := by decide +kernel
theorem dX2_doLine_9 : decode cX2_doLine 9 = .ok (.invokevirtual 50, 3) := by decide +kernel
theorem dX2_doLine_12 : decode cX2_doLine 12 = .ok (.istore_n 3, 1) := by decide +kernel
theorem dX2_doLine_13 : decode cX2_doLine 13 = .ok (.aload_n 1, 1) := by decide +kernel
theorem dX2_doLine_14 : decode cX2_doLine 14 = .ok (.iload_n 2, 1) := by decide +kernel
theorem dX2_doLine_15 : decode cX2_doLine 15 = .ok (.invokevirtual 50, 3) := by decide +kernel
theorem dX2_doLine_18 : decode cX2_doLine 18 = .ok (.istore 4, 2) := by decide +kernel
theorem dX2_doLine_20 : decode cX2_doLine 20 = .ok (.iload 4, 2) := by decide +kernel
theorem dX2_doLine_22 : decode cX2_doLine 22 = .ok (.iload_n 3, 1) := by decide +kernel
theorem dX2_doLine_23 : decode cX2_doLine 23 = .ok (.if_icmp .ge 26, 3) := by decide +kernel
theorem dX2_doLine_26 : decode cX2_doLine 26 = .ok (.aload_n 0, 1) := by decide +kernel
theorem dX2_doLine_27 : decode cX2_doLine 27 = .ok (.getfield 34, 3) := by decide +kernel
theorem dX2_doLine_30 : decode cX2_doLine 30 = .ok (.ifCond .ne 19, 3) := by decide +kernel
theorem dX2_doLine_33 : decode cX2_doLine 33 = .ok (.aload_n 0, 1) := by decide +kernel
theorem dX2_doLine_34 : decode cX2_doLine 34 = .ok (.aload_n 1, 1) := by decide +kernel
theorem dX2_doLine_35 : decode cX2_doLine 35 = .ok (.iload 4, 2) := by decide +kernel
theorem dX2_doLine_37 : decode cX2_doLine 37 = .ok (.invokevirtual 54, 3) := by decide +kernel
theorem dX2_doLine_40 : decode cX2_doLine 40 = .ok (.invokevirtual 57, 3) := by decide +kernel
theorem dX2_doLine_43 : decode cX2_doLine 43 = .ok (.iinc 4 1, 3) := by decide +kernel
theorem dX2_doLine_46 : decode cX2_doLine 46 = .ok (.goto (-26), 3) := by decide +kernel
theorem dX2_doLine_49 : decode cX2_doLine 49 = .ok (.aload_n 1, 1) := by decide +kernel
theorem dX2_doLine_50 : decode cX2_doLine 50 = .ok (.iload_n 2, 1) := by decide +kernel
theorem dX2_doLine_51 : decode cX2_doLine 51 = .ok (.invokevirtual 61, 3) := by decide +kernel
theorem dX2_doLine_54 : decode cX2_doLine 54 = .ok (.tableswitch 82 300 304 #[40, 34, 61, 82, 34], 34) := by decide +kernel
theorem dX2_doLine_88 : decode cX2_doLine 88 = .ok (.aload_n 1, 1) := by decide +kernel
theorem dX2_doLine_89 : decode cX2_doLine 89 = .ok (.iload_n 2, 1) := by decide +kernel
theorem dX2_doLine_90 : decode cX2_doLine 90 = .ok (.invokevirtual 64, 3) := by decide +kernel
theorem dX2_doLine_93 : decode cX2_doLine 93 = .ok (.ireturn, 1) := by decide +kernel
theorem dX2_doLine_94 : decode cX2_doLine 94 = .ok (.aload_n 0, 1) := by decide +kernel
theorem dX2_doLine_95 : decode cX2_doLine 95 = .ok (.invokevirtual 67, 3) := by decide +kernel
theorem dX2_doLine_98 : decode cX2_doLine 98 = .ok (.lconst 0, 1) := by decide +kernel
theorem dX2_doLine_99 : decode cX2_doLine 99 = .ok (.lcmp, 1) := by decide +kernel
theorem dX2_doLine_100 : decode cX2_doLine 100 = .ok (.ifCond .eq 11, 3) := by decide +kernel
theorem dX2_doLine_103 : decode cX2_doLine 103 = .ok (.aload_n 1, 1) := by decide +kernel
theorem dX2_doLine_104 : decode cX2_doLine 104 = .ok (.iload_n 2, 1) := by decide +kernel
theorem dX2_doLine_105 : decode cX2_doLine 105 = .ok (.invokevirtual 64, 3) := by decide +kernel
theorem dX2_doLine_108 : decode cX2_doLine 108 = .ok (.goto 6, 3) := by decide +kernel
theorem dX2_doLine_111 : decode cX2_doLine 111 = .ok (.iload_n 2, 1) := by decide +kernel
theorem dX2_doLine_112 : decode cX2_doLine 112 = .ok (.iconst 1, 1) := by decide +kernel
theorem dX2_doLine_113 : decode cX2_doLine 113 = .ok (.iadd, 1) := by decide +kernel
theorem dX2_doLine_114 : decode cX2_doLine 114 = .ok (.ireturn, 1) := by decide +kernel
theorem dX2_doLine_115 : decode cX2_doLine 115 = .ok (.aload_n 0, 1) := by decide +kernel
theorem dX2_doLine_116 : decode cX2_doLine 116 = .ok (.invokevirtual 67, 3) := by decide +kernel
theorem dX2_doLine_119 : decode cX2_doLine 119 = .ok (.lconst 0, 1) := by decide +kernel
theorem dX2_doLine_120 : decode cX2_doLine 120 = .ok (.lcmp, 1) := by decide +kernel
theorem dX2_doLine_121 : decode cX2_doLine 121 = .ok (.ifCond .ne 11, 3) := by decide +kernel
theorem dX2_doLine_124 : decode cX2_doLine 124 = .ok (.aload_n 1, 1) := by decide +kernel
theorem dX2_doLine_125 : decode cX2_doLine 125 = .ok (.iload_n 2, 1) := by decide +kernel
theorem dX2_doLine_126 : decode cX2_doLine 126 = .ok (.invokevirtual 64, 3) := by decide +kernel
theorem dX2_doLine_129 : decode cX2_doLine 129 = .ok (.goto 6, 3) := by decide +kernel
theorem dX2_doLine_132 : decode cX2_doLine 132 = .ok (.iload_n 2, 1) := by decide +kernel
theorem dX2_doLine_133 : decode cX2_doLine 133 = .ok (.iconst 1, 1) := by decide +kernel
theorem dX2_doLine_134 : decode cX2_doLine 134 = .ok (.iadd, 1) := by decide +kernel
theorem dX2_doLine_135 : decode cX2_doLine 135 = .ok (.ireturn, 1) := by decide +kernel
theorem dX2_doLine_136 : decode cX2_doLine 136 = .ok (.iload_n 2, 1) := by decide +kernel
theorem dX2_doLine_137 : decode cX2_doLine 137 = .ok (.iconst 1, 1) := by decide +kernel
theorem dX2_doLine_138 : decode cX2_doLine 138 = .ok (.iadd, 1) := by decide +kernel
theorem dX2_doLine_139 : decode cX2_doLine 139 = .ok (.ireturn, 1) := by decide +kernel
set_option maxRecDepth 20000 in
theorem ggX2_doEntry_X2_push : GoodIn wsX2_doEntry wsX2_push := goodIn_r _ [5, 6, 7, 89, 90, 91, 92, 93, 94] (by decide +kernel) (by decide +kernel)
set_option maxRecDepth 20000 in
theorem gX2_doEntry_X2_push : GoodIn wsX2_doEntry (wsV RX2 71 RX2 yX2_push wsX2_push) := goodIn_app (goodIn_of _ (by decide +kernel)) ggX2_doEntry_X2_push
set_option maxRecDepth 20000 in
theorem ggX2_doEntry_X2_pop : GoodIn wsX2_doEntry wsX2_pop := goodIn_r _ [11, 6, 7, 89, 90, 91, 92, 93, 94] (by decide +kernel) (by decide +kernel)
set_option maxRecDepth 20000 in
theorem gX2_doEntry_X2_pop : GoodIn wsX2_doEntry (wsV RX2 67 RX2 yX2_pop wsX2_pop) := goodIn_app (goodIn_of _ (by decide +kernel)) ggX2_doEntry_X2_pop
set_option maxRecDepth 20000 in
theorem ggX2_doEntry_X2_checkedPlace : GoodIn wsX2_doEntry wsX2_checkedPlace := goodIn_r _ [15, 16, 17, 18, 19, 20, 4, 21, 22, 23, 89, 90, 91, 92, 93, 94] (by decide +kernel) (by decide +kernel)
set_option maxRecDepth 20000 in
theorem gX2_doEntry_X2_checkedPlace : GoodIn wsX2_doEntry (wsV RX2 75 RX2 yX2_checkedPlace wsX2_checkedPlace) := goodIn_app (goodIn_of _ (by decide +kernel)) ggX2_doEntry_X2_checkedPlace
set_option maxRecDepth 20000 in
theorem ggX2_doEntry_X2_load : GoodIn wsX2_doEntry wsX2_load := goodIn_r _ [27, 8, 9, 10, 4, 11, 6, 7, 12, 13, 14, 15, 16, 17, 18, 19, 20, 21, 22, 23, 28, 29, 30, 31, 1, 2, 3, 5, 89, 90, 91, 92, 93, 94] (by decide +kernel) (by decide +kernel)
set_option maxRecDepth 20000 in
theorem gX2_doEntry_X2_load : GoodIn wsX2_doEntry (wsV RX2 79 RX2 yX2_load wsX2_load) := goodIn_app (goodIn_of _ (by decide +kernel)) ggX2_doEntry_X2_load
set_option maxRecDepth 20000 in
theorem ggX2_doEntry_X2_store : GoodIn wsX2_doEntry wsX2_store := goodIn_r _ [35, 8, 9, 10, 4, 11, 6, 7, 36, 37, 38, 39, 23, 18, 19, 20, 21, 22, 40, 41, 42, 43, 44, 45, 89, 90, 91, 92, 93, 94] (by decide +kernel) (by decide +kernel)
set_option maxRecDepth 20000 in
theorem gX2_doEntry_X2_store : GoodIn wsX2_doEntry (wsV RX2 82 RX2 yX2_store wsX2_store) := goodIn_app (goodIn_of _ (by decide +kernel)) ggX2_doEntry_X2_store
set_option maxRecDepth 20000 in
theorem ggX2_doEntry_X2_workOutOne : GoodIn wsX2_doEntry wsX2_workOutOne := goodIn_r _ [49, 17, 8, 9, 10, 4, 11, 6, 7, 50, 51, 42, 52, 53, 54, 55, 56, 57, 58, 59, 60, 61, 62, 63, 64, 65, 66, 67, 68, 69, 70, 40, 41, 43, 44, 45, 1, 2, 3, 5, 89, 90, 91, 92, 93, 94] (by decide +kernel) (by decide +kernel)
set_option maxRecDepth 20000 in
theorem gX2_doEntry_X2_workOutOne : GoodIn wsX2_doEntry (wsV RX2 85 RX2 yX2_workOutOne wsX2_workOutOne) := goodIn_app (goodIn_of _ (by decide +kernel)) ggX2_doEntry_X2_workOutOne
set_option maxRecDepth 20000 in
theorem ggX2_doEntry_X2_workOutTwo : GoodIn wsX2_doEntry wsX2_workOutTwo := goodIn_r _ [74, 17, 8, 9, 10, 4, 11, 6, 7, 75, 76, 42, 77, 57, 78, 79, 80, 53, 54, 55, 56, 81, 82, 83, 84, 60, 85, 86, 87, 88, 67, 68, 69, 70, 40, 41, 43, 44, 45, 1, 2, 3, 5, 89, 90, 91, 92, 93, 94] (by decide +kernel) (by decide +kernel)
set_option maxRecDepth 20000 in
theorem gX2_doEntry_X2_workOutTwo : GoodIn wsX2_doEntry (wsV RX2 88 RX2 yX2_workOutTwo wsX2_workOutTwo) := goodIn_app (goodIn_of _ (by decide +kernel)) ggX2_doEntry_X2_workOutTwo
theorem dX2_doEntry_0 : decode cX2_doEntry 0 = .ok (.iload_n 1, 1) := by decide +kernel
theorem dX2_doEntry_1 : decode cX2_doEntry 1 = .ok (.ifCond .lt 10, 3) := by decide +kernel
theorem dX2_doEntry_4 : decode cX2_doEntry 4 = .ok (.aload_n 0, 1) := by decide +kernel
theorem dX2_doEntry_5 : decode cX2_doEntry 5 = .ok (.iload_n 1, 1) := by decide +kernel
theorem dX2_doEntry_6 : decode cX2_doEntry 6 = .ok (.i2l, 1) := by decide +kernel
theorem dX2_doEntry_7 : decode cX2_doEntry 7 = .ok (.invokevirtual 71, 3) := by decide +kernel
theorem dX2_doEntry_10 : decode cX2_doEntry 10 = .ok (.return_, 1) := by decide +kernel
theorem dX2_doEntry_11 : decode cX2_doEntry 11 = .ok (.iload_n 1, 1) := by decide +kernel
theorem dX2_doEntry_12 : decode cX2_doEntry 12 = .ok (.ineg, 1) := by decide +kernel
theorem dX2_doEntry_13 : decode cX2_doEntry 13 = .ok (.istore_n 2, 1) := by decide +kernel
theorem dX2_doEntry_14 : decode cX2_doEntry 14 = .ok (.iload_n 2, 1) := by decide +kernel
theorem dX2_doEntry_15 : decode cX2_doEntry 15 = .ok (.lookupswitch 110 #[(1, 102), (2, 88), (3, 73), (4, 95), (305, 102), (306, 102), (307, 102), (308, 102)], 73) := by decide +kernel
theorem dX2_doEntry_88 : decode cX2_doEntry 88 = .ok (.aload_n 0, 1) := by decide +kernel
theorem dX2_doEntry_89 : decode cX2_doEntry 89 = .ok (.aload_n 0, 1) := by decide +kernel
theorem dX2_doEntry_90 : decode cX2_doEntry 90 = .ok (.aload_n 0, 1) := by decide +kernel
theorem dX2_doEntry_91 : decode cX2_doEntry 91 = .ok (.invokevirtual 67, 3) := by decide +kernel
theorem dX2_doEntry_94 : decode cX2_doEntry 94 = .ok (.invokevirtual 75, 3) := by decide +kernel
theorem dX2_doEntry_97 : decode cX2_doEntry 97 = .ok (.invokevirtual 71, 3) := by decide +kernel
theorem dX2_doEntry_100 : decode cX2_doEntry 100 = .ok (.goto 30, 3) := by decide +kernel
theorem dX2_doEntry_103 : decode cX2_doEntry 103 = .ok (.aload_n 0, 1) := by decide +kernel
theorem dX2_doEntry_104 : decode cX2_doEntry 104 = .ok (.invokevirtual 79, 3) := by decide +kernel
theorem dX2_doEntry_107 : decode cX2_doEntry 107 = .ok (.goto 23, 3) := by decide +kernel
theorem dX2_doEntry_110 : decode cX2_doEntry 110 = .ok (.aload_n 0, 1) := by decide +kernel
theorem dX2_doEntry_111 : decode cX2_doEntry 111 = .ok (.invokevirtual 82, 3) := by decide +kernel
theorem dX2_doEntry_114 : decode cX2_doEntry 114 = .ok (.goto 16, 3) := by decide +kernel
theorem dX2_doEntry_117 : decode cX2_doEntry 117 = .ok (.aload_n 0, 1) := by decide +kernel
theorem dX2_doEntry_118 : decode cX2_doEntry 118 = .ok (.iload_n 2, 1) := by decide +kernel
theorem dX2_doEntry_119 : decode cX2_doEntry 119 = .ok (.invokevirtual 85, 3) := by decide +kernel
theorem dX2_doEntry_122 : decode cX2_doEntry 122 = .ok (.goto 8, 3) := by decide +kernel
theorem dX2_doEntry_125 : decode cX2_doEntry 125 = .ok (.aload_n 0, 1) := by decide +kernel
theorem dX2_doEntry_126 : decode cX2_doEntry 126 = .ok (.iload_n 2, 1) := by decide +kernel
theorem dX2_doEntry_127 : decode cX2_doEntry 127 = .ok (.invokevirtual 88, 3) := by decide +kernel
theorem dX2_doEntry_130 : decode cX2_doEntry 130 = .ok (.return_, 1) := by decide +kernel
set_option maxRecDepth 20000 in
theorem ggX2_checkedPlace_X2_isVariable : GoodIn wsX2_checkedPlace wsX2_isVariable := goodIn_r _ [7, 8, 9, 10, 11, 12, 13, 14, 15] (by decide +kernel) (by decide +kernel)
set_option maxRecDepth 20000 in
theorem gX2_checkedPlace_X2_isVariable : GoodIn wsX2_checkedPlace (wsV RX2 23 RX2 yX2_isVariable wsX2_isVariable) := goodIn_app (goodIn_of _ (by decide +kernel)) ggX2_checkedPlace_X2_isVariable
theorem dX2_checkedPlace_0 : decode cX2_checkedPlace 0 = .ok (.lload_n 1, 1) := by decide +kernel
theorem dX2_checkedPlace_1 : decode cX2_checkedPlace 1 = .ok (.ldc2_w 91, 3) := by decide +kernel
theorem dX2_checkedPlace_4 : decode cX2_checkedPlace 4 = .ok (.ldiv, 1) := by decide +kernel
theorem dX2_checkedPlace_5 : decode cX2_checkedPlace 5 = .ok (.lstore_n 3, 1) := by decide +kernel
theorem dX2_checkedPlace_6 : decode cX2_checkedPlace 6 = .ok (.lload_n 3, 1) := by decide +kernel
theorem dX2_checkedPlace_7 : decode cX2_checkedPlace 7 = .ok (.ldc2_w 91, 3) := by decide +kernel
theorem dX2_checkedPlace_10 : decode cX2_checkedPlace 10 = .ok (.lmul, 1) := by decide +kernel
theorem dX2_checkedPlace_11 : decode cX2_checkedPlace 11 = .ok (.lload_n 1, 1) := by decide +kernel
theorem dX2_checkedPlace_12 : decode cX2_checkedPlace 12 = .ok (.lcmp, 1) := by decide +kernel
theorem dX2_checkedPlace_13 : decode cX2_checkedPlace 13 = .ok (.ifCond .ne 11, 3) := by decide +kernel
theorem dX2_checkedPlace_16 : decode cX2_checkedPlace 16 = .ok (.aload_n 0, 1) := by decide +kernel
theorem dX2_checkedPlace_17 : decode cX2_checkedPlace 17 = .ok (.lload_n 3, 1) := by decide +kernel
theorem dX2_checkedPlace_18 : decode cX2_checkedPlace 18 = .ok (.invokevirtual 23, 3) := by decide +kernel
theorem dX2_checkedPlace_21 : decode cX2_checkedPlace 21 = .ok (.ifCond .ne 10, 3) := by decide +kernel
theorem dX2_checkedPlace_24 : decode cX2_checkedPlace 24 = .ok (.aload_n 0, 1) := by decide +kernel
theorem dX2_checkedPlace_25 : decode cX2_checkedPlace 25 = .ok (.iconst 2, 1) := by decide +kernel
theorem dX2_checkedPlace_26 : decode cX2_checkedPlace 26 = .ok (.putfield 34, 3) := by decide +kernel
theorem dX2_checkedPlace_29 : decode cX2_checkedPlace 29 = .ok (.lconst 0, 1) := by decide +kernel
theorem dX2_checkedPlace_30 : decode cX2_checkedPlace 30 = .ok (.lreturn, 1) := by decide +kernel
theorem dX2_checkedPlace_31 : decode cX2_checkedPlace 31 = .ok (.lload_n 3, 1) := by decide +kernel
theorem dX2_checkedPlace_32 : decode cX2_checkedPlace 32 = .ok (.lreturn, 1) := by decide +kernel
set_option maxRecDepth 20000 in
theorem ggX2_load_X2_pop : GoodIn wsX2_load wsX2_pop := goodIn_r _ [5, 6, 7, 28, 29, 30, 31, 32, 33] (by decide +kernel) (by decide +kernel)
set_option maxRecDepth 20000 in
theorem gX2_load_X2_pop : GoodIn wsX2_load (wsV RX2 67 RX2 yX2_pop wsX2_pop) := goodIn_app (goodIn_of _ (by decide +kernel)) ggX2_load_X2_pop
set_option maxRecDepth 20000 in
theorem ggX2_load_X2_checkedPlace : GoodIn wsX2_load wsX2_checkedPlace := goodIn_r _ [11, 12, 13, 14, 15, 16, 4, 17, 18, 19, 28, 29, 30, 31, 32, 33] (by decide +kernel) (by decide +kernel)
set_option maxRecDepth 20000 in
theorem gX2_load_X2_checkedPlace : GoodIn wsX2_load (wsV RX2 75 RX2 yX2_checkedPlace wsX2_checkedPlace) := goodIn_app (goodIn_of _ (by decide +kernel)) ggX2_load_X2_checkedPlace
set_option maxRecDepth 20000 in
theorem ggX2_load_X2_valueOf : GoodIn wsX2_load wsX2_valueOf := goodIn_r _ [23, 19, 14, 15, 16, 4, 17, 18, 28, 29, 30, 31, 32, 33] (by decide +kernel) (by decide +kernel)
set_option maxRecDepth 20000 in
theorem gX2_load_X2_valueOf : GoodIn wsX2_load (wsV RX2 93 RX2 yX2_valueOf wsX2_valueOf) := goodIn_app (goodIn_of _ (by decide +kernel)) ggX2_load_X2_valueOf
set_option maxRecDepth 20000 in
theorem ggX2_load_X2_push : GoodIn wsX2_load wsX2_push := goodIn_r _ [27, 6, 7, 28, 29, 30, 31, 32, 33] (by decide +kernel) (by decide +kernel)
set_option maxRecDepth 20000 in
theorem gX2_load_X2_push : GoodIn wsX2_load (wsV RX2 71 RX2 yX2_push wsX2_push) := goodIn_app (goodIn_of _ (by decide +kernel)) ggX2_load_X2_push
theorem dX2_load_0 : decode cX2_load 0 = .ok (.aload_n 0, 1) := by decide +kernel
theorem dX2_load_1 : decode cX2_load 1 = .ok (.aload_n 0, 1) := by decide +kernel
theorem dX2_load_2 : decode cX2_load 2 = .ok (.invokevirtual 67, 3) := by decide +kernel
theorem dX2_load_5 : decode cX2_load 5 = .ok (.invokevirtual 75, 3) := by decide +kernel
theorem dX2_load_8 : decode cX2_load 8 = .ok (.l2i, 1) := by decide +kernel
theorem dX2_load_9 : decode cX2_load 9 = .ok (.istore_n 1, 1) := by decide +kernel
theorem dX2_load_10 : decode cX2_load 10 = .ok (.aload_n 0, 1) := by decide +kernel
theorem dX2_load_11 : decode cX2_load 11 = .ok (.aload_n 0, 1) := by decide +kernel
theorem dX2_load_12 : decode cX2_load 12 = .ok (.iload_n 1, 1) := by decide +kernel
theorem dX2_load_13 : decode cX2_load 13 = .ok (.invokevirtual 93, 3) := by decide +kernel
theorem dX2_load_16 : decode cX2_load 16 = .ok (.invokevirtual 71, 3) := by decide +kernel
theorem dX2_load_19 : decode cX2_load 19 = .ok (.return_, 1) := by decide +kernel
set_option maxRecDepth 20000 in
theorem ggX2_store_X2_pop : GoodIn wsX2_store wsX2_pop := goodIn_r _ [5, 6, 7, 24, 25, 26, 27, 28, 29] (by decide +kernel) (by decide +kernel)
set_option maxRecDepth 20000 in
theorem gX2_store_X2_pop : GoodIn wsX2_store (wsV RX2 67 RX2 yX2_pop wsX2_pop) := goodIn_app (goodIn_of _ (by decide +kernel)) ggX2_store_X2_pop
set_option maxRecDepth 20000 in
theorem ggX2_store_X2_setValue : GoodIn wsX2_store wsX2_setValue := goodIn_r _ [11, 12, 13, 14, 15, 4, 16, 17, 18, 19, 20, 21, 22, 23, 24, 25, 26, 27, 28, 29] (by decide +kernel) (by decide +kernel)
set_option maxRecDepth 20000 in
theorem gX2_store_X2_setValue : GoodIn wsX2_store (wsV RX2 97 RX2 yX2_setValue wsX2_setValue) := goodIn_app (goodIn_of _ (by decide +kernel)) ggX2_store_X2_setValue
theorem dX2_store_0 : decode cX2_store 0 = .ok (.aload_n 0, 1) := by decide +kernel
theorem dX2_store_1 : decode cX2_store 1 = .ok (.invokevirtual 67, 3) := by decide +kernel
theorem dX2_store_4 : decode cX2_store 4 = .ok (.lstore_n 1, 1) := by decide +kernel
theorem dX2_store_5 : decode cX2_store 5 = .ok (.aload_n 0, 1) := by decide +kernel
theorem dX2_store_6 : decode cX2_store 6 = .ok (.invokevirtual 67, 3) := by decide +kernel
theorem dX2_store_9 : decode cX2_store 9 = .ok (.l2i, 1) := by decide +kernel
theorem dX2_store_10 : decode cX2_store 10 = .ok (.istore_n 3, 1) := by decide +kernel
theorem dX2_store_11 : decode cX2_store 11 = .ok (.aload_n 0, 1) := by decide +kernel
theorem dX2_store_12 : decode cX2_store 12 = .ok (.iload_n 3, 1) := by decide +kernel
theorem dX2_store_13 : decode cX2_store 13 = .ok (.lload_n 1, 1) := by decide +kernel
theorem dX2_store_14 : decode cX2_store 14 = .ok (.invokevirtual 97, 3) := by decide +kernel
theorem dX2_store_17 : decode cX2_store 17 = .ok (.pop, 1) := by decide +kernel
theorem dX2_store_18 : decode cX2_store 18 = .ok (.return_, 1) := by decide +kernel
set_option maxRecDepth 20000 in
theorem ggX2_workOutOne_X2_pop : GoodIn wsX2_workOutOne wsX2_pop := goodIn_r _ [6, 7, 8, 40, 41, 42, 43, 44, 45] (by decide +kernel) (by decide +kernel)
set_option maxRecDepth 20000 in
theorem gX2_workOutOne_X2_pop : GoodIn wsX2_workOutOne (wsV RX2 67 RX2 yX2_pop wsX2_pop) := goodIn_app (goodIn_of _ (by decide +kernel)) ggX2_workOutOne_X2_pop
set_option maxRecDepth 20000 in
theorem ggX2_workOutOne_X7_ofOne : GoodIn wsX2_workOutOne wsX7_ofOne := goodIn_r _ [12, 13, 14, 15, 16, 17, 18, 19, 20, 21, 22, 23, 11, 24, 25, 26] (by decide +kernel) (by decide +kernel)
set_option maxRecDepth 20000 in
theorem gX2_workOutOne_X7_ofOne : GoodIn wsX2_workOutOne (va_wsS RX2 103 yX7_ofOne wsX7_ofOne) := goodIn_app (goodIn_of _ (by decide +kernel)) ggX2_workOutOne_X7_ofOne
set_option maxRecDepth 20000 in
theorem ggX2_workOutOne_X2_pushResult : GoodIn wsX2_workOutOne wsX2_pushResult := goodIn_r _ [30, 1, 31, 32, 11, 33, 34, 35, 36, 37, 38, 5, 39, 7, 8, 40, 41, 42, 43, 44, 45] (by decide +kernel) (by decide +kernel)
set_option maxRecDepth 20000 in
theorem gX2_workOutOne_X2_pushResult : GoodIn wsX2_workOutOne (wsV RX2 107 RX2 yX2_pushResult wsX2_pushResult) := goodIn_app (goodIn_of _ (by decide +kernel)) ggX2_workOutOne_X2_pushResult
theorem dX2_workOutOne_0 : decode cX2_workOutOne 0 = .ok (.aload_n 0, 1) := by decide +kernel
theorem dX2_workOutOne_1 : decode cX2_workOutOne 1 = .ok (.invokevirtual 67, 3) := by decide +kernel
theorem dX2_workOutOne_4 : decode cX2_workOutOne 4 = .ok (.lstore_n 2, 1) := by decide +kernel
theorem dX2_workOutOne_5 : decode cX2_workOutOne 5 = .ok (.iload_n 1, 1) := by decide +kernel
theorem dX2_workOutOne_6 : decode cX2_workOutOne 6 = .ok (.sipush 308, 3) := by decide +kernel
theorem dX2_workOutOne_9 : decode cX2_workOutOne 9 = .ok (.if_icmp .ne 17, 3) := by decide +kernel
theorem dX2_workOutOne_12 : decode cX2_workOutOne 12 = .ok (.lload_n 2, 1) := by decide +kernel
theorem dX2_workOutOne_13 : decode cX2_workOutOne 13 = .ok (.lconst 0, 1) := by decide +kernel
theorem dX2_workOutOne_14 : decode cX2_workOutOne 14 = .ok (.lcmp, 1) := by decide +kernel
theorem dX2_workOutOne_15 : decode cX2_workOutOne 15 = .ok (.ifCond .ge 11, 3) := by decide +kernel
theorem dX2_workOutOne_18 : decode cX2_workOutOne 18 = .ok (.aload_n 0, 1) := by decide +kernel
theorem dX2_workOutOne_19 : decode cX2_workOutOne 19 = .ok (.iconst 1, 1) := by decide +kernel
theorem dX2_workOutOne_20 : decode cX2_workOutOne 20 = .ok (.putfield 34, 3) := by decide +kernel
theorem dX2_workOutOne_23 : decode cX2_workOutOne 23 = .ok (.goto 12, 3) := by decide +kernel
theorem dX2_workOutOne_26 : decode cX2_workOutOne 26 = .ok (.aload_n 0, 1) := by decide +kernel
theorem dX2_workOutOne_27 : decode cX2_workOutOne 27 = .ok (.iload_n 1, 1) := by decide +kernel
theorem dX2_workOutOne_28 : decode cX2_workOutOne 28 = .ok (.lload_n 2, 1) := by decide +kernel
theorem dX2_workOutOne_29 : decode cX2_workOutOne 29 = .ok (.invokestatic 103, 3) := by decide +kernel
theorem dX2_workOutOne_32 : decode cX2_workOutOne 32 = .ok (.invokevirtual 107, 3) := by decide +kernel
theorem dX2_workOutOne_35 : decode cX2_workOutOne 35 = .ok (.return_, 1) := by decide +kernel
set_option maxRecDepth 20000 in
theorem ggX2_workOutTwo_X2_pop : GoodIn wsX2_workOutTwo wsX2_pop := goodIn_r _ [6, 7, 8, 43, 44, 45, 46, 47, 48] (by decide +kernel) (by decide +kernel)
set_option maxRecDepth 20000 in
theorem gX2_workOutTwo_X2_pop : GoodIn wsX2_workOutTwo (wsV RX2 67 RX2 yX2_pop wsX2_pop) := goodIn_app (goodIn_of _ (by decide +kernel)) ggX2_workOutTwo_X2_pop
set_option maxRecDepth 20000 in
theorem ggX2_workOutTwo_X7_ofTwo : GoodIn wsX2_workOutTwo wsX7_ofTwo := goodIn_r _ [12, 13, 14, 15, 11, 16, 17, 18, 19, 20, 21, 22, 23, 24, 25, 26, 27, 28, 29] (by decide +kernel) (by decide +kernel)
set_option maxRecDepth 20000 in
theorem gX2_workOutTwo_X7_ofTwo : GoodIn wsX2_workOutTwo (va_wsS RX2 110 yX7_ofTwo wsX7_ofTwo) := goodIn_app (goodIn_of _ (by decide +kernel)) ggX2_workOutTwo_X7_ofTwo
set_option maxRecDepth 20000 in
theorem ggX2_workOutTwo_X2_pushResult : GoodIn wsX2_workOutTwo wsX2_pushResult := goodIn_r _ [33, 1, 34, 35, 11, 36, 37, 38, 39, 40, 41, 5, 42, 7, 8, 43, 44, 45, 46, 47, 48] (by decide +kernel) (by decide +kernel)
set_option maxRecDepth 20000 in
theorem gX2_workOutTwo_X2_pushResult : GoodIn wsX2_workOutTwo (wsV RX2 107 RX2 yX2_pushResult wsX2_pushResult) := goodIn_app (goodIn_of _ (by decide +kernel)) ggX2_workOutTwo_X2_pushResult
theorem dX2_workOutTwo_0 : decode cX2_workOutTwo 0 = .ok (.aload_n 0, 1) := by decide +kernel
theorem dX2_workOutTwo_1 : decode cX2_workOutTwo 1 = .ok (.invokevirtual 67, 3) := by decide +kernel
theorem dX2_workOutTwo_4 : decode cX2_workOutTwo 4 = .ok (.lstore_n 2, 1) := by decide +kernel
theorem dX2_workOutTwo_5 : decode cX2_workOutTwo 5 = .ok (.aload_n 0, 1) := by decide +kernel
theorem dX2_workOutTwo_6 : decode cX2_workOutTwo 6 = .ok (.invokevirtual 67, 3) := by decide +kernel
theorem dX2_workOutTwo_9 : decode cX2_workOutTwo 9 = .ok (.lstore 4, 2) := by decide +kernel
theorem dX2_workOutTwo_11 : decode cX2_workOutTwo 11 = .ok (.lload_n 2, 1) := by decide +kernel
theorem dX2_workOutTwo_12 : decode cX2_workOutTwo 12 = .ok (.lconst 0, 1) := by decide +kernel
theorem dX2_workOutTwo_13 : decode cX2_workOutTwo 13 = .ok (.lcmp, 1) := by decide +kernel
theorem dX2_workOutTwo_14 : decode cX2_workOutTwo 14 = .ok (.ifCond .ne 24, 3) := by decide +kernel
theorem dX2_workOutTwo_17 : decode cX2_workOutTwo 17 = .ok (.iload_n 1, 1) := by decide +kernel
theorem dX2_workOutTwo_18 : decode cX2_workOutTwo 18 = .ok (.bipush 47, 2) := by decide +kernel
theorem dX2_workOutTwo_20 : decode cX2_workOutTwo 20 = .ok (.if_icmp .eq 10, 3) := by decide +kernel
theorem dX2_workOutTwo_23 : decode cX2_workOutTwo 23 = .ok (.iload_n 1, 1) := by decide +kernel
theorem dX2_workOutTwo_24 : decode cX2_workOutTwo 24 = .ok (.sipush 309, 3) := by decide +kernel
theorem dX2_workOutTwo_27 : decode cX2_workOutTwo 27 = .ok (.if_icmp .ne 11, 3) := by decide +kernel
theorem dX2_workOutTwo_30 : decode cX2_workOutTwo 30 = .ok (.aload_n 0, 1) := by decide +kernel
theorem dX2_workOutTwo_31 : decode cX2_workOutTwo 31 = .ok (.iconst 1, 1) := by decide +kernel
theorem dX2_workOutTwo_32 : decode cX2_workOutTwo 32 = .ok (.putfield 34, 3) := by decide +kernel
theorem dX2_workOutTwo_35 : decode cX2_workOutTwo 35 = .ok (.goto 14, 3) := by decide +kernel
theorem dX2_workOutTwo_38 : decode cX2_workOutTwo 38 = .ok (.aload_n 0, 1) := by decide +kernel
theorem dX2_workOutTwo_39 : decode cX2_workOutTwo 39 = .ok (.iload_n 1, 1) := by decide +kernel
theorem dX2_workOutTwo_40 : decode cX2_workOutTwo 40 = .ok (.lload 4, 2) := by decide +kernel
theorem dX2_workOutTwo_42 : decode cX2_workOutTwo 42 = .ok (.lload_n 2, 1) := by decide +kernel
theorem dX2_workOutTwo_43 : decode cX2_workOutTwo 43 = .ok (.invokestatic 110, 3) := by decide +kernel
theorem dX2_workOutTwo_46 : decode cX2_workOutTwo 46 = .ok (.invokevirtual 107, 3) := by decide +kernel
theorem dX2_workOutTwo_49 : decode cX2_workOutTwo 49 = .ok (.return_, 1) := by decide +kernel
set_option maxRecDepth 20000 in
theorem ggX2_pushResult_X7_isTooGreat : GoodIn wsX2_pushResult wsX7_isTooGreat := goodIn_r _ [5, 6, 7] (by decide +kernel) (by decide +kernel)
set_option maxRecDepth 20000 in
theorem gX2_pushResult_X7_isTooGreat : GoodIn wsX2_pushResult (va_wsS RX2 27 yX7_isTooGreat wsX7_isTooGreat) := goodIn_app (goodIn_of _ (by decide +kernel)) ggX2_pushResult_X7_isTooGreat
set_option maxRecDepth 20000 in
theorem ggX2_pushResult_X2_push : GoodIn wsX2_pushResult wsX2_push := goodIn_r _ [12, 13, 14, 15, 16, 17, 18, 19, 20] (by decide +kernel) (by decide +kernel)
set_option maxRecDepth 20000 in
theorem gX2_pushResult_X2_push : GoodIn wsX2_pushResult (wsV RX2 71 RX2 yX2_push wsX2_push) := goodIn_app (goodIn_of _ (by decide +kernel)) ggX2_pushResult_X2_push
theorem dX2_pushResult_0 : decode cX2_pushResult 0 = .ok (.lload_n 1, 1) := by decide +kernel
theorem dX2_pushResult_1 : decode cX2_pushResult 1 = .ok (.invokestatic 27, 3) := by decide +kernel
theorem dX2_pushResult_4 : decode cX2_pushResult 4 = .ok (.ifCond .eq 11, 3) := by decide +kernel
theorem dX2_pushResult_7 : decode cX2_pushResult 7 = .ok (.aload_n 0, 1) := by decide +kernel
theorem dX2_pushResult_8 : decode cX2_pushResult 8 = .ok (.iconst 4, 1) := by decide +kernel
theorem dX2_pushResult_9 : decode cX2_pushResult 9 = .ok (.putfield 34, 3) := by decide +kernel
theorem dX2_pushResult_12 : decode cX2_pushResult 12 = .ok (.goto 8, 3) := by decide +kernel
theorem dX2_pushResult_15 : decode cX2_pushResult 15 = .ok (.aload_n 0, 1) := by decide +kernel
theorem dX2_pushResult_16 : decode cX2_pushResult 16 = .ok (.lload_n 1, 1) := by decide +kernel
theorem dX2_pushResult_17 : decode cX2_pushResult 17 = .ok (.invokevirtual 71, 3) := by decide +kernel
theorem dX2_pushResult_20 : decode cX2_pushResult 20 = .ok (.return_, 1) := by decide +kernel
theorem dX2_push_0 : decode cX2_push 0 = .ok (.aload_n 0, 1) := by decide +kernel
theorem dX2_push_1 : decode cX2_push 1 = .ok (.getfield 47, 3) := by decide +kernel
theorem dX2_push_4 : decode cX2_push 4 = .ok (.ifCond .lt 35, 3) := by decide +kernel
theorem dX2_push_7 : decode cX2_push 7 = .ok (.aload_n 0, 1) := by decide +kernel
theorem dX2_push_8 : decode cX2_push 8 = .ok (.getfield 47, 3) := by decide +kernel
theorem dX2_push_11 : decode cX2_push 11 = .ok (.aload_n 0, 1) := by decide +kernel
theorem dX2_push_12 : decode cX2_push 12 = .ok (.getfield 13, 3) := by decide +kernel
theorem dX2_push_15 : decode cX2_push 15 = .ok (.arraylength, 1) := by decide +kernel
theorem dX2_push_16 : decode cX2_push 16 = .ok (.if_icmp .ge 23, 3) := by decide +kernel
theorem dX2_push_19 : decode cX2_push 19 = .ok (.aload_n 0, 1) := by decide +kernel
theorem dX2_push_20 : decode cX2_push 20 = .ok (.getfield 13, 3) := by decide +kernel
theorem dX2_push_23 : decode cX2_push 23 = .ok (.aload_n 0, 1) := by decide +kernel
theorem dX2_push_24 : decode cX2_push 24 = .ok (.getfield 47, 3) := by decide +kernel
theorem dX2_push_27 : decode cX2_push 27 = .ok (.lload_n 1, 1) := by decide +kernel
theorem dX2_push_28 : decode cX2_push 28 = .ok (.lastore, 1) := by decide +kernel
theorem dX2_push_29 : decode cX2_push 29 = .ok (.aload_n 0, 1) := by decide +kernel
theorem dX2_push_30 : decode cX2_push 30 = .ok (.dup, 1) := by decide +kernel
theorem dX2_push_31 : decode cX2_push 31 = .ok (.getfield 47, 3) := by decide +kernel
theorem dX2_push_34 : decode cX2_push 34 = .ok (.iconst 1, 1) := by decide +kernel
theorem dX2_push_35 : decode cX2_push 35 = .ok (.iadd, 1) := by decide +kernel
theorem dX2_push_36 : decode cX2_push 36 = .ok (.putfield 47, 3) := by decide +kernel
theorem dX2_push_39 : decode cX2_push 39 = .ok (.return_, 1) := by decide +kernel
theorem dX2_pop_0 : decode cX2_pop 0 = .ok (.aload_n 0, 1) := by decide +kernel
theorem dX2_pop_1 : decode cX2_pop 1 = .ok (.getfield 47, 3) := by decide +kernel
theorem dX2_pop_4 : decode cX2_pop 4 = .ok (.ifCond .le 15, 3) := by decide +kernel
theorem dX2_pop_7 : decode cX2_pop 7 = .ok (.aload_n 0, 1) := by decide +kernel
theorem dX2_pop_8 : decode cX2_pop 8 = .ok (.getfield 47, 3) := by decide +kernel
theorem dX2_pop_11 : decode cX2_pop 11 = .ok (.aload_n 0, 1) := by decide +kernel
theorem dX2_pop_12 : decode cX2_pop 12 = .ok (.getfield 13, 3) := by decide +kernel
theorem dX2_pop_15 : decode cX2_pop 15 = .ok (.arraylength, 1) := by decide +kernel
theorem dX2_pop_16 : decode cX2_pop 16 = .ok (.if_icmp .le 5, 3) := by decide +kernel
theorem dX2_pop_19 : decode cX2_pop 19 = .ok (.lconst 0, 1) := by decide +kernel
theorem dX2_pop_20 : decode cX2_pop 20 = .ok (.lreturn, 1) := by decide +kernel
theorem dX2_pop_21 : decode cX2_pop 21 = .ok (.aload_n 0, 1) := by decide +kernel
theorem dX2_pop_22 : decode cX2_pop 22 = .ok (.dup, 1) := by decide +kernel
theorem dX2_pop_23 : decode cX2_pop 23 = .ok (.getfield 47, 3) := by decide +kernel
theorem dX2_pop_26 : decode cX2_pop 26 = .ok (.iconst 1, 1) := by decide +kernel
theorem dX2_pop_27 : decode cX2_pop 27 = .ok (.isub, 1) := by decide +kernel
theorem dX2_pop_28 : decode cX2_pop 28 = .ok (.putfield 47, 3) := by decide +kernel
theorem dX2_pop_31 : decode cX2_pop 31 = .ok (.aload_n 0, 1) := by decide +kernel
theorem dX2_pop_32 : decode cX2_pop 32 = .ok (.getfield 13, 3) := by decide +kernel
theorem dX2_pop_35 : decode cX2_pop 35 = .ok (.aload_n 0, 1) := by decide +kernel
theorem dX2_pop_36 : decode cX2_pop 36 = .ok (.getfield 47, 3) := by decide +kernel
theorem dX2_pop_39 : decode cX2_pop 39 = .ok (.laload, 1) := by decide +kernel
theorem dX2_pop_40 : decode cX2_pop 40 = .ok (.lreturn, 1) := by decide +kernel
