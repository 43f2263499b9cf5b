theorem dJ7_copyOf_59c91_0 : decode cJ7_copyOf_59c91 0 = .ok (.iload_n 1, 1) := by decide +kernel
theorem dJ7_copyOf_59c91_1 : decode cJ7_copyOf_59c91 1 = .ok (.aload_n 0, 1) := by decide +kernel
theorem dJ7_copyOf_59c91_2 : decode cJ7_copyOf_59c91 2 = .ok (.arraylength, 1) := by decide +kernel
theorem dJ7_copyOf_59c91_3 : decode cJ7_copyOf_59c91 3 = .ok (.if_icmp .ne 11, 3) := by decide +kernel
theorem dJ7_copyOf_59c91_6 : decode cJ7_copyOf_59c91 6 = .ok (.aload_n 0, 1) := by decide +kernel
theorem dJ7_copyOf_59c91_7 : decode cJ7_copyOf_59c91 7 = .ok (.invokevirtual 316, 3) := by decide +kernel
theorem dJ7_copyOf_59c91_10 : decode cJ7_copyOf_59c91 10 = .ok (.checkcast 317, 3) := by decide +kernel
theorem dJ7_copyOf_59c91_13 : decode cJ7_copyOf_59c91 13 = .ok (.areturn, 1) := by decide +kernel
theorem dJ7_copyOf_59c91_14 : decode cJ7_copyOf_59c91 14 = .ok (.iload_n 1, 1) := by decide +kernel
theorem dJ7_copyOf_59c91_15 : decode cJ7_copyOf_59c91 15 = .ok (.newarray .int, 2) := by decide +kernel
theorem dJ7_copyOf_59c91_17 : decode cJ7_copyOf_59c91 17 = .ok (.astore_n 2, 1) := by decide +kernel
theorem dJ7_copyOf_59c91_18 : decode cJ7_copyOf_59c91 18 = .ok (.aload_n 0, 1) := by decide +kernel
theorem dJ7_copyOf_59c91_19 : decode cJ7_copyOf_59c91 19 = .ok (.iconst 0, 1) := by decide +kernel
theorem dJ7_copyOf_59c91_20 : decode cJ7_copyOf_59c91 20 = .ok (.aload_n 2, 1) := by decide +kernel
theorem dJ7_copyOf_59c91_21 : decode cJ7_copyOf_59c91 21 = .ok (.iconst 0, 1) := by decide +kernel
theorem dJ7_copyOf_59c91_22 : decode cJ7_copyOf_59c91 22 = .ok (.aload_n 0, 1) := by decide +kernel
theorem dJ7_copyOf_59c91_23 : decode cJ7_copyOf_59c91 23 = .ok (.arraylength, 1) := by decide +kernel
theorem dJ7_copyOf_59c91_24 : decode cJ7_copyOf_59c91 24 = .ok (.iload_n 1, 1) := by decide +kernel
theorem dJ7_copyOf_59c91_25 : decode cJ7_copyOf_59c91 25 = .ok (.invokestatic 304, 3) := by decide +kernel
theorem dJ7_copyOf_59c91_28 : decode cJ7_copyOf_59c91 28 = .ok (.invokestatic 150, 3) := by decide +kernel
theorem dJ7_copyOf_59c91_31 : decode cJ7_copyOf_59c91 31 = .ok (.aload_n 2, 1) := by decide +kernel
theorem dJ7_copyOf_59c91_32 : decode cJ7_copyOf_59c91 32 = .ok (.areturn, 1) := by decide +kernel
theorem dJ9_floorDiv_f86c9_0 : decode cJ9_floorDiv_f86c9 0 = .ok (.lload_n 0, 1) := by decide +kernel
theorem dJ9_floorDiv_f86c9_1 : decode cJ9_floorDiv_f86c9 1 = .ok (.lload_n 2, 1) := by decide +kernel
theorem dJ9_floorDiv_f86c9_2 : decode cJ9_floorDiv_f86c9 2 = .ok (.ldiv, 1) := by decide +kernel
theorem dJ9_floorDiv_f86c9_3 : decode cJ9_floorDiv_f86c9 3 = .ok (.lstore 4, 2) := by decide +kernel
theorem dJ9_floorDiv_f86c9_5 : decode cJ9_floorDiv_f86c9 5 = .ok (.lload_n 0, 1) := by decide +kernel
theorem dJ9_floorDiv_f86c9_6 : decode cJ9_floorDiv_f86c9 6 = .ok (.lload_n 2, 1) := by decide +kernel
theorem dJ9_floorDiv_f86c9_7 : decode cJ9_floorDiv_f86c9 7 = .ok (.lxor, 1) := by decide +kernel
theorem dJ9_floorDiv_f86c9_8 : decode cJ9_floorDiv_f86c9 8 = .ok (.lconst 0, 1) := by decide +kernel
theorem dJ9_floorDiv_f86c9_9 : decode cJ9_floorDiv_f86c9 9 = .ok (.lcmp, 1) := by decide +kernel
theorem dJ9_floorDiv_f86c9_10 : decode cJ9_floorDiv_f86c9 10 = .ok (.ifCond .ge 17, 3) := by decide +kernel
theorem dJ9_floorDiv_f86c9_13 : decode cJ9_floorDiv_f86c9 13 = .ok (.lload 4, 2) := by decide +kernel
theorem dJ9_floorDiv_f86c9_15 : decode cJ9_floorDiv_f86c9 15 = .ok (.lload_n 2, 1) := by decide +kernel
theorem dJ9_floorDiv_f86c9_16 : decode cJ9_floorDiv_f86c9 16 = .ok (.lmul, 1) := by decide +kernel
theorem dJ9_floorDiv_f86c9_17 : decode cJ9_floorDiv_f86c9 17 = .ok (.lload_n 0, 1) := by decide +kernel
theorem dJ9_floorDiv_f86c9_18 : decode cJ9_floorDiv_f86c9 18 = .ok (.lcmp, 1) := by decide +kernel
theorem dJ9_floorDiv_f86c9_19 : decode cJ9_floorDiv_f86c9 19 = .ok (.ifCond .eq 8, 3) := by decide +kernel
theorem dJ9_floorDiv_f86c9_22 : decode cJ9_floorDiv_f86c9 22 = .ok (.lload 4, 2) := by decide +kernel
theorem dJ9_floorDiv_f86c9_24 : decode cJ9_floorDiv_f86c9 24 = .ok (.lconst 1, 1) := by decide +kernel
theorem dJ9_floorDiv_f86c9_25 : decode cJ9_floorDiv_f86c9 25 = .ok (.lsub, 1) := by decide +kernel
theorem dJ9_floorDiv_f86c9_26 : decode cJ9_floorDiv_f86c9 26 = .ok (.lreturn, 1) := by decide +kernel
theorem dJ9_floorDiv_f86c9_27 : decode cJ9_floorDiv_f86c9 27 = .ok (.lload 4, 2) := by decide +kernel
theorem dJ9_floorDiv_f86c9_29 : decode cJ9_floorDiv_f86c9 29 = .ok (.lreturn, 1) := by decide +kernel
theorem dJ9_floorMod_f86c9_0 : decode cJ9_floorMod_f86c9 0 = .ok (.lload_n 0, 1) := by decide +kernel
theorem dJ9_floorMod_f86c9_1 : decode cJ9_floorMod_f86c9 1 = .ok (.lload_n 2, 1) := by decide +kernel
theorem dJ9_floorMod_f86c9_2 : decode cJ9_floorMod_f86c9 2 = .ok (.lrem, 1) := by decide +kernel
theorem dJ9_floorMod_f86c9_3 : decode cJ9_floorMod_f86c9 3 = .ok (.lstore 4, 2) := by decide +kernel
theorem dJ9_floorMod_f86c9_5 : decode cJ9_floorMod_f86c9 5 = .ok (.lload_n 0, 1) := by decide +kernel
theorem dJ9_floorMod_f86c9_6 : decode cJ9_floorMod_f86c9 6 = .ok (.lload_n 2, 1) := by decide +kernel
theorem dJ9_floorMod_f86c9_7 : decode cJ9_floorMod_f86c9 7 = .ok (.lxor, 1) := by decide +kernel
theorem dJ9_floorMod_f86c9_8 : decode cJ9_floorMod_f86c9 8 = .ok (.lconst 0, 1) := by decide +kernel
theorem dJ9_floorMod_f86c9_9 : decode cJ9_floorMod_f86c9 9 = .ok (.lcmp, 1) := by decide +kernel
theorem dJ9_floorMod_f86c9_10 : decode cJ9_floorMod_f86c9 10 = .ok (.ifCond .ge 15, 3) := by decide +kernel
theorem dJ9_floorMod_f86c9_13 : decode cJ9_floorMod_f86c9 13 = .ok (.lload 4, 2) := by decide +kernel
theorem dJ9_floorMod_f86c9_15 : decode cJ9_floorMod_f86c9 15 = .ok (.lconst 0, 1) := by decide +kernel
theorem dJ9_floorMod_f86c9_16 : decode cJ9_floorMod_f86c9 16 = .ok (.lcmp, 1) := by decide +kernel
theorem dJ9_floorMod_f86c9_17 : decode cJ9_floorMod_f86c9 17 = .ok (.ifCond .eq 8, 3) := by decide +kernel
theorem dJ9_floorMod_f86c9_20 : decode cJ9_floorMod_f86c9 20 = .ok (.lload 4, 2) := by decide +kernel
theorem dJ9_floorMod_f86c9_22 : decode cJ9_floorMod_f86c9 22 = .ok (.lload_n 2, 1) := by decide +kernel
theorem dJ9_floorMod_f86c9_23 : decode cJ9_floorMod_f86c9 23 = .ok (.ladd, 1) := by decide +kernel
theorem dJ9_floorMod_f86c9_24 : decode cJ9_floorMod_f86c9 24 = .ok (.lreturn, 1) := by decide +kernel
theorem dJ9_floorMod_f86c9_25 : decode cJ9_floorMod_f86c9 25 = .ok (.lload 4, 2) := by decide +kernel
theorem dJ9_floorMod_f86c9_27 : decode cJ9_floorMod_f86c9 27 = .ok (.lreturn, 1) := by decide +kernel
theorem dX7_isTooGreat_0 : decode cX7_isTooGreat 0 = .ok (.lload_n 0, 1) := by decide +kernel
theorem dX7_isTooGreat_1 : decode cX7_isTooGreat 1 = .ok (.ldc2_w 9, 3) := by decide +kernel
theorem dX7_isTooGreat_4 : decode cX7_isTooGreat 4 = .ok (.lcmp, 1) := by decide +kernel
theorem dX7_isTooGreat_5 : decode cX7_isTooGreat 5 = .ok (.ifCond .gt 11, 3) := by decide +kernel
theorem dX7_isTooGreat_8 : decode cX7_isTooGreat 8 = .ok (.lload_n 0, 1) := by decide +kernel
theorem dX7_isTooGreat_9 : decode cX7_isTooGreat 9 = .ok (.ldc2_w 11, 3) := by decide +kernel
theorem dX7_isTooGreat_12 : decode cX7_isTooGreat 12 = .ok (.lcmp, 1) := by decide +kernel
theorem dX7_isTooGreat_13 : decode cX7_isTooGreat 13 = .ok (.ifCond .ge 7, 3) := by decide +kernel
theorem dX7_isTooGreat_16 : decode cX7_isTooGreat 16 = .ok (.iconst 1, 1) := by decide +kernel
theorem dX7_isTooGreat_17 : decode cX7_isTooGreat 17 = .ok (.goto 4, 3) := by decide +kernel
theorem dX7_isTooGreat_20 : decode cX7_isTooGreat 20 = .ok (.iconst 0, 1) := by decide +kernel
theorem dX7_isTooGreat_21 : decode cX7_isTooGreat 21 = .ok (.ireturn, 1) := by decide +kernel
set_option maxRecDepth 20000 in
theorem ggX7_ofOne_J9_floorDiv_f86c9 : GoodIn wsX7_ofOne wsJ9_floorDiv_f86c9 := goodIn_r _ [9] (by decide +kernel) (by decide +kernel)
set_option maxRecDepth 20000 in
theorem gX7_ofOne_J9_floorDiv_f86c9 : GoodIn wsX7_ofOne (va_wsS RX7 21 yJ9_floorDiv_f86c9 wsJ9_floorDiv_f86c9) := goodIn_app (goodIn_of _ (by decide +kernel)) ggX7_ofOne_J9_floorDiv_f86c9
set_option maxRecDepth 20000 in
theorem ggX7_ofOne_X7_root : GoodIn wsX7_ofOne wsX7_root := goodIn_r _ [13, 14, 5, 15] (by decide +kernel) (by decide +kernel)
set_option maxRecDepth 20000 in
theorem gX7_ofOne_X7_root : GoodIn wsX7_ofOne (va_wsS RX7 25 yX7_root wsX7_root) := goodIn_app (goodIn_of _ (by decide +kernel)) ggX7_ofOne_X7_root
theorem dX7_ofOne_0 : decode cX7_ofOne 0 = .ok (.iload_n 0, 1) := by decide +kernel
theorem dX7_ofOne_1 : decode cX7_ofOne 1 = .ok (.tableswitch 67 305 308 #[31, 36, 48, 62], 31) := by decide +kernel
theorem dX7_ofOne_32 : decode cX7_ofOne 32 = .ok (.lload_n 1, 1) := by decide +kernel
theorem dX7_ofOne_33 : decode cX7_ofOne 33 = .ok (.invokestatic 13, 3) := by decide +kernel
theorem dX7_ofOne_36 : decode cX7_ofOne 36 = .ok (.lreturn, 1) := by decide +kernel
theorem dX7_ofOne_37 : decode cX7_ofOne 37 = .ok (.lload_n 1, 1) := by decide +kernel
theorem dX7_ofOne_38 : decode cX7_ofOne 38 = .ok (.ldc2_w 19, 3) := by decide +kernel
theorem dX7_ofOne_41 : decode cX7_ofOne 41 = .ok (.invokestatic 21, 3) := by decide +kernel
theorem dX7_ofOne_44 : decode cX7_ofOne 44 = .ok (.ldc2_w 19, 3) := by decide +kernel
theorem dX7_ofOne_47 : decode cX7_ofOne 47 = .ok (.lmul, 1) := by decide +kernel
theorem dX7_ofOne_48 : decode cX7_ofOne 48 = .ok (.lreturn, 1) := by decide +kernel
theorem dX7_ofOne_49 : decode cX7_ofOne 49 = .ok (.lload_n 1, 1) := by decide +kernel
theorem dX7_ofOne_50 : decode cX7_ofOne 50 = .ok (.lneg, 1) := by decide +kernel
theorem dX7_ofOne_51 : decode cX7_ofOne 51 = .ok (.ldc2_w 19, 3) := by decide +kernel
theorem dX7_ofOne_54 : decode cX7_ofOne 54 = .ok (.invokestatic 21, 3) := by decide +kernel
theorem dX7_ofOne_57 : decode cX7_ofOne 57 = .ok (.ldc2_w 19, 3) := by decide +kernel
theorem dX7_ofOne_60 : decode cX7_ofOne 60 = .ok (.lmul, 1) := by decide +kernel
theorem dX7_ofOne_61 : decode cX7_ofOne 61 = .ok (.lneg, 1) := by decide +kernel
theorem dX7_ofOne_62 : decode cX7_ofOne 62 = .ok (.lreturn, 1) := by decide +kernel
theorem dX7_ofOne_63 : decode cX7_ofOne 63 = .ok (.lload_n 1, 1) := by decide +kernel
theorem dX7_ofOne_64 : decode cX7_ofOne 64 = .ok (.invokestatic 25, 3) := by decide +kernel
theorem dX7_ofOne_67 : decode cX7_ofOne 67 = .ok (.lreturn, 1) := by decide +kernel
theorem dX7_ofOne_68 : decode cX7_ofOne 68 = .ok (.lload_n 1, 1) := by decide +kernel
theorem dX7_ofOne_69 : decode cX7_ofOne 69 = .ok (.lneg, 1) := by decide +kernel
theorem dX7_ofOne_70 : decode cX7_ofOne 70 = .ok (.lreturn, 1) := by decide +kernel
set_option maxRecDepth 20000 in
theorem ggX7_ofTwo_X7_product : GoodIn wsX7_ofTwo wsX7_product := goodIn_r _ [5, 6, 7, 8, 9, 10, 11, 1] (by decide +kernel) (by decide +kernel)
set_option maxRecDepth 20000 in
theorem gX7_ofTwo_X7_product : GoodIn wsX7_ofTwo (va_wsS RX7 28 yX7_product wsX7_product) := goodIn_app (goodIn_of _ (by decide +kernel)) ggX7_ofTwo_X7_product
set_option maxRecDepth 20000 in
theorem ggX7_ofTwo_J9_floorMod_f86c9 : GoodIn wsX7_ofTwo wsJ9_floorMod_f86c9 := goodIn_r _ [15] (by decide +kernel) (by decide +kernel)
set_option maxRecDepth 20000 in
theorem gX7_ofTwo_J9_floorMod_f86c9 : GoodIn wsX7_ofTwo (va_wsS RX7 31 yJ9_floorMod_f86c9 wsJ9_floorMod_f86c9) := goodIn_app (goodIn_of _ (by decide +kernel)) ggX7_ofTwo_J9_floorMod_f86c9
set_option maxRecDepth 20000 in
theorem ggX7_ofTwo_X7_holds : GoodIn wsX7_ofTwo wsX7_holds := goodIn_r _ [18] (by decide +kernel) (by decide +kernel)
set_option maxRecDepth 20000 in
theorem gX7_ofTwo_X7_holds : GoodIn wsX7_ofTwo (va_wsS RX7 34 yX7_holds wsX7_holds) := goodIn_app (goodIn_of _ (by decide +kernel)) ggX7_ofTwo_X7_holds
theorem dX7_ofTwo_0 : decode cX7_ofTwo 0 = .ok (.iload_n 0, 1) := by decide +kernel
theorem dX7_ofTwo_1 : decode cX7_ofTwo 1 = .ok (.lookupswitch 99 #[(42, 59), (43, 51), (45, 55), (47, 65), (309, 83)], 51) := by decide +kernel
theorem dX7_ofTwo_52 : decode cX7_ofTwo 52 = .ok (.lload_n 1, 1) := by decide +kernel
theorem dX7_ofTwo_53 : decode cX7_ofTwo 53 = .ok (.lload_n 3, 1) := by decide +kernel
theorem dX7_ofTwo_54 : decode cX7_ofTwo 54 = .ok (.ladd, 1) := by decide +kernel
theorem dX7_ofTwo_55 : decode cX7_ofTwo 55 = .ok (.lreturn, 1) := by decide +kernel
theorem dX7_ofTwo_56 : decode cX7_ofTwo 56 = .ok (.lload_n 1, 1) := by decide +kernel
theorem dX7_ofTwo_57 : decode cX7_ofTwo 57 = .ok (.lload_n 3, 1) := by decide +kernel
theorem dX7_ofTwo_58 : decode cX7_ofTwo 58 = .ok (.lsub, 1) := by decide +kernel
theorem dX7_ofTwo_59 : decode cX7_ofTwo 59 = .ok (.lreturn, 1) := by decide +kernel
theorem dX7_ofTwo_60 : decode cX7_ofTwo 60 = .ok (.lload_n 1, 1) := by decide +kernel
theorem dX7_ofTwo_61 : decode cX7_ofTwo 61 = .ok (.lload_n 3, 1) := by decide +kernel
theorem dX7_ofTwo_62 : decode cX7_ofTwo 62 = .ok (.invokestatic 28, 3) := by decide +kernel
theorem dX7_ofTwo_65 : decode cX7_ofTwo 65 = .ok (.lreturn, 1) := by decide +kernel
theorem dX7_ofTwo_66 : decode cX7_ofTwo 66 = .ok (.lload_n 3, 1) := by decide +kernel
theorem dX7_ofTwo_67 : decode cX7_ofTwo 67 = .ok (.lconst 0, 1) := by decide +kernel
theorem dX7_ofTwo_68 : decode cX7_ofTwo 68 = .ok (.lcmp, 1) := by decide +kernel
theorem dX7_ofTwo_69 : decode cX7_ofTwo 69 = .ok (.ifCond .ne 7, 3) := by decide +kernel
theorem dX7_ofTwo_72 : decode cX7_ofTwo 72 = .ok (.lconst 0, 1) := by decide +kernel
theorem dX7_ofTwo_73 : decode cX7_ofTwo 73 = .ok (.goto 10, 3) := by decide +kernel
theorem dX7_ofTwo_76 : decode cX7_ofTwo 76 = .ok (.lload_n 1, 1) := by decide +kernel
theorem dX7_ofTwo_77 : decode cX7_ofTwo 77 = .ok (.ldc2_w 19, 3) := by decide +kernel
theorem dX7_ofTwo_80 : decode cX7_ofTwo 80 = .ok (.lmul, 1) := by decide +kernel
theorem dX7_ofTwo_81 : decode cX7_ofTwo 81 = .ok (.lload_n 3, 1) := by decide +kernel
theorem dX7_ofTwo_82 : decode cX7_ofTwo 82 = .ok (.ldiv, 1) := by decide +kernel
theorem dX7_ofTwo_83 : decode cX7_ofTwo 83 = .ok (.lreturn, 1) := by decide +kernel
theorem dX7_ofTwo_84 : decode cX7_ofTwo 84 = .ok (.lload_n 3, 1) := by decide +kernel
theorem dX7_ofTwo_85 : decode cX7_ofTwo 85 = .ok (.lconst 0, 1) := by decide +kernel
theorem dX7_ofTwo_86 : decode cX7_ofTwo 86 = .ok (.lcmp, 1) := by decide +kernel
theorem dX7_ofTwo_87 : decode cX7_ofTwo 87 = .ok (.ifCond .ne 7, 3) := by decide +kernel
theorem dX7_ofTwo_90 : decode cX7_ofTwo 90 = .ok (.lconst 0, 1) := by decide +kernel
theorem dX7_ofTwo_91 : decode cX7_ofTwo 91 = .ok (.goto 8, 3) := by decide +kernel
theorem dX7_ofTwo_94 : decode cX7_ofTwo 94 = .ok (.lload_n 1, 1) := by decide +kernel
theorem dX7_ofTwo_95 : decode cX7_ofTwo 95 = .ok (.lload_n 3, 1) := by decide +kernel
theorem dX7_ofTwo_96 : decode cX7_ofTwo 96 = .ok (.invokestatic 31, 3) := by decide +kernel
theorem dX7_ofTwo_99 : decode cX7_ofTwo 99 = .ok (.lreturn, 1) := by decide +kernel
theorem dX7_ofTwo_100 : decode cX7_ofTwo 100 = .ok (.iload_n 0, 1) := by decide +kernel
theorem dX7_ofTwo_101 : decode cX7_ofTwo 101 = .ok (.lload_n 1, 1) := by decide +kernel
theorem dX7_ofTwo_102 : decode cX7_ofTwo 102 = .ok (.lload_n 3, 1) := by decide +kernel
theorem dX7_ofTwo_103 : decode cX7_ofTwo 103 = .ok (.invokestatic 34, 3) := by decide +kernel
theorem dX7_ofTwo_106 : decode cX7_ofTwo 106 = .ok (.ifCond .eq 9, 3) := by decide +kernel
theorem dX7_ofTwo_109 : decode cX7_ofTwo 109 = .ok (.ldc2_w 19, 3) := by decide +kernel
theorem dX7_ofTwo_112 : decode cX7_ofTwo 112 = .ok (.goto 4, 3) := by decide +kernel
theorem dX7_ofTwo_115 : decode cX7_ofTwo 115 = .ok (.lconst 0, 1) := by decide +kernel
theorem dX7_ofTwo_116 : decode cX7_ofTwo 116 = .ok (.lreturn, 1) := by decide +kernel
theorem dX7_product_0 : decode cX7_product 0 = .ok (.lload_n 0, 1) := by decide +kernel
theorem dX7_product_1 : decode cX7_product 1 = .ok (.invokestatic 13, 3) := by decide +kernel
theorem dX7_product_4 : decode cX7_product 4 = .ok (.lstore 4, 2) := by decide +kernel
theorem dX7_product_6 : decode cX7_product 6 = .ok (.lload 4, 2) := by decide +kernel
theorem dX7_product_8 : decode cX7_product 8 = .ok (.lconst 0, 1) := by decide +kernel
theorem dX7_product_9 : decode cX7_product 9 = .ok (.lcmp, 1) := by decide +kernel
theorem dX7_product_10 : decode cX7_product 10 = .ok (.ifCond .eq 21, 3) := by decide +kernel
theorem dX7_product_13 : decode cX7_product 13 = .ok (.lload_n 2, 1) := by decide +kernel
theorem dX7_product_14 : decode cX7_product 14 = .ok (.invokestatic 13, 3) := by decide +kernel
theorem dX7_product_17 : decode cX7_product 17 = .ok (.ldc2_w 38, 3) := by decide +kernel
theorem dX7_product_20 : decode cX7_product 20 = .ok (.lload 4, 2) := by decide +kernel
theorem dX7_product_22 : decode cX7_product 22 = .ok (.ldiv, 1) := by decide +kernel
theorem dX7_product_23 : decode cX7_product 23 = .ok (.lcmp, 1) := by decide +kernel
theorem dX7_product_24 : decode cX7_product 24 = .ok (.ifCond .le 7, 3) := by decide +kernel
theorem dX7_product_27 : decode cX7_product 27 = .ok (.ldc2_w 40, 3) := by decide +kernel
theorem dX7_product_30 : decode cX7_product 30 = .ok (.lreturn, 1) := by decide +kernel
theorem dX7_product_31 : decode cX7_product 31 = .ok (.lload_n 0, 1) := by decide +kernel
theorem dX7_product_32 : decode cX7_product 32 = .ok (.lload_n 2, 1) := by decide +kernel
theorem dX7_product_33 : decode cX7_product 33 = .ok (.lmul, 1) := by decide +kernel
theorem dX7_product_34 : decode cX7_product 34 = .ok (.ldc2_w 19, 3) := by decide +kernel
theorem dX7_product_37 : decode cX7_product 37 = .ok (.ldiv, 1) := by decide +kernel
theorem dX7_product_38 : decode cX7_product 38 = .ok (.lreturn, 1) := by decide +kernel
theorem dX7_holds_0 : decode cX7_holds 0 = .ok (.iload_n 0, 1) := by decide +kernel
theorem dX7_holds_1 : decode cX7_holds 1 = .ok (.tableswitch 174 310 317 #[47, 65, 83, 114, 126, 138, 150, 162], 47) := by decide +kernel
theorem dX7_holds_48 : decode cX7_holds 48 = .ok (.lload_n 1, 1) := by decide +kernel
theorem dX7_holds_49 : decode cX7_holds 49 = .ok (.lconst 0, 1) := by decide +kernel
theorem dX7_holds_50 : decode cX7_holds 50 = .ok (.lcmp, 1) := by decide +kernel
theorem dX7_holds_51 : decode cX7_holds 51 = .ok (.ifCond .eq 13, 3) := by decide +kernel
theorem dX7_holds_54 : decode cX7_holds 54 = .ok (.lload_n 3, 1) := by decide +kernel
theorem dX7_holds_55 : decode cX7_holds 55 = .ok (.lconst 0, 1) := by decide +kernel
theorem dX7_holds_56 : decode cX7_holds 56 = .ok (.lcmp, 1) := by decide +kernel
theorem dX7_holds_57 : decode cX7_holds 57 = .ok (.ifCond .eq 7, 3) := by decide +kernel
theorem dX7_holds_60 : decode cX7_holds 60 = .ok (.iconst 1, 1) := by decide +kernel
theorem dX7_holds_61 : decode cX7_holds 61 = .ok (.goto 4, 3) := by decide +kernel
theorem dX7_holds_64 : decode cX7_holds 64 = .ok (.iconst 0, 1) := by decide +kernel
theorem dX7_holds_65 : decode cX7_holds 65 = .ok (.ireturn, 1) := by decide +kernel
theorem dX7_holds_66 : decode cX7_holds 66 = .ok (.lload_n 1, 1) := by decide +kernel
theorem dX7_holds_67 : decode cX7_holds 67 = .ok (.lconst 0, 1) := by decide +kernel
theorem dX7_holds_68 : decode cX7_holds 68 = .ok (.lcmp, 1) := by decide +kernel
theorem dX7_holds_69 : decode cX7_holds 69 = .ok (.ifCond .ne 9, 3) := by decide +kernel
theorem dX7_holds_72 : decode cX7_holds 72 = .ok (.lload_n 3, 1) := by decide +kernel
theorem dX7_holds_73 : decode cX7_holds 73 = .ok (.lconst 0, 1) := by decide +kernel
theorem dX7_holds_74 : decode cX7_holds 74 = .ok (.lcmp, 1) := by decide +kernel
theorem dX7_holds_75 : decode cX7_holds 75 = .ok (.ifCond .eq 7, 3) := by decide +kernel
theorem dX7_holds_78 : decode cX7_holds 78 = .ok (.iconst 1, 1) := by decide +kernel
theorem dX7_holds_79 : decode cX7_holds 79 = .ok (.goto 4, 3) := by decide +kernel
theorem dX7_holds_82 : decode cX7_holds 82 = .ok (.iconst 0, 1) := by decide +kernel
theorem dX7_holds_83 : decode cX7_holds 83 = .ok (.ireturn, 1) := by decide +kernel
theorem dX7_holds_84 : decode cX7_holds 84 = .ok (.lload_n 1, 1) := by decide +kernel
theorem dX7_holds_85 : decode cX7_holds 85 = .ok (.lconst 0, 1) := by decide +kernel
theorem dX7_holds_86 : decode cX7_holds 86 = .ok (.lcmp, 1) := by decide +kernel
theorem dX7_holds_87 : decode cX7_holds 87 = .ok (.ifCond .eq 7, 3) := by decide +kernel
theorem dX7_holds_90 : decode cX7_holds 90 = .ok (.iconst 1, 1) := by decide +kernel
theorem dX7_holds_91 : decode cX7_holds 91 = .ok (.goto 4, 3) := by decide +kernel
theorem dX7_holds_94 : decode cX7_holds 94 = .ok (.iconst 0, 1) := by decide +kernel
theorem dX7_holds_95 : decode cX7_holds 95 = .ok (.lload_n 3, 1) := by decide +kernel
theorem dX7_holds_96 : decode cX7_holds 96 = .ok (.lconst 0, 1) := by decide +kernel
theorem dX7_holds_97 : decode cX7_holds 97 = .ok (.lcmp, 1) := by decide +kernel
theorem dX7_holds_98 : decode cX7_holds 98 = .ok (.ifCond .eq 7, 3) := by decide +kernel
theorem dX7_holds_101 : decode cX7_holds 101 = .ok (.iconst 1, 1) := by decide +kernel
theorem dX7_holds_102 : decode cX7_holds 102 = .ok (.goto 4, 3) := by decide +kernel
theorem dX7_holds_105 : decode cX7_holds 105 = .ok (.iconst 0, 1) := by decide +kernel
theorem dX7_holds_106 : decode cX7_holds 106 = .ok (.if_icmp .eq 7, 3) := by decide +kernel
theorem dX7_holds_109 : decode cX7_holds 109 = .ok (.iconst 1, 1) := by decide +kernel
theorem dX7_holds_110 : decode cX7_holds 110 = .ok (.goto 4, 3) := by decide +kernel
theorem dX7_holds_113 : decode cX7_holds 113 = .ok (.iconst 0, 1) := by decide +kernel
theorem dX7_holds_114 : decode cX7_holds 114 = .ok (.ireturn, 1) := by decide +kernel
theorem dX7_holds_115 : decode cX7_holds 115 = .ok (.lload_n 1, 1) := by decide +kernel
theorem dX7_holds_116 : decode cX7_holds 116 = .ok (.lload_n 3, 1) := by decide +kernel
theorem dX7_holds_117 : decode cX7_holds 117 = .ok (.lcmp, 1) := by decide +kernel
theorem dX7_holds_118 : decode cX7_holds 118 = .ok (.ifCond .ne 7, 3) := by decide +kernel
theorem dX7_holds_121 : decode cX7_holds 121 = .ok (.iconst 1, 1) := by decide +kernel
theorem dX7_holds_122 : decode cX7_holds 122 = .ok (.goto 4, 3) := by decide +kernel
theorem dX7_holds_125 : decode cX7_holds 125 = .ok (.iconst 0, 1) := by decide +kernel
theorem dX7_holds_126 : decode cX7_holds 126 = .ok (.ireturn, 1) := by decide +kernel
theorem dX7_holds_127 : decode cX7_holds 127 = .ok (.lload_n 1, 1) := by decide +kernel
theorem dX7_holds_128 : decode cX7_holds 128 = .ok (.lload_n 3, 1) := by decide +kernel
theorem dX7_holds_129 : decode cX7_holds 129 = .ok (.lcmp, 1) := by decide +kernel
theorem dX7_holds_130 : decode cX7_holds 130 = .ok (.ifCond .eq 7, 3) := by decide +kernel
theorem dX7_holds_133 : decode cX7_holds 133 = .ok (.iconst 1, 1) := by decide +kernel
theorem dX7_holds_134 : decode cX7_holds 134 = .ok (.goto 4, 3) := by decide +kernel
theorem dX7_holds_137 : decode cX7_holds 137 = .ok (.iconst 0, 1) := by decide +kernel
theorem dX7_holds_138 : decode cX7_holds 138 = .ok (.ireturn, 1) := by decide +kernel
theorem dX7_holds_139 : decode cX7_holds 139 = .ok (.lload_n 1, 1) := by decide +kernel
theorem dX7_holds_140 : decode cX7_holds 140 = .ok (.lload_n 3, 1) := by decide +kernel
theorem dX7_holds_141 : decode cX7_holds 141 = .ok (.lcmp, 1) := by decide +kernel
theorem dX7_holds_142 : decode cX7_holds 142 = .ok (.ifCond .ge 7, 3) := by decide +kernel
theorem dX7_holds_145 : decode cX7_holds 145 = .ok (.iconst 1, 1) := by decide +kernel
theorem dX7_holds_146 : decode cX7_holds 146 = .ok (.goto 4, 3) := by decide +kernel
theorem dX7_holds_149 : decode cX7_holds 149 = .ok (.iconst 0, 1) := by decide +kernel
theorem dX7_holds_150 : decode cX7_holds 150 = .ok (.ireturn, 1) := by decide +kernel
theorem dX7_holds_151 : decode cX7_holds 151 = .ok (.lload_n 1, 1) := by decide +kernel
theorem dX7_holds_152 : decode cX7_holds 152 = .ok (.lload_n 3, 1) := by decide +kernel
theorem dX7_holds_153 : decode cX7_holds 153 = .ok (.lcmp, 1) := by decide +kernel
theorem dX7_holds_154 : decode cX7_holds 154 = .ok (.ifCond .gt 7, 3) := by decide +kernel
theorem dX7_holds_157 : decode cX7_holds 157 = .ok (.iconst 1, 1) := by decide +kernel
theorem dX7_holds_158 : decode cX7_holds 158 = .ok (.goto 4, 3) := by decide +kernel
theorem dX7_holds_161 : decode cX7_holds 161 = .ok (.iconst 0, 1) := by decide +kernel
theorem dX7_holds_162 : decode cX7_holds 162 = .ok (.ireturn, 1) := by decide +kernel
theorem dX7_holds_163 : decode cX7_holds 163 = .ok (.lload_n 1, 1) := by decide +kernel
theorem dX7_holds_164 : decode cX7_holds 164 = .ok (.lload_n 3, 1) := by decide +kernel
theorem dX7_holds_165 : decode cX7_holds 165 = .ok (.lcmp, 1) := by decide +kernel
theorem dX7_holds_166 : decode cX7_holds 166 = .ok (.ifCond .le 7, 3) := by decide +kernel
theorem dX7_holds_169 : decode cX7_holds 169 = .ok (.iconst 1, 1) := by decide +kernel
theorem dX7_holds_170 : decode cX7_holds 170 = .ok (.goto 4, 3) := by decide +kernel
theorem dX7_holds_173 : decode cX7_holds 173 = .ok (.iconst 0, 1) := by decide +kernel
theorem dX7_holds_174 : decode cX7_holds 174 = .ok (.ireturn, 1) := by decide +kernel
theorem dX7_holds_175 : decode cX7_holds 175 = .ok (.lload_n 1, 1) := by decide +kernel
theorem dX7_holds_176 : decode cX7_holds 176 = .ok (.lload_n 3, 1) := by decide +kernel
theorem dX7_holds_177 : decode cX7_holds 177 = .ok (.lcmp, 1) := by decide +kernel
theorem dX7_holds_178 : decode cX7_holds 178 = .ok (.ifCond .lt 7, 3) := by decide +kernel
theorem dX7_holds_181 : decode cX7_holds 181 = .ok (.iconst 1, 1) := by decide +kernel
theorem dX7_holds_182 : decode cX7_holds 182 = .ok (.goto 4, 3) := by decide +kernel
theorem dX7_holds_185 : decode cX7_holds 185 = .ok (.iconst 0, 1) := by decide +kernel
theorem dX7_holds_186 : decode cX7_holds 186 = .ok (.ireturn, 1) := by decide +kernel
theorem dX7_root_0 : decode cX7_root 0 = .ok (.lconst 0, 1) := by decide +kernel
theorem dX7_root_1 : decode cX7_root 1 = .ok (.lstore_n 2, 1) := by decide +kernel
theorem dX7_root_2 : decode cX7_root 2 = .ok (.ldc2_w 42, 3) := by decide +kernel
theorem dX7_root_5 : decode cX7_root 5 = .ok (.lstore 4, 2) := by decide +kernel
theorem dX7_root_7 : decode cX7_root 7 = .ok (.lload 4, 2) := by decide +kernel
theorem dX7_root_9 : decode cX7_root 9 = .ok (.lconst 0, 1) := by decide +kernel
theorem dX7_root_10 : decode cX7_root 10 = .ok (.lcmp, 1) := by decide +kernel
theorem dX7_root_11 : decode cX7_root 11 = .ok (.ifCond .le 37, 3) := by decide +kernel
theorem dX7_root_14 : decode cX7_root 14 = .ok (.lload_n 2, 1) := by decide +kernel
theorem dX7_root_15 : decode cX7_root 15 = .ok (.lload 4, 2) := by decide +kernel
theorem dX7_root_17 : decode cX7_root 17 = .ok (.ladd, 1) := by decide +kernel
theorem dX7_root_18 : decode cX7_root 18 = .ok (.lstore 6, 2) := by decide +kernel
theorem dX7_root_20 : decode cX7_root 20 = .ok (.lload 6, 2) := by decide +kernel
theorem dX7_root_22 : decode cX7_root 22 = .ok (.lload 6, 2) := by decide +kernel
theorem dX7_root_24 : decode cX7_root 24 = .ok (.lmul, 1) := by decide +kernel
theorem dX7_root_25 : decode cX7_root 25 = .ok (.lload_n 0, 1) := by decide +kernel
theorem dX7_root_26 : decode cX7_root 26 = .ok (.ldc2_w 19, 3) := by decide +kernel
theorem dX7_root_29 : decode cX7_root 29 = .ok (.lmul, 1) := by decide +kernel
theorem dX7_root_30 : decode cX7_root 30 = .ok (.lcmp, 1) := by decide +kernel
theorem dX7_root_31 : decode cX7_root 31 = .ok (.ifCond .gt 6, 3) := by decide +kernel
theorem dX7_root_34 : decode cX7_root 34 = .ok (.lload 6, 2) := by decide +kernel
theorem dX7_root_36 : decode cX7_root 36 = .ok (.lstore_n 2, 1) := by decide +kernel
theorem dX7_root_37 : decode cX7_root 37 = .ok (.lload 4, 2) := by decide +kernel
theorem dX7_root_39 : decode cX7_root 39 = .ok (.ldc2_w 44, 3) := by decide +kernel
theorem dX7_root_42 : decode cX7_root 42 = .ok (.ldiv, 1) := by decide +kernel
theorem dX7_root_43 : decode cX7_root 43 = .ok (.lstore 4, 2) := by decide +kernel
theorem dX7_root_45 : decode cX7_root 45 = .ok (.goto (-38), 3) := by decide +kernel
theorem dX7_root_48 : decode cX7_root 48 = .ok (.lload_n 2, 1) := by decide +kernel
theorem dX7_root_49 : decode cX7_root 49 = .ok (.lreturn, 1) := by decide +kernel
theorem dX5_init_0 : decode cX5_init 0 = .ok (.aload_n 0, 1) := by decide +kernel
theorem dX5_init_1 : decode cX5_init 1 = .ok (.invokespecial 1, 3) := by decide +kernel
theorem dX5_init_4 : decode cX5_init 4 = .ok (.aload_n 0, 1) := by decide +kernel
theorem dX5_init_5 : decode cX5_init 5 = .ok (.iload_n 1, 1) := by decide +kernel
theorem dX5_init_6 : decode cX5_init 6 = .ok (.putfield 7, 3) := by decide +kernel
theorem dX5_init_9 : decode cX5_init 9 = .ok (.aload_n 0, 1) := by decide +kernel
theorem dX5_init_10 : decode cX5_init 10 = .ok (.bipush 64, 2) := by decide +kernel
theorem dX5_init_12 : decode cX5_init 12 = .ok (.newarray .int, 2) := by decide +kernel
theorem dX5_init_14 : decode cX5_init 14 = .ok (.putfield 13, 3) := by decide +kernel
theorem dX5_init_17 : decode cX5_init 17 = .ok (.aload_n 0, 1) := by decide +kernel
theorem dX5_init_18 : decode cX5_init 18 = .ok (.iconst 0, 1) := by decide +kernel
theorem dX5_init_19 : decode cX5_init 19 = .ok (.putfield 17, 3) := by decide +kernel
theorem dX5_init_22 : decode cX5_init 22 = .ok (.return_, 1) := by decide +kernel
theorem dX5_size_0 : decode cX5_size 0 = .ok (.aload_n 0, 1) := by decide +kernel
theorem dX5_size_1 : decode cX5_size 1 = .ok (.getfield 17, 3) := by decide +kernel
theorem dX5_size_4 : decode cX5_size 4 = .ok (.ireturn, 1) := by decide +kernel
set_option maxRecDepth 20000 in
theorem ggX5_add_J7_copyOf_59c91 : GoodIn wsX5_add wsJ7_copyOf_59c91 := goodIn_r _ [7, 8, 9, 10, 11, 12, 13, 14, 15, 16, 17, 18, 19, 20, 21, 22] (by decide +kernel) (by decide +kernel)
set_option maxRecDepth 20000 in
theorem gX5_add_J7_copyOf_59c91 : GoodIn wsX5_add (va_wsS RX5 20 yJ7_copyOf_59c91 wsJ7_copyOf_59c91) := goodIn_app (goodIn_of _ (by decide +kernel)) ggX5_add_J7_copyOf_59c91
theorem dX5_add_0 : decode cX5_add 0 = .ok (.aload_n 0, 1) := by decide +kernel
theorem dX5_add_1 : decode cX5_add 1 = .ok (.getfield 17, 3) := by decide +kernel
theorem dX5_add_4 : decode cX5_add 4 = .ok (.aload_n 0, 1) := by decide +kernel
theorem dX5_add_5 : decode cX5_add 5 = .ok (.getfield 7, 3) := by decide +kernel
theorem dX5_add_8 : decode cX5_add 8 = .ok (.if_icmp .lt 4, 3) := by decide +kernel
theorem dX5_add_11 : decode cX5_add 11 = .ok (.return_, 1) := by decide +kernel
theorem dX5_add_12 : decode cX5_add 12 = .ok (.aload_n 0, 1) := by decide +kernel
theorem dX5_add_13 : decode cX5_add 13 = .ok (.getfield 17, 3) := by decide +kernel
theorem dX5_add_16 : decode cX5_add 16 = .ok (.aload_n 0, 1) := by decide +kernel
theorem dX5_add_17 : decode cX5_add 17 = .ok (.getfield 13, 3) := by decide +kernel
theorem dX5_add_20 : decode cX5_add 20 = .ok (.arraylength, 1) := by decide +kernel
theorem dX5_add_21 : decode cX5_add 21 = .ok (.if_icmp .lt 21, 3) := by decide +kernel
theorem dX5_add_24 : decode cX5_add 24 = .ok (.aload_n 0, 1) := by decide +kernel
theorem dX5_add_25 : decode cX5_add 25 = .ok (.aload_n 0, 1) := by decide +kernel
theorem dX5_add_26 : decode cX5_add 26 = .ok (.getfield 13, 3) := by decide +kernel
theorem dX5_add_29 : decode cX5_add 29 = .ok (.aload_n 0, 1) := by decide +kernel
theorem dX5_add_30 : decode cX5_add 30 = .ok (.getfield 13, 3) := by decide +kernel
theorem dX5_add_33 : decode cX5_add 33 = .ok (.arraylength, 1) := by decide +kernel
theorem dX5_add_34 : decode cX5_add 34 = .ok (.iconst 2, 1) := by decide +kernel
theorem dX5_add_35 : decode cX5_add 35 = .ok (.imul, 1) := by decide +kernel
theorem dX5_add_36 : decode cX5_add 36 = .ok (.invokestatic 20, 3) := by decide +kernel
theorem dX5_add_39 : decode cX5_add 39 = .ok (.putfield 13, 3) := by decide +kernel
theorem dX5_add_42 : decode cX5_add 42 = .ok (.aload_n 0, 1) := by decide +kernel
theorem dX5_add_43 : decode cX5_add 43 = .ok (.getfield 17, 3) := by decide +kernel
theorem dX5_add_46 : decode cX5_add 46 = .ok (.ifCond .lt 35, 3) := by decide +kernel
theorem dX5_add_49 : decode cX5_add 49 = .ok (.aload_n 0, 1) := by decide +kernel
theorem dX5_add_50 : decode cX5_add 50 = .ok (.getfield 17, 3) := by decide +kernel
theorem dX5_add_53 : decode cX5_add 53 = .ok (.aload_n 0, 1) := by decide +kernel
theorem dX5_add_54 : decode cX5_add 54 = .ok (.getfield 13, 3) := by decide +kernel
theorem dX5_add_57 : decode cX5_add 57 = .ok (.arraylength, 1) := by decide +kernel
theorem dX5_add_58 : decode cX5_add 58 = .ok (.if_icmp .ge 23, 3) := by decide +kernel
theorem dX5_add_61 : decode cX5_add 61 = .ok (.aload_n 0, 1) := by decide +kernel
theorem dX5_add_62 : decode cX5_add 62 = .ok (.getfield 13, 3) := by decide +kernel
theorem dX5_add_65 : decode cX5_add 65 = .ok (.aload_n 0, 1) := by decide +kernel
theorem dX5_add_66 : decode cX5_add 66 = .ok (.getfield 17, 3) := by decide +kernel
theorem dX5_add_69 : decode cX5_add 69 = .ok (.iload_n 1, 1) := by decide +kernel
theorem dX5_add_70 : decode cX5_add 70 = .ok (.iastore, 1) := by decide +kernel
theorem dX5_add_71 : decode cX5_add 71 = .ok (.aload_n 0, 1) := by decide +kernel
theorem dX5_add_72 : decode cX5_add 72 = .ok (.dup, 1) := by decide +kernel
theorem dX5_add_73 : decode cX5_add 73 = .ok (.getfield 17, 3) := by decide +kernel
theorem dX5_add_76 : decode cX5_add 76 = .ok (.iconst 1, 1) := by decide +kernel
theorem dX5_add_77 : decode cX5_add 77 = .ok (.iadd, 1) := by decide +kernel
theorem dX5_add_78 : decode cX5_add 78 = .ok (.putfield 17, 3) := by decide +kernel
theorem dX5_add_81 : decode cX5_add 81 = .ok (.return_, 1) := by decide +kernel
theorem dX5_get_0 : decode cX5_get 0 = .ok (.iload_n 1, 1) := by decide +kernel
theorem dX5_get_1 : decode cX5_get 1 = .ok (.ifCond .lt 20, 3) := by decide +kernel
theorem dX5_get_4 : decode cX5_get 4 = .ok (.iload_n 1, 1) := by decide +kernel
theorem dX5_get_5 : decode cX5_get 5 = .ok (.aload_n 0, 1) := by decide +kernel
theorem dX5_get_6 : decode cX5_get 6 = .ok (.getfield 17, 3) := by decide +kernel
theorem dX5_get_9 : decode cX5_get 9 = .ok (.if_icmp .ge 12, 3) := by decide +kernel
theorem dX5_get_12 : decode cX5_get 12 = .ok (.iload_n 1, 1) := by decide +kernel
theorem dX5_get_13 : decode cX5_get 13 = .ok (.aload_n 0, 1) := by decide +kernel
theorem dX5_get_14 : decode cX5_get 14 = .ok (.getfield 13, 3) := by decide +kernel
theorem dX5_get_17 : decode cX5_get 17 = .ok (.arraylength, 1) := by decide +kernel
theorem dX5_get_18 : decode cX5_get 18 = .ok (.if_icmp .lt 5, 3) := by decide +kernel
theorem dX5_get_21 : decode cX5_get 21 = .ok (.iconst 0, 1) := by decide +kernel
theorem dX5_get_22 : decode cX5_get 22 = .ok (.ireturn, 1) := by decide +kernel
theorem dX5_get_23 : decode cX5_get 23 = .ok (.aload_n 0, 1) := by decide +kernel
theorem dX5_get_24 : decode cX5_get 24 = .ok (.getfield 13, 3) := by decide +kernel
theorem dX5_get_27 : decode cX5_get 27 = .ok (.iload_n 1, 1) := by decide +kernel
theorem dX5_get_28 : decode cX5_get 28 = .ok (.iaload, 1) := by decide +kernel
theorem dX5_get_29 : decode cX5_get 29 = .ok (.ireturn, 1) := by decide +kernel
theorem dX5_set_0 : decode cX5_set 0 = .ok (.iload_n 1, 1) := by decide +kernel
theorem dX5_set_1 : decode cX5_set 1 = .ok (.ifCond .lt 27, 3) := by decide +kernel
theorem dX5_set_4 : decode cX5_set 4 = .ok (.iload_n 1, 1) := by decide +kernel
theorem dX5_set_5 : decode cX5_set 5 = .ok (.aload_n 0, 1) := by decide +kernel
theorem dX5_set_6 : decode cX5_set 6 = .ok (.getfield 17, 3) := by decide +kernel
theorem dX5_set_9 : decode cX5_set 9 = .ok (.if_icmp .ge 19, 3) := by decide +kernel
theorem dX5_set_12 : decode cX5_set 12 = .ok (.iload_n 1, 1) := by decide +kernel
theorem dX5_set_13 : decode cX5_set 13 = .ok (.aload_n 0, 1) := by decide +kernel
theorem dX5_set_14 : decode cX5_set 14 = .ok (.getfield 13, 3) := by decide +kernel
theorem dX5_set_17 : decode cX5_set 17 = .ok (.arraylength, 1) := by decide +kernel
theorem dX5_set_18 : decode cX5_set 18 = .ok (.if_icmp .ge 10, 3) := by decide +kernel
theorem dX5_set_21 : decode cX5_set 21 = .ok (.aload_n 0, 1) := by decide +kernel
theorem dX5_set_22 : decode cX5_set 22 = .ok (.getfield 13, 3) := by decide +kernel
theorem dX5_set_25 : decode cX5_set 25 = .ok (.iload_n 1, 1) := by decide +kernel
theorem dX5_set_26 : decode cX5_set 26 = .ok (.iload_n 2, 1) := by decide +kernel
theorem dX5_set_27 : decode cX5_set 27 = .ok (.iastore, 1) := by decide +kernel
theorem dX5_set_28 : decode cX5_set 28 = .ok (.return_, 1) := by decide +kernel
theorem dX5_cut_0 : decode cX5_cut 0 = .ok (.iload_n 1, 1) := by decide +kernel
theorem dX5_cut_1 : decode cX5_cut 1 = .ok (.ifCond .lt 16, 3) := by decide +kernel
theorem dX5_cut_4 : decode cX5_cut 4 = .ok (.iload_n 1, 1) := by decide +kernel
theorem dX5_cut_5 : decode cX5_cut 5 = .ok (.aload_n 0, 1) := by decide +kernel
theorem dX5_cut_6 : decode cX5_cut 6 = .ok (.getfield 17, 3) := by decide +kernel
theorem dX5_cut_9 : decode cX5_cut 9 = .ok (.if_icmp .ge 8, 3) := by decide +kernel
theorem dX5_cut_12 : decode cX5_cut 12 = .ok (.aload_n 0, 1) := by decide +kernel
theorem dX5_cut_13 : decode cX5_cut 13 = .ok (.iload_n 1, 1) := by decide +kernel
theorem dX5_cut_14 : decode cX5_cut 14 = .ok (.putfield 17, 3) := by decide +kernel
theorem dX5_cut_17 : decode cX5_cut 17 = .ok (.return_, 1) := by decide +kernel
set_option maxRecDepth 20000 in
theorem ggX3_init_X5_init : GoodIn wsX3_init wsX5_init := goodIn_r _ [17, 18, 2, 3, 19, 20, 21, 22, 23, 24, 25] (by decide +kernel) (by decide +kernel)
set_option maxRecDepth 20000 in
theorem gX3_init_X5_init : GoodIn wsX3_init (wsX5_init) := ggX3_init_X5_init
theorem dX3_init_0 : decode cX3_init 0 = .ok (.aload_n 0, 1) := by decide +kernel
theorem dX3_init_1 : decode cX3_init 1 = .ok (.invokespecial 1, 3) := by decide +kernel
theorem dX3_init_4 : decode cX3_init 4 = .ok (.aload_n 0, 1) := by decide +kernel
theorem dX3_init_5 : decode cX3_init 5 = .ok (.new 7, 3) := by decide +kernel
theorem dX3_init_8 : decode cX3_init 8 = .ok (.dup, 1) := by decide +kernel
theorem dX3_init_9 : decode cX3_init 9 = .ok (.sipush 8000, 3) := by decide +kernel
theorem dX3_init_12 : decode cX3_init 12 = .ok (.invokespecial 11, 3) := by decide +kernel
theorem dX3_init_15 : decode cX3_init 15 = .ok (.putfield 14, 3) := by decide +kernel
theorem dX3_init_18 : decode cX3_init 18 = .ok (.aload_n 0, 1) := by decide +kernel
theorem dX3_init_19 : decode cX3_init 19 = .ok (.new 7, 3) := by decide +kernel
theorem dX3_init_22 : decode cX3_init 22 = .ok (.dup, 1) := by decide +kernel
theorem dX3_init_23 : decode cX3_init 23 = .ok (.sipush 8000, 3) := by decide +kernel
theorem dX3_init_26 : decode cX3_init 26 = .ok (.invokespecial 11, 3) := by decide +kernel
theorem dX3_init_29 : decode cX3_init 29 = .ok (.putfield 20, 3) := by decide +kernel
theorem dX3_init_32 : decode cX3_init 32 = .ok (.aload_n 0, 1) := by decide +kernel
theorem dX3_init_33 : decode cX3_init 33 = .ok (.new 7, 3) := by decide +kernel
theorem dX3_init_36 : decode cX3_init 36 = .ok (.dup, 1) := by decide +kernel
theorem dX3_init_37 : decode cX3_init 37 = .ok (.sipush 8000, 3) := by decide +kernel
theorem dX3_init_40 : decode cX3_init 40 = .ok (.invokespecial 11, 3) := by decide +kernel
theorem dX3_init_43 : decode cX3_init 43 = .ok (.putfield 23, 3) := by decide +kernel
theorem dX3_init_46 : decode cX3_init 46 = .ok (.aload_n 0, 1) := by decide +kernel
theorem dX3_init_47 : decode cX3_init 47 = .ok (.new 7, 3) := by decide +kernel
theorem dX3_init_50 : decode cX3_init 50 = .ok (.dup, 1) := by decide +kernel
theorem dX3_init_51 : decode cX3_init 51 = .ok (.sipush 8000, 3) := by decide +kernel
theorem dX3_init_54 : decode cX3_init 54 = .ok (.invokespecial 11, 3) := by decide +kernel
theorem dX3_init_57 : decode cX3_init 57 = .ok (.putfield 26, 3) := by decide +kernel
theorem dX3_init_60 : decode cX3_init 60 = .ok (.aload_n 0, 1) := by decide +kernel
theorem dX3_init_61 : decode cX3_init 61 = .ok (.new 7, 3) := by decide +kernel
theorem dX3_init_64 : decode cX3_init 64 = .ok (.dup, 1) := by decide +kernel
theorem dX3_init_65 : decode cX3_init 65 = .ok (.sipush 8000, 3) := by decide +kernel
theorem dX3_init_68 : decode cX3_init 68 = .ok (.invokespecial 11, 3) := by decide +kernel
theorem dX3_init_71 : decode cX3_init 71 = .ok (.putfield 29, 3) := by decide +kernel
theorem dX3_init_74 : decode cX3_init 74 = .ok (.aload_n 0, 1) := by decide +kernel
theorem dX3_init_75 : decode cX3_init 75 = .ok (.new 7, 3) := by decide +kernel
theorem dX3_init_78 : decode cX3_init 78 = .ok (.dup, 1) := by decide +kernel
theorem dX3_init_79 : decode cX3_init 79 = .ok (.sipush 8000, 3) := by decide +kernel
theorem dX3_init_82 : decode cX3_init 82 = .ok (.invokespecial 11, 3) := by decide +kernel
theorem dX3_init_85 : decode cX3_init 85 = .ok (.putfield 32, 3) := by decide +kernel
theorem dX3_init_88 : decode cX3_init 88 = .ok (.aload_n 0, 1) := by decide +kernel
theorem dX3_init_89 : decode cX3_init 89 = .ok (.new 7, 3) := by decide +kernel
theorem dX3_init_92 : decode cX3_init 92 = .ok (.dup, 1) := by decide +kernel
theorem dX3_init_93 : decode cX3_init 93 = .ok (.sipush 8000, 3) := by decide +kernel
theorem dX3_init_96 : decode cX3_init 96 = .ok (.invokespecial 11, 3) := by decide +kernel
theorem dX3_init_99 : decode cX3_init 99 = .ok (.putfield 35, 3) := by decide +kernel
theorem dX3_init_102 : decode cX3_init 102 = .ok (.aload_n 0, 1) := by decide +kernel
theorem dX3_init_103 : decode cX3_init 103 = .ok (.new 7, 3) := by decide +kernel
theorem dX3_init_106 : decode cX3_init 106 = .ok (.dup, 1) := by decide +kernel
theorem dX3_init_107 : decode cX3_init 107 = .ok (.sipush 8000, 3) := by decide +kernel
theorem dX3_init_110 : decode cX3_init 110 = .ok (.invokespecial 11, 3) := by decide +kernel
theorem dX3_init_113 : decode cX3_init 113 = .ok (.putfield 38, 3) := by decide +kernel
theorem dX3_init_116 : decode cX3_init 116 = .ok (.return_, 1) := by decide +kernel
set_option maxRecDepth 20000 in
theorem ggX3_clear_X5_cut : GoodIn wsX3_clear wsX5_cut := goodIn_r _ [13, 14, 23, 24, 25] (by decide +kernel) (by decide +kernel)
set_option maxRecDepth 20000 in
theorem gX3_clear_X5_cut : GoodIn wsX3_clear (wsV RX3 41 RX5 yX5_cut wsX5_cut) := goodIn_app (goodIn_of _ (by decide +kernel)) ggX3_clear_X5_cut
theorem dX3_clear_0 : decode cX3_clear 0 = .ok (.aload_n 0, 1) := by decide +kernel
theorem dX3_clear_1 : decode cX3_clear 1 = .ok (.getfield 14, 3) := by decide +kernel
theorem dX3_clear_4 : decode cX3_clear 4 = .ok (.iconst 0, 1) := by decide +kernel
theorem dX3_clear_5 : decode cX3_clear 5 = .ok (.invokevirtual 41, 3) := by decide +kernel
theorem dX3_clear_8 : decode cX3_clear 8 = .ok (.aload_n 0, 1) := by decide +kernel
theorem dX3_clear_9 : decode cX3_clear 9 = .ok (.getfield 20, 3) := by decide +kernel
theorem dX3_clear_12 : decode cX3_clear 12 = .ok (.iconst 0, 1) := by decide +kernel
theorem dX3_clear_13 : decode cX3_clear 13 = .ok (.invokevirtual 41, 3) := by decide +kernel
theorem dX3_clear_16 : decode cX3_clear 16 = .ok (.aload_n 0, 1) := by decide +kernel
theorem dX3_clear_17 : decode cX3_clear 17 = .ok (.getfield 23, 3) := by decide +kernel
theorem dX3_clear_20 : decode cX3_clear 20 = .ok (.iconst 0, 1) := by decide +kernel
theorem dX3_clear_21 : decode cX3_clear 21 = .ok (.invokevirtual 41, 3) := by decide +kernel
theorem dX3_clear_24 : decode cX3_clear 24 = .ok (.aload_n 0, 1) := by decide +kernel
theorem dX3_clear_25 : decode cX3_clear 25 = .ok (.getfield 26, 3) := by decide +kernel
theorem dX3_clear_28 : decode cX3_clear 28 = .ok (.iconst 0, 1) := by decide +kernel
theorem dX3_clear_29 : decode cX3_clear 29 = .ok (.invokevirtual 41, 3) := by decide +kernel
theorem dX3_clear_32 : decode cX3_clear 32 = .ok (.aload_n 0, 1) := by decide +kernel
theorem dX3_clear_33 : decode cX3_clear 33 = .ok (.getfield 29, 3) := by decide +kernel
theorem dX3_clear_36 : decode cX3_clear 36 = .ok (.iconst 0, 1) := by decide +kernel
theorem dX3_clear_37 : decode cX3_clear 37 = .ok (.invokevirtual 41, 3) := by decide +kernel
theorem dX3_clear_40 : decode cX3_clear 40 = .ok (.aload_n 0, 1) := by decide +kernel
theorem dX3_clear_41 : decode cX3_clear 41 = .ok (.getfield 32, 3) := by decide +kernel
theorem dX3_clear_44 : decode cX3_clear 44 = .ok (.iconst 0, 1) := by decide +kernel
theorem dX3_clear_45 : decode cX3_clear 45 = .ok (.invokevirtual 41, 3) := by decide +kernel
theorem dX3_clear_48 : decode cX3_clear 48 = .ok (.aload_n 0, 1) := by decide +kernel
theorem dX3_clear_49 : decode cX3_clear 49 = .ok (.getfield 35, 3) := by decide +kernel
theorem dX3_clear_52 : decode cX3_clear 52 = .ok (.iconst 0, 1) := by decide +kernel
theorem dX3_clear_53 : decode cX3_clear 53 = .ok (.invokevirtual 41, 3) := by decide +kernel
theorem dX3_clear_56 : decode cX3_clear 56 = .ok (.aload_n 0, 1) := by decide +kernel
theorem dX3_clear_57 : decode cX3_clear 57 = .ok (.getfield 38, 3) := by decide +kernel
theorem dX3_clear_60 : decode cX3_clear 60 = .ok (.iconst 0, 1) := by decide +kernel
theorem dX3_clear_61 : decode cX3_clear 61 = .ok (.invokevirtual 41, 3) := by decide +kernel
theorem dX3_clear_64 : decode cX3_clear 64 = .ok (.return_, 1) := by decide +kernel
set_option maxRecDepth 20000 in
theorem ggX3_size_X5_size : GoodIn wsX3_size wsX5_size := goodIn_r _ [6, 7, 16, 17, 18] (by decide +kernel) (by decide +kernel)
set_option maxRecDepth 20000 in
theorem gX3_size_X5_size : GoodIn wsX3_size (wsV RX3 44 RX5 yX5_size wsX5_size) := goodIn_app (goodIn_of _ (by decide +kernel)) ggX3_size_X5_size
theorem dX3_size_0 : decode cX3_size 0 = .ok (.aload_n 0, 1) := by decide +kernel
theorem dX3_size_1 : decode cX3_size 1 = .ok (.getfield 20, 3) := by decide +kernel
theorem dX3_size_4 : decode cX3_size 4 = .ok (.invokevirtual 44, 3) := by decide +kernel
theorem dX3_size_7 : decode cX3_size 7 = .ok (.ireturn, 1) := by decide +kernel
set_option maxRecDepth 20000 in
theorem ggX3_beginLine_X5_size : GoodIn wsX3_beginLine wsX5_size := goodIn_r _ [13, 14, 48, 49, 50] (by decide +kernel) (by decide +kernel)
set_option maxRecDepth 20000 in
theorem gX3_beginLine_X5_size : GoodIn wsX3_beginLine (wsV RX3 44 RX5 yX5_size wsX5_size) := goodIn_app (goodIn_of _ (by decide +kernel)) ggX3_beginLine_X5_size
set_option maxRecDepth 20000 in
theorem ggX3_beginLine_X5_add : GoodIn wsX3_beginLine wsX5_add := goodIn_r _ [18, 14, 19, 20, 21, 22, 23, 24, 25, 26, 27, 28, 29, 30, 31, 32, 33, 34, 35, 36, 37, 38, 39, 48, 49, 50] (by decide +kernel) (by decide +kernel)
set_option maxRecDepth 20000 in
theorem gX3_beginLine_X5_add : GoodIn wsX3_beginLine (wsV RX3 48 RX5 yX5_add wsX5_add) := goodIn_app (goodIn_of _ (by decide +kernel)) ggX3_beginLine_X5_add
theorem dX3_beginLine_0 : decode cX3_beginLine 0 = .ok (.aload_n 0, 1) := by decide +kernel
theorem dX3_beginLine_1 : decode cX3_beginLine 1 = .ok (.getfield 20, 3) := by decide +kernel
theorem dX3_beginLine_4 : decode cX3_beginLine 4 = .ok (.aload_n 0, 1) := by decide +kernel
theorem dX3_beginLine_5 : decode cX3_beginLine 5 = .ok (.getfield 14, 3) := by decide +kernel
theorem dX3_beginLine_8 : decode cX3_beginLine 8 = .ok (.invokevirtual 44, 3) := by decide +kernel
theorem dX3_beginLine_11 : decode cX3_beginLine 11 = .ok (.invokevirtual 48, 3) := by decide +kernel
theorem dX3_beginLine_14 : decode cX3_beginLine 14 = .ok (.aload_n 0, 1) := by decide +kernel
theorem dX3_beginLine_15 : decode cX3_beginLine 15 = .ok (.getfield 23, 3) := by decide +kernel
theorem dX3_beginLine_18 : decode cX3_beginLine 18 = .ok (.iconst 0, 1) := by decide +kernel
theorem dX3_beginLine_19 : decode cX3_beginLine 19 = .ok (.invokevirtual 48, 3) := by decide +kernel
theorem dX3_beginLine_22 : decode cX3_beginLine 22 = .ok (.aload_n 0, 1) := by decide +kernel
theorem dX3_beginLine_23 : decode cX3_beginLine 23 = .ok (.getfield 26, 3) := by decide +kernel
theorem dX3_beginLine_26 : decode cX3_beginLine 26 = .ok (.iconst (-1), 1) := by decide +kernel
theorem dX3_beginLine_27 : decode cX3_beginLine 27 = .ok (.invokevirtual 48, 3) := by decide +kernel
theorem dX3_beginLine_30 : decode cX3_beginLine 30 = .ok (.aload_n 0, 1) := by decide +kernel
theorem dX3_beginLine_31 : decode cX3_beginLine 31 = .ok (.getfield 29, 3) := by decide +kernel
theorem dX3_beginLine_34 : decode cX3_beginLine 34 = .ok (.iconst 0, 1) := by decide +kernel
theorem dX3_beginLine_35 : decode cX3_beginLine 35 = .ok (.invokevirtual 48, 3) := by decide +kernel
theorem dX3_beginLine_38 : decode cX3_beginLine 38 = .ok (.aload_n 0, 1) := by decide +kernel
theorem dX3_beginLine_39 : decode cX3_beginLine 39 = .ok (.getfield 32, 3) := by decide +kernel
theorem dX3_beginLine_42 : decode cX3_beginLine 42 = .ok (.iconst (-1), 1) := by decide +kernel
theorem dX3_beginLine_43 : decode cX3_beginLine 43 = .ok (.invokevirtual 48, 3) := by decide +kernel
theorem dX3_beginLine_46 : decode cX3_beginLine 46 = .ok (.aload_n 0, 1) := by decide +kernel
theorem dX3_beginLine_47 : decode cX3_beginLine 47 = .ok (.getfield 35, 3) := by decide +kernel
theorem dX3_beginLine_50 : decode cX3_beginLine 50 = .ok (.iconst 0, 1) := by decide +kernel
theorem dX3_beginLine_51 : decode cX3_beginLine 51 = .ok (.invokevirtual 48, 3) := by decide +kernel
theorem dX3_beginLine_54 : decode cX3_beginLine 54 = .ok (.aload_n 0, 1) := by decide +kernel
theorem dX3_beginLine_55 : decode cX3_beginLine 55 = .ok (.getfield 38, 3) := by decide +kernel
theorem dX3_beginLine_58 : decode cX3_beginLine 58 = .ok (.iconst 0, 1) := by decide +kernel
theorem dX3_beginLine_59 : decode cX3_beginLine 59 = .ok (.invokevirtual 48, 3) := by decide +kernel
theorem dX3_beginLine_62 : decode cX3_beginLine 62 = .ok (.return_, 1) := by decide +kernel
set_option maxRecDepth 20000 in
theorem ggX3_labelLine_X3_size : GoodIn wsX3_labelLine wsX3_size := goodIn_r _ [7, 8, 9, 10, 11, 12, 13, 14, 20, 21, 22, 23, 24, 25, 26, 27, 28, 29, 30] (by decide +kernel) (by decide +kernel)
set_option maxRecDepth 20000 in
theorem gX3_labelLine_X3_size : GoodIn wsX3_labelLine (wsV RX3 53 RX3 yX3_size wsX3_size) := goodIn_app (goodIn_of _ (by decide +kernel)) ggX3_labelLine_X3_size
set_option maxRecDepth 20000 in
theorem ggX3_labelLine_X5_set : GoodIn wsX3_labelLine wsX5_set := goodIn_r _ [18, 14, 19, 28, 29, 30] (by decide +kernel) (by decide +kernel)
set_option maxRecDepth 20000 in
theorem gX3_labelLine_X5_set : GoodIn wsX3_labelLine (wsV RX3 54 RX5 yX5_set wsX5_set) := goodIn_app (goodIn_of _ (by decide +kernel)) ggX3_labelLine_X5_set
theorem dX3_labelLine_0 : decode cX3_labelLine 0 = .ok (.aload_n 0, 1) := by decide +kernel
theorem dX3_labelLine_1 : decode cX3_labelLine 1 = .ok (.getfield 26, 3) := by decide +kernel
theorem dX3_labelLine_4 : decode cX3_labelLine 4 = .ok (.aload_n 0, 1) := by decide +kernel
theorem dX3_labelLine_5 : decode cX3_labelLine 5 = .ok (.invokevirtual 53, 3) := by decide +kernel
theorem dX3_labelLine_8 : decode cX3_labelLine 8 = .ok (.iconst 1, 1) := by decide +kernel
theorem dX3_labelLine_9 : decode cX3_labelLine 9 = .ok (.isub, 1) := by decide +kernel
theorem dX3_labelLine_10 : decode cX3_labelLine 10 = .ok (.iload_n 1, 1) := by decide +kernel
theorem dX3_labelLine_11 : decode cX3_labelLine 11 = .ok (.invokevirtual 54, 3) := by decide +kernel
theorem dX3_labelLine_14 : decode cX3_labelLine 14 = .ok (.aload_n 0, 1) := by decide +kernel
theorem dX3_labelLine_15 : decode cX3_labelLine 15 = .ok (.getfield 29, 3) := by decide +kernel
theorem dX3_labelLine_18 : decode cX3_labelLine 18 = .ok (.aload_n 0, 1) := by decide +kernel
theorem dX3_labelLine_19 : decode cX3_labelLine 19 = .ok (.invokevirtual 53, 3) := by decide +kernel
theorem dX3_labelLine_22 : decode cX3_labelLine 22 = .ok (.iconst 1, 1) := by decide +kernel
theorem dX3_labelLine_23 : decode cX3_labelLine 23 = .ok (.isub, 1) := by decide +kernel
theorem dX3_labelLine_24 : decode cX3_labelLine 24 = .ok (.iload_n 2, 1) := by decide +kernel
theorem dX3_labelLine_25 : decode cX3_labelLine 25 = .ok (.invokevirtual 54, 3) := by decide +kernel
theorem dX3_labelLine_28 : decode cX3_labelLine 28 = .ok (.return_, 1) := by decide +kernel
set_option maxRecDepth 20000 in
theorem ggX3_closeLine_X3_size : GoodIn wsX3_closeLine wsX3_size := goodIn_r _ [8, 9, 10, 11, 12, 13, 14, 15, 21, 22, 23, 24, 25, 26, 27, 28, 29, 30, 31] (by decide +kernel) (by decide +kernel)
set_option maxRecDepth 20000 in
theorem gX3_closeLine_X3_size : GoodIn wsX3_closeLine (wsV RX3 53 RX3 yX3_size wsX3_size) := goodIn_app (goodIn_of _ (by decide +kernel)) ggX3_closeLine_X3_size
set_option maxRecDepth 20000 in
theorem ggX3_closeLine_X5_set : GoodIn wsX3_closeLine wsX5_set := goodIn_r _ [19, 15, 20, 29, 30, 31] (by decide +kernel) (by decide +kernel)
set_option maxRecDepth 20000 in
theorem gX3_closeLine_X5_set : GoodIn wsX3_closeLine (wsV RX3 54 RX5 yX5_set wsX5_set) := goodIn_app (goodIn_of _ (by decide +kernel)) ggX3_closeLine_X5_set
theorem dX3_closeLine_0 : decode cX3_closeLine 0 = .ok (.aload_n 0, 1) := by decide +kernel
theorem dX3_closeLine_1 : decode cX3_closeLine 1 = .ok (.getfield 23, 3) := by decide +kernel
theorem dX3_closeLine_4 : decode cX3_closeLine 4 = .ok (.aload_n 0, 1) := by decide +kernel
theorem dX3_closeLine_5 : decode cX3_closeLine 5 = .ok (.invokevirtual 53, 3) := by decide +kernel
theorem dX3_closeLine_8 : decode cX3_closeLine 8 = .ok (.iconst 1, 1) := by decide +kernel
theorem dX3_closeLine_9 : decode cX3_closeLine 9 = .ok (.isub, 1) := by decide +kernel
theorem dX3_closeLine_10 : decode cX3_closeLine 10 = .ok (.iload_n 1, 1) := by decide +kernel
theorem dX3_closeLine_11 : decode cX3_closeLine 11 = .ok (.invokevirtual 54, 3) := by decide +kernel
theorem dX3_closeLine_14 : decode cX3_closeLine 14 = .ok (.aload_n 0, 1) := by decide +kernel
theorem dX3_closeLine_15 : decode cX3_closeLine 15 = .ok (.getfield 32, 3) := by decide +kernel
theorem dX3_closeLine_18 : decode cX3_closeLine 18 = .ok (.aload_n 0, 1) := by decide +kernel
theorem dX3_closeLine_19 : decode cX3_closeLine 19 = .ok (.invokevirtual 53, 3) := by decide +kernel
theorem dX3_closeLine_22 : decode cX3_closeLine 22 = .ok (.iconst 1, 1) := by decide +kernel
theorem dX3_closeLine_23 : decode cX3_closeLine 23 = .ok (.isub, 1) := by decide +kernel
theorem dX3_closeLine_24 : decode cX3_closeLine 24 = .ok (.iload_n 2, 1) := by decide +kernel
theorem dX3_closeLine_25 : decode cX3_closeLine 25 = .ok (.invokevirtual 54, 3) := by decide +kernel
theorem dX3_closeLine_28 : decode cX3_closeLine 28 = .ok (.aload_n 0, 1) := by decide +kernel
theorem dX3_closeLine_29 : decode cX3_closeLine 29 = .ok (.getfield 35, 3) := by decide +kernel
theorem dX3_closeLine_32 : decode cX3_closeLine 32 = .ok (.aload_n 0, 1) := by decide +kernel
theorem dX3_closeLine_33 : decode cX3_closeLine 33 = .ok (.invokevirtual 53, 3) := by decide +kernel
theorem dX3_closeLine_36 : decode cX3_closeLine 36 = .ok (.iconst 1, 1) := by decide +kernel
theorem dX3_closeLine_37 : decode cX3_closeLine 37 = .ok (.isub, 1) := by decide +kernel
theorem dX3_closeLine_38 : decode cX3_closeLine 38 = .ok (.iload_n 3, 1) := by decide +kernel
theorem dX3_closeLine_39 : decode cX3_closeLine 39 = .ok (.invokevirtual 54, 3) := by decide +kernel
theorem dX3_closeLine_42 : decode cX3_closeLine 42 = .ok (.return_, 1) := by decide +kernel
set_option maxRecDepth 20000 in
theorem ggX3_codeStart_X3_size : GoodIn wsX3_codeStart wsX3_size := goodIn_r _ [7, 1, 8, 9, 10, 11, 12, 13, 19, 20, 21, 22, 23, 24, 25, 26, 27, 28, 29] (by decide +kernel) (by decide +kernel)
set_option maxRecDepth 20000 in
theorem gX3_codeStart_X3_size : GoodIn wsX3_codeStart (wsV RX3 53 RX3 yX3_size wsX3_size) := goodIn_app (goodIn_of _ (by decide +kernel)) ggX3_codeStart_X3_size
set_option maxRecDepth 20000 in
theorem ggX3_codeStart_X5_get : GoodIn wsX3_codeStart wsX5_get := goodIn_r _ [17, 13, 18, 27, 28, 29] (by decide +kernel) (by decide +kernel)
set_option maxRecDepth 20000 in
theorem gX3_codeStart_X5_get : GoodIn wsX3_codeStart (wsV RX3 58 RX5 yX5_get wsX5_get) := goodIn_app (goodIn_of _ (by decide +kernel)) ggX3_codeStart_X5_get
set_option maxRecDepth 20000 in
theorem ggX3_codeStart_X5_size : GoodIn wsX3_codeStart wsX5_size := goodIn_r _ [12, 13, 27, 28, 29] (by decide +kernel) (by decide +kernel)
set_option maxRecDepth 20000 in
theorem gX3_codeStart_X5_size : GoodIn wsX3_codeStart (wsV RX3 44 RX5 yX5_size wsX5_size) := goodIn_app (goodIn_of _ (by decide +kernel)) ggX3_codeStart_X5_size
theorem dX3_codeStart_0 : decode cX3_codeStart 0 = .ok (.iload_n 1, 1) := by decide +kernel
theorem dX3_codeStart_1 : decode cX3_codeStart 1 = .ok (.aload_n 0, 1) := by decide +kernel
theorem dX3_codeStart_2 : decode cX3_codeStart 2 = .ok (.invokevirtual 53, 3) := by decide +kernel
theorem dX3_codeStart_5 : decode cX3_codeStart 5 = .ok (.if_icmp .ge 14, 3) := by decide +kernel
theorem dX3_codeStart_8 : decode cX3_codeStart 8 = .ok (.aload_n 0, 1) := by decide +kernel
theorem dX3_codeStart_9 : decode cX3_codeStart 9 = .ok (.getfield 20, 3) := by decide +kernel
theorem dX3_codeStart_12 : decode cX3_codeStart 12 = .ok (.iload_n 1, 1) := by decide +kernel
theorem dX3_codeStart_13 : decode cX3_codeStart 13 = .ok (.invokevirtual 58, 3) := by decide +kernel
theorem dX3_codeStart_16 : decode cX3_codeStart 16 = .ok (.goto 10, 3) := by decide +kernel
theorem dX3_codeStart_19 : decode cX3_codeStart 19 = .ok (.aload_n 0, 1) := by decide +kernel
theorem dX3_codeStart_20 : decode cX3_codeStart 20 = .ok (.getfield 14, 3) := by decide +kernel
theorem dX3_codeStart_23 : decode cX3_codeStart 23 = .ok (.invokevirtual 44, 3) := by decide +kernel
theorem dX3_codeStart_26 : decode cX3_codeStart 26 = .ok (.ireturn, 1) := by decide +kernel
set_option maxRecDepth 20000 in
theorem ggX3_entry_X5_get : GoodIn wsX3_entry wsX5_get := goodIn_r _ [6, 7, 8, 17, 18, 19] (by decide +kernel) (by decide +kernel)
set_option maxRecDepth 20000 in
theorem gX3_entry_X5_get : GoodIn wsX3_entry (wsV RX3 58 RX5 yX5_get wsX5_get) := goodIn_app (goodIn_of _ (by decide +kernel)) ggX3_entry_X5_get
theorem dX3_entry_0 : decode cX3_entry 0 = .ok (.aload_n 0, 1) := by decide +kernel
theorem dX3_entry_1 : decode cX3_entry 1 = .ok (.getfield 14, 3) := by decide +kernel
theorem dX3_entry_4 : decode cX3_entry 4 = .ok (.iload_n 1, 1) := by decide +kernel
theorem dX3_entry_5 : decode cX3_entry 5 = .ok (.invokevirtual 58, 3) := by decide +kernel
theorem dX3_entry_8 : decode cX3_entry 8 = .ok (.ireturn, 1) := by decide +kernel
set_option maxRecDepth 20000 in
theorem ggX3_kindOf_X5_get : GoodIn wsX3_kindOf wsX5_get := goodIn_r _ [6, 7, 8, 17, 18, 19] (by decide +kernel) (by decide +kernel)
set_option maxRecDepth 20000 in
theorem gX3_kindOf_X5_get : GoodIn wsX3_kindOf (wsV RX3 58 RX5 yX5_get wsX5_get) := goodIn_app (goodIn_of _ (by decide +kernel)) ggX3_kindOf_X5_get
theorem dX3_kindOf_0 : decode cX3_kindOf 0 = .ok (.aload_n 0, 1) := by decide +kernel
theorem dX3_kindOf_1 : decode cX3_kindOf 1 = .ok (.getfield 23, 3) := by decide +kernel
theorem dX3_kindOf_4 : decode cX3_kindOf 4 = .ok (.iload_n 1, 1) := by decide +kernel
theorem dX3_kindOf_5 : decode cX3_kindOf 5 = .ok (.invokevirtual 58, 3) := by decide +kernel
theorem dX3_kindOf_8 : decode cX3_kindOf 8 = .ok (.ireturn, 1) := by decide +kernel
set_option maxRecDepth 20000 in
theorem ggX3_label_X5_get : GoodIn wsX3_label wsX5_get := goodIn_r _ [6, 7, 8, 17, 18, 19] (by decide +kernel) (by decide +kernel)
set_option maxRecDepth 20000 in
theorem gX3_label_X5_get : GoodIn wsX3_label (wsV RX3 58 RX5 yX5_get wsX5_get) := goodIn_app (goodIn_of _ (by decide +kernel)) ggX3_label_X5_get
theorem dX3_label_0 : decode cX3_label 0 = .ok (.aload_n 0, 1) := by decide +kernel
theorem dX3_label_1 : decode cX3_label 1 = .ok (.getfield 26, 3) := by decide +kernel
theorem dX3_label_4 : decode cX3_label 4 = .ok (.iload_n 1, 1) := by decide +kernel
theorem dX3_label_5 : decode cX3_label 5 = .ok (.invokevirtual 58, 3) := by decide +kernel
theorem dX3_label_8 : decode cX3_label 8 = .ok (.ireturn, 1) := by decide +kernel
set_option maxRecDepth 20000 in
theorem ggX3_labelPlace_X5_get : GoodIn wsX3_labelPlace wsX5_get := goodIn_r _ [6, 7, 8, 17, 18, 19] (by decide +kernel) (by decide +kernel)
set_option maxRecDepth 20000 in
theorem gX3_labelPlace_X5_get : GoodIn wsX3_labelPlace (wsV RX3 58 RX5 yX5_get wsX5_get) := goodIn_app (goodIn_of _ (by decide +kernel)) ggX3_labelPlace_X5_get
theorem dX3_labelPlace_0 : decode cX3_labelPlace 0 = .ok (.aload_n 0, 1) := by decide +kernel
theorem dX3_labelPlace_1 : decode cX3_labelPlace 1 = .ok (.getfield 29, 3) := by decide +kernel
theorem dX3_labelPlace_4 : decode cX3_labelPlace 4 = .ok (.iload_n 1, 1) := by decide +kernel
theorem dX3_labelPlace_5 : decode cX3_labelPlace 5 = .ok (.invokevirtual 58, 3) := by decide +kernel
theorem dX3_labelPlace_8 : decode cX3_labelPlace 8 = .ok (.ireturn, 1) := by decide +kernel
set_option maxRecDepth 20000 in
theorem ggX3_number_X5_get : GoodIn wsX3_number wsX5_get := goodIn_r _ [6, 7, 8, 17, 18, 19] (by decide +kernel) (by decide +kernel)
set_option maxRecDepth 20000 in
theorem gX3_number_X5_get : GoodIn wsX3_number (wsV RX3 58 RX5 yX5_get wsX5_get) := goodIn_app (goodIn_of _ (by decide +kernel)) ggX3_number_X5_get
theorem dX3_number_0 : decode cX3_number 0 = .ok (.aload_n 0, 1) := by decide +kernel
theorem dX3_number_1 : decode cX3_number 1 = .ok (.getfield 32, 3) := by decide +kernel
theorem dX3_number_4 : decode cX3_number 4 = .ok (.iload_n 1, 1) := by decide +kernel
theorem dX3_number_5 : decode cX3_number 5 = .ok (.invokevirtual 58, 3) := by decide +kernel
theorem dX3_number_8 : decode cX3_number 8 = .ok (.ireturn, 1) := by decide +kernel
set_option maxRecDepth 20000 in
theorem ggX3_numberPlace_X5_get : GoodIn wsX3_numberPlace wsX5_get := goodIn_r _ [6, 7, 8, 17, 18, 19] (by decide +kernel) (by decide +kernel)
set_option maxRecDepth 20000 in
theorem gX3_numberPlace_X5_get : GoodIn wsX3_numberPlace (wsV RX3 58 RX5 yX5_get wsX5_get) := goodIn_app (goodIn_of _ (by decide +kernel)) ggX3_numberPlace_X5_get
theorem dX3_numberPlace_0 : decode cX3_numberPlace 0 = .ok (.aload_n 0, 1) := by decide +kernel
theorem dX3_numberPlace_1 : decode cX3_numberPlace 1 = .ok (.getfield 35, 3) := by decide +kernel
theorem dX3_numberPlace_4 : decode cX3_numberPlace 4 = .ok (.iload_n 1, 1) := by decide +kernel
theorem dX3_numberPlace_5 : decode cX3_numberPlace 5 = .ok (.invokevirtual 58, 3) := by decide +kernel
theorem dX3_numberPlace_8 : decode cX3_numberPlace 8 = .ok (.ireturn, 1) := by decide +kernel
set_option maxRecDepth 20000 in
theorem ggX3_target_X5_get : GoodIn wsX3_target wsX5_get := goodIn_r _ [6, 7, 8, 17, 18, 19] (by decide +kernel) (by decide +kernel)
set_option maxRecDepth 20000 in
theorem gX3_target_X5_get : GoodIn wsX3_target (wsV RX3 58 RX5 yX5_get wsX5_get) := goodIn_app (goodIn_of _ (by decide +kernel)) ggX3_target_X5_get
theorem dX3_target_0 : decode cX3_target 0 = .ok (.aload_n 0, 1) := by decide +kernel
theorem dX3_target_1 : decode cX3_target 1 = .ok (.getfield 38, 3) := by decide +kernel
theorem dX3_target_4 : decode cX3_target 4 = .ok (.iload_n 1, 1) := by decide +kernel
theorem dX3_target_5 : decode cX3_target 5 = .ok (.invokevirtual 58, 3) := by decide +kernel
theorem dX3_target_8 : decode cX3_target 8 = .ok (.ireturn, 1) := by decide +kernel
set_option maxRecDepth 20000 in
theorem ggX3_aim_X5_set : GoodIn wsX3_aim wsX5_set := goodIn_r _ [6, 7, 8, 17, 18, 19] (by decide +kernel) (by decide +kernel)
set_option maxRecDepth 20000 in
theorem gX3_aim_X5_set : GoodIn wsX3_aim (wsV RX3 54 RX5 yX5_set wsX5_set) := goodIn_app (goodIn_of _ (by decide +kernel)) ggX3_aim_X5_set
theorem dX3_aim_0 : decode cX3_aim 0 = .ok (.aload_n 0, 1) := by decide +kernel
theorem dX3_aim_1 : decode cX3_aim 1 = .ok (.getfield 38, 3) := by decide +kernel
theorem dX3_aim_4 : decode cX3_aim 4 = .ok (.iload_n 1, 1) := by decide +kernel
theorem dX3_aim_5 : decode cX3_aim 5 = .ok (.iload_n 2, 1) := by decide +kernel
theorem dX3_aim_6 : decode cX3_aim 6 = .ok (.invokevirtual 54, 3) := by decide +kernel
theorem dX3_aim_9 : decode cX3_aim 9 = .ok (.return_, 1) := by decide +kernel
set_option maxRecDepth 20000 in
theorem ggX3_labelled_X5_get : GoodIn wsX3_labelled wsX5_get := goodIn_r _ [6, 7, 8, 17, 18, 19] (by decide +kernel) (by decide +kernel)
set_option maxRecDepth 20000 in
theorem gX3_labelled_X5_get : GoodIn wsX3_labelled (wsV RX3 58 RX5 yX5_get wsX5_get) := goodIn_app (goodIn_of _ (by decide +kernel)) ggX3_labelled_X5_get
theorem dX3_labelled_0 : decode cX3_labelled 0 = .ok (.iconst 0, 1) := by decide +kernel
theorem dX3_labelled_1 : decode cX3_labelled 1 = .ok (.istore_n 3, 1) := by decide +kernel
theorem dX3_labelled_2 : decode cX3_labelled 2 = .ok (.iload_n 3, 1) := by decide +kernel
theorem dX3_labelled_3 : decode cX3_labelled 3 = .ok (.iload_n 2, 1) := by decide +kernel
theorem dX3_labelled_4 : decode cX3_labelled 4 = .ok (.if_icmp .ge 23, 3) := by decide +kernel
theorem dX3_labelled_7 : decode cX3_labelled 7 = .ok (.aload_n 0, 1) := by decide +kernel
theorem dX3_labelled_8 : decode cX3_labelled 8 = .ok (.getfield 26, 3) := by decide +kernel
theorem dX3_labelled_11 : decode cX3_labelled 11 = .ok (.iload_n 3, 1) := by decide +kernel
theorem dX3_labelled_12 : decode cX3_labelled 12 = .ok (.invokevirtual 58, 3) := by decide +kernel
theorem dX3_labelled_15 : decode cX3_labelled 15 = .ok (.iload_n 1, 1) := by decide +kernel
theorem dX3_labelled_16 : decode cX3_labelled 16 = .ok (.if_icmp .ne 5, 3) := by decide +kernel
theorem dX3_labelled_19 : decode cX3_labelled 19 = .ok (.iload_n 3, 1) := by decide +kernel
theorem dX3_labelled_20 : decode cX3_labelled 20 = .ok (.ireturn, 1) := by decide +kernel
theorem dX3_labelled_21 : decode cX3_labelled 21 = .ok (.iinc 3 1, 3) := by decide +kernel
theorem dX3_labelled_24 : decode cX3_labelled 24 = .ok (.goto (-22), 3) := by decide +kernel
theorem dX3_labelled_27 : decode cX3_labelled 27 = .ok (.iload_n 2, 1) := by decide +kernel
theorem dX3_labelled_28 : decode cX3_labelled 28 = .ok (.ireturn, 1) := by decide +kernel
set_option maxRecDepth 20000 in
theorem ggX1_join_X1_joinLoops : GoodIn wsX1_join wsX1_joinLoops := goodIn_r _ [4, 5, 6, 7, 8, 9, 10, 11, 12, 13, 14, 15, 16, 17, 18, 3, 19, 20, 21, 22, 23, 24, 25, 26, 27, 28, 29, 30, 31, 32, 33, 34, 35, 36, 37, 38, 39, 40, 41, 42, 43, 44, 45, 46, 47, 48, 49, 50, 51, 52, 53, 54, 55, 56, 57, 58, 59, 60, 61, 62, 63, 64, 65, 66, 67, 68, 69, 70, 71, 72, 76, 77, 78, 79, 80, 81, 82, 83, 84, 85, 86] (by decide +kernel) (by decide +kernel)
set_option maxRecDepth 20000 in
theorem gX1_join_X1_joinLoops : GoodIn wsX1_join (va_wsS RX1 9 yX1_joinLoops wsX1_joinLoops) := goodIn_app (goodIn_of _ (by decide +kernel)) ggX1_join_X1_joinLoops
set_option maxRecDepth 20000 in
theorem ggX1_join_X1_joinGotos : GoodIn wsX1_join wsX1_joinGotos := goodIn_r _ [75, 5, 6, 7, 8, 9, 10, 11, 12, 13, 14, 15, 16, 39, 40, 41, 42, 43, 25, 26, 27, 28, 29, 47, 48, 49, 50, 51, 30, 31, 32, 33, 24, 57, 58, 59, 60, 61, 62, 63, 64, 65, 56, 66, 67, 68, 69, 76, 77, 78, 79, 80, 81, 82, 83, 84, 85, 86] (by decide +kernel) (by decide +kernel)
set_option maxRecDepth 20000 in
theorem gX1_join_X1_joinGotos : GoodIn wsX1_join (va_wsS RX1 15 yX1_joinGotos wsX1_joinGotos) := goodIn_app (goodIn_of _ (by decide +kernel)) ggX1_join_X1_joinGotos
theorem dX1_join_0 : decode cX1_join 0 = .ok (.aload_n 0, 1) := by decide +kernel
theorem dX1_join_1 : decode cX1_join 1 = .ok (.invokestatic 9, 3) := by decide +kernel
theorem dX1_join_4 : decode cX1_join 4 = .ok (.istore_n 1, 1) := by decide +kernel
theorem dX1_join_5 : decode cX1_join 5 = .ok (.iload_n 1, 1) := by decide +kernel
theorem dX1_join_6 : decode cX1_join 6 = .ok (.iconst (-1), 1) := by decide +kernel
theorem dX1_join_7 : decode cX1_join 7 = .ok (.if_icmp .eq 7, 3) := by decide +kernel
theorem dX1_join_10 : decode cX1_join 10 = .ok (.iload_n 1, 1) := by decide +kernel
theorem dX1_join_11 : decode cX1_join 11 = .ok (.goto 7, 3) := by decide +kernel
theorem dX1_join_14 : decode cX1_join 14 = .ok (.aload_n 0, 1) := by decide +kernel
theorem dX1_join_15 : decode cX1_join 15 = .ok (.invokestatic 15, 3) := by decide +kernel
theorem dX1_join_18 : decode cX1_join 18 = .ok (.ireturn, 1) := by decide +kernel
set_option maxRecDepth 20000 in
theorem ggX1_joinLoops_X3_size : GoodIn wsX1_joinLoops wsX3_size := goodIn_r _ [5, 6, 7, 8, 9, 10, 11, 12, 70, 71, 72, 73, 74, 75, 76, 77, 78, 79, 80] (by decide +kernel) (by decide +kernel)
set_option maxRecDepth 20000 in
theorem gX1_joinLoops_X3_size : GoodIn wsX1_joinLoops (wsV RX1 18 RX3 yX3_size wsX3_size) := goodIn_app (goodIn_of _ (by decide +kernel)) ggX1_joinLoops_X3_size
set_option maxRecDepth 20000 in
theorem ggX1_joinLoops_X1_isRepeatedLabel : GoodIn wsX1_joinLoops wsX1_isRepeatedLabel := goodIn_r _ [16, 17, 18, 19, 4, 20, 21, 22, 23, 24, 10, 25, 12, 26, 27, 28, 29, 30, 70, 71, 72, 73, 74, 75, 76, 77, 78, 79, 80] (by decide +kernel) (by decide +kernel)
set_option maxRecDepth 20000 in
theorem gX1_joinLoops_X1_isRepeatedLabel : GoodIn wsX1_joinLoops (va_wsS RX1 24 yX1_isRepeatedLabel wsX1_isRepeatedLabel) := goodIn_app (goodIn_of _ (by decide +kernel)) ggX1_joinLoops_X1_isRepeatedLabel
set_option maxRecDepth 20000 in
theorem ggX1_joinLoops_X3_labelPlace : GoodIn wsX1_joinLoops wsX3_labelPlace := goodIn_r _ [34, 35, 22, 23, 24, 10, 25, 12, 26, 70, 71, 72, 73, 74, 75, 76, 77, 78, 79, 80] (by decide +kernel) (by decide +kernel)
set_option maxRecDepth 20000 in
theorem gX1_joinLoops_X3_labelPlace : GoodIn wsX1_joinLoops (wsV RX1 28 RX3 yX3_labelPlace wsX3_labelPlace) := goodIn_app (goodIn_of _ (by decide +kernel)) ggX1_joinLoops_X3_labelPlace
set_option maxRecDepth 20000 in
theorem ggX1_joinLoops_X3_kindOf : GoodIn wsX1_joinLoops wsX3_kindOf := goodIn_r _ [39, 40, 22, 23, 24, 10, 25, 12, 26, 70, 71, 72, 73, 74, 75, 76, 77, 78, 79, 80] (by decide +kernel) (by decide +kernel)
set_option maxRecDepth 20000 in
theorem gX1_joinLoops_X3_kindOf : GoodIn wsX1_joinLoops (wsV RX1 32 RX3 yX3_kindOf wsX3_kindOf) := goodIn_app (goodIn_of _ (by decide +kernel)) ggX1_joinLoops_X3_kindOf
set_option maxRecDepth 20000 in
theorem ggX1_joinLoops_X1_mayOpen : GoodIn wsX1_joinLoops wsX1_mayOpen := goodIn_r _ [43, 44, 45, 46, 4, 47, 48, 22, 23, 24, 10, 25, 12, 26, 49, 50, 51, 52, 53, 70, 71, 72, 73, 74, 75, 76, 77, 78, 79, 80] (by decide +kernel) (by decide +kernel)
set_option maxRecDepth 20000 in
theorem gX1_joinLoops_X1_mayOpen : GoodIn wsX1_joinLoops (va_wsS RX1 37 yX1_mayOpen wsX1_mayOpen) := goodIn_app (goodIn_of _ (by decide +kernel)) ggX1_joinLoops_X1_mayOpen
set_option maxRecDepth 20000 in
theorem ggX1_joinLoops_X3_numberPlace : GoodIn wsX1_joinLoops wsX3_numberPlace := goodIn_r _ [57, 58, 22, 23, 24, 10, 25, 12, 26, 70, 71, 72, 73, 74, 75, 76, 77, 78, 79, 80] (by decide +kernel) (by decide +kernel)
set_option maxRecDepth 20000 in
theorem gX1_joinLoops_X3_numberPlace : GoodIn wsX1_joinLoops (wsV RX1 41 RX3 yX3_numberPlace wsX3_numberPlace) := goodIn_app (goodIn_of _ (by decide +kernel)) ggX1_joinLoops_X3_numberPlace
set_option maxRecDepth 20000 in
theorem ggX1_joinLoops_X3_aim : GoodIn wsX1_joinLoops wsX3_aim := goodIn_r _ [62, 53, 63, 64, 65, 10, 66, 12, 26, 70, 71, 72, 73, 74, 75, 76, 77, 78, 79, 80] (by decide +kernel) (by decide +kernel)
set_option maxRecDepth 20000 in
theorem gX1_joinLoops_X3_aim : GoodIn wsX1_joinLoops (wsV RX1 44 RX3 yX3_aim wsX3_aim) := goodIn_app (goodIn_of _ (by decide +kernel)) ggX1_joinLoops_X3_aim
set_option maxRecDepth 20000 in
theorem ggX1_joinLoops_X3_number : GoodIn wsX1_joinLoops wsX3_number := goodIn_r _ [47, 48, 22, 23, 24, 10, 25, 12, 26, 70, 71, 72, 73, 74, 75, 76, 77, 78, 79, 80] (by decide +kernel) (by decide +kernel)
set_option maxRecDepth 20000 in
theorem gX1_joinLoops_X3_number : GoodIn wsX1_joinLoops (wsV RX1 48 RX3 yX3_number wsX3_number) := goodIn_app (goodIn_of _ (by decide +kernel)) ggX1_joinLoops_X3_number
set_option maxRecDepth 20000 in
theorem ggX1_joinLoops_X3_target : GoodIn wsX1_joinLoops wsX3_target := goodIn_r _ [52, 53, 22, 23, 24, 10, 25, 12, 26, 70, 71, 72, 73, 74, 75, 76, 77, 78, 79, 80] (by decide +kernel) (by decide +kernel)
set_option maxRecDepth 20000 in
theorem gX1_joinLoops_X3_target : GoodIn wsX1_joinLoops (wsV RX1 51 RX3 yX3_target wsX3_target) := goodIn_app (goodIn_of _ (by decide +kernel)) ggX1_joinLoops_X3_target
set_option maxRecDepth 20000 in
theorem ggX1_joinLoops_X1_outermostPlace : GoodIn wsX1_joinLoops wsX1_outermostPlace := goodIn_r _ [69, 54, 55, 56, 4, 57, 58, 22, 23, 24, 10, 25, 12, 26, 49, 50, 51, 52, 53, 70, 71, 72, 73, 74, 75, 76, 77, 78, 79, 80] (by decide +kernel) (by decide +kernel)
set_option maxRecDepth 20000 in
theorem gX1_joinLoops_X1_outermostPlace : GoodIn wsX1_joinLoops (va_wsS RX1 54 yX1_outermostPlace wsX1_outermostPlace) := goodIn_app (goodIn_of _ (by decide +kernel)) ggX1_joinLoops_X1_outermostPlace
theorem dX1_joinLoops_0 : decode cX1_joinLoops 0 = .ok (.iconst (-1), 1) := by decide +kernel
theorem dX1_joinLoops_1 : decode cX1_joinLoops 1 = .ok (.istore_n 1, 1) := by decide +kernel
theorem dX1_joinLoops_2 : decode cX1_joinLoops 2 = .ok (.iconst 0, 1) := by decide +kernel
theorem dX1_joinLoops_3 : decode cX1_joinLoops 3 = .ok (.istore_n 2, 1) := by decide +kernel
theorem dX1_joinLoops_4 : decode cX1_joinLoops 4 = .ok (.iload_n 2, 1) := by decide +kernel
theorem dX1_joinLoops_5 : decode cX1_joinLoops 5 = .ok (.aload_n 0, 1) := by decide +kernel
theorem dX1_joinLoops_6 : decode cX1_joinLoops 6 = .ok (.invokevirtual 18, 3) := by decide +kernel
theorem dX1_joinLoops_9 : decode cX1_joinLoops 9 = .ok (.if_icmp .ge 117, 3) := by decide +kernel
theorem dX1_joinLoops_12 : decode cX1_joinLoops 12 = .ok (.aload_n 0, 1) := by decide +kernel
theorem dX1_joinLoops_13 : decode cX1_joinLoops 13 = .ok (.iload_n 2, 1) := by decide +kernel
theorem dX1_joinLoops_14 : decode cX1_joinLoops 14 = .ok (.invokestatic 24, 3) := by decide +kernel
theorem dX1_joinLoops_17 : decode cX1_joinLoops 17 = .ok (.ifCond .eq 9, 3) := by decide +kernel
theorem dX1_joinLoops_20 : decode cX1_joinLoops 20 = .ok (.aload_n 0, 1) := by decide +kernel
theorem dX1_joinLoops_21 : decode cX1_joinLoops 21 = .ok (.iload_n 2, 1) := by decide +kernel
theorem dX1_joinLoops_22 : decode cX1_joinLoops 22 = .ok (.invokevirtual 28, 3) := by decide +kernel
theorem dX1_joinLoops_25 : decode cX1_joinLoops 25 = .ok (.ireturn, 1) := by decide +kernel
theorem dX1_joinLoops_26 : decode cX1_joinLoops 26 = .ok (.aload_n 0, 1) := by decide +kernel
theorem dX1_joinLoops_27 : decode cX1_joinLoops 27 = .ok (.iload_n 2, 1) := by decide +kernel
theorem dX1_joinLoops_28 : decode cX1_joinLoops 28 = .ok (.invokevirtual 32, 3) := by decide +kernel
theorem dX1_joinLoops_31 : decode cX1_joinLoops 31 = .ok (.istore_n 3, 1) := by decide +kernel
theorem dX1_joinLoops_32 : decode cX1_joinLoops 32 = .ok (.iload_n 3, 1) := by decide +kernel
theorem dX1_joinLoops_33 : decode cX1_joinLoops 33 = .ok (.sipush 302, 3) := by decide +kernel
theorem dX1_joinLoops_36 : decode cX1_joinLoops 36 = .ok (.if_icmp .ne 29, 3) := by decide +kernel
theorem dX1_joinLoops_39 : decode cX1_joinLoops 39 = .ok (.aload_n 0, 1) := by decide +kernel
theorem dX1_joinLoops_40 : decode cX1_joinLoops 40 = .ok (.iload_n 2, 1) := by decide +kernel
theorem dX1_joinLoops_41 : decode cX1_joinLoops 41 = .ok (.iload_n 1, 1) := by decide +kernel
theorem dX1_joinLoops_42 : decode cX1_joinLoops 42 = .ok (.invokestatic 37, 3) := by decide +kernel
theorem dX1_joinLoops_45 : decode cX1_joinLoops 45 = .ok (.ifCond .ne 9, 3) := by decide +kernel
theorem dX1_joinLoops_48 : decode cX1_joinLoops 48 = .ok (.aload_n 0, 1) := by decide +kernel
theorem dX1_joinLoops_49 : decode cX1_joinLoops 49 = .ok (.iload_n 2, 1) := by decide +kernel
theorem dX1_joinLoops_50 : decode cX1_joinLoops 50 = .ok (.invokevirtual 41, 3) := by decide +kernel
theorem dX1_joinLoops_53 : decode cX1_joinLoops 53 = .ok (.ireturn, 1) := by decide +kernel
theorem dX1_joinLoops_54 : decode cX1_joinLoops 54 = .ok (.aload_n 0, 1) := by decide +kernel
theorem dX1_joinLoops_55 : decode cX1_joinLoops 55 = .ok (.iload_n 2, 1) := by decide +kernel
theorem dX1_joinLoops_56 : decode cX1_joinLoops 56 = .ok (.iload_n 1, 1) := by decide +kernel
theorem dX1_joinLoops_57 : decode cX1_joinLoops 57 = .ok (.invokevirtual 44, 3) := by decide +kernel
theorem dX1_joinLoops_60 : decode cX1_joinLoops 60 = .ok (.iload_n 2, 1) := by decide +kernel
theorem dX1_joinLoops_61 : decode cX1_joinLoops 61 = .ok (.istore_n 1, 1) := by decide +kernel
theorem dX1_joinLoops_62 : decode cX1_joinLoops 62 = .ok (.goto 58, 3) := by decide +kernel
theorem dX1_joinLoops_65 : decode cX1_joinLoops 65 = .ok (.iload_n 3, 1) := by decide +kernel
theorem dX1_joinLoops_66 : decode cX1_joinLoops 66 = .ok (.sipush 304, 3) := by decide +kernel
theorem dX1_joinLoops_69 : decode cX1_joinLoops 69 = .ok (.if_icmp .ne 51, 3) := by decide +kernel
theorem dX1_joinLoops_72 : decode cX1_joinLoops 72 = .ok (.iload_n 1, 1) := by decide +kernel
theorem dX1_joinLoops_73 : decode cX1_joinLoops 73 = .ok (.iconst (-1), 1) := by decide +kernel
theorem dX1_joinLoops_74 : decode cX1_joinLoops 74 = .ok (.if_icmp .eq 16, 3) := by decide +kernel
theorem dX1_joinLoops_77 : decode cX1_joinLoops 77 = .ok (.aload_n 0, 1) := by decide +kernel
theorem dX1_joinLoops_78 : decode cX1_joinLoops 78 = .ok (.iload_n 1, 1) := by decide +kernel
theorem dX1_joinLoops_79 : decode cX1_joinLoops 79 = .ok (.invokevirtual 48, 3) := by decide +kernel
theorem dX1_joinLoops_82 : decode cX1_joinLoops 82 = .ok (.aload_n 0, 1) := by decide +kernel
theorem dX1_joinLoops_83 : decode cX1_joinLoops 83 = .ok (.iload_n 2, 1) := by decide +kernel
theorem dX1_joinLoops_84 : decode cX1_joinLoops 84 = .ok (.invokevirtual 48, 3) := by decide +kernel
theorem dX1_joinLoops_87 : decode cX1_joinLoops 87 = .ok (.if_icmp .eq 9, 3) := by decide +kernel
theorem dX1_joinLoops_90 : decode cX1_joinLoops 90 = .ok (.aload_n 0, 1) := by decide +kernel
theorem dX1_joinLoops_91 : decode cX1_joinLoops 91 = .ok (.iload_n 2, 1) := by decide +kernel
theorem dX1_joinLoops_92 : decode cX1_joinLoops 92 = .ok (.invokevirtual 41, 3) := by decide +kernel
theorem dX1_joinLoops_95 : decode cX1_joinLoops 95 = .ok (.ireturn, 1) := by decide +kernel
theorem dX1_joinLoops_96 : decode cX1_joinLoops 96 = .ok (.aload_n 0, 1) := by decide +kernel
theorem dX1_joinLoops_97 : decode cX1_joinLoops 97 = .ok (.iload_n 1, 1) := by decide +kernel
theorem dX1_joinLoops_98 : decode cX1_joinLoops 98 = .ok (.invokevirtual 51, 3) := by decide +kernel
theorem dX1_joinLoops_101 : decode cX1_joinLoops 101 = .ok (.istore 4, 2) := by decide +kernel
theorem dX1_joinLoops_103 : decode cX1_joinLoops 103 = .ok (.aload_n 0, 1) := by decide +kernel
theorem dX1_joinLoops_104 : decode cX1_joinLoops 104 = .ok (.iload_n 1, 1) := by decide +kernel
theorem dX1_joinLoops_105 : decode cX1_joinLoops 105 = .ok (.iload_n 2, 1) := by decide +kernel
theorem dX1_joinLoops_106 : decode cX1_joinLoops 106 = .ok (.iconst 1, 1) := by decide +kernel
theorem dX1_joinLoops_107 : decode cX1_joinLoops 107 = .ok (.iadd, 1) := by decide +kernel
theorem dX1_joinLoops_108 : decode cX1_joinLoops 108 = .ok (.invokevirtual 44, 3) := by decide +kernel
theorem dX1_joinLoops_111 : decode cX1_joinLoops 111 = .ok (.aload_n 0, 1) := by decide +kernel
theorem dX1_joinLoops_112 : decode cX1_joinLoops 112 = .ok (.iload_n 2, 1) := by decide +kernel
theorem dX1_joinLoops_113 : decode cX1_joinLoops 113 = .ok (.iload_n 1, 1) := by decide +kernel
theorem dX1_joinLoops_114 : decode cX1_joinLoops 114 = .ok (.invokevirtual 44, 3) := by decide +kernel
theorem dX1_joinLoops_117 : decode cX1_joinLoops 117 = .ok (.iload 4, 2) := by decide +kernel
theorem dX1_joinLoops_119 : decode cX1_joinLoops 119 = .ok (.istore_n 1, 1) := by decide +kernel
theorem dX1_joinLoops_120 : decode cX1_joinLoops 120 = .ok (.iinc 2 1, 3) := by decide +kernel
theorem dX1_joinLoops_123 : decode cX1_joinLoops 123 = .ok (.goto (-119), 3) := by decide +kernel
theorem dX1_joinLoops_126 : decode cX1_joinLoops 126 = .ok (.aload_n 0, 1) := by decide +kernel
theorem dX1_joinLoops_127 : decode cX1_joinLoops 127 = .ok (.iload_n 1, 1) := by decide +kernel
theorem dX1_joinLoops_128 : decode cX1_joinLoops 128 = .ok (.invokestatic 54, 3) := by decide +kernel
theorem dX1_joinLoops_131 : decode cX1_joinLoops 131 = .ok (.ireturn, 1) := by decide +kernel
set_option maxRecDepth 20000 in
theorem ggX1_isRepeatedLabel_X3_label : GoodIn wsX1_isRepeatedLabel wsX3_label := goodIn_r _ [5, 6, 7, 8, 9, 10, 11, 12, 13, 18, 19, 20, 21, 22, 23, 24, 25, 26, 27, 28] (by decide +kernel) (by decide +kernel)
set_option maxRecDepth 20000 in
theorem gX1_isRepeatedLabel_X3_label : GoodIn wsX1_isRepeatedLabel (wsV RX1 58 RX3 yX3_label wsX3_label) := goodIn_app (goodIn_of _ (by decide +kernel)) ggX1_isRepeatedLabel_X3_label
set_option maxRecDepth 20000 in
theorem ggX1_isRepeatedLabel_X3_labelled : GoodIn wsX1_isRepeatedLabel wsX3_labelled := goodIn_r _ [17, 6, 7, 8, 9, 10, 11, 12, 13, 18, 19, 20, 21, 22, 23, 24, 25, 26, 27, 28] (by decide +kernel) (by decide +kernel)
set_option maxRecDepth 20000 in
theorem gX1_isRepeatedLabel_X3_labelled : GoodIn wsX1_isRepeatedLabel (wsV RX1 61 RX3 yX3_labelled wsX3_labelled) := goodIn_app (goodIn_of _ (by decide +kernel)) ggX1_isRepeatedLabel_X3_labelled
theorem dX1_isRepeatedLabel_0 : decode cX1_isRepeatedLabel 0 = .ok (.aload_n 0, 1) := by decide +kernel
theorem dX1_isRepeatedLabel_1 : decode cX1_isRepeatedLabel 1 = .ok (.iload_n 1, 1) := by decide +kernel
theorem dX1_isRepeatedLabel_2 : decode cX1_isRepeatedLabel 2 = .ok (.invokevirtual 58, 3) := by decide +kernel
theorem dX1_isRepeatedLabel_5 : decode cX1_isRepeatedLabel 5 = .ok (.istore_n 2, 1) := by decide +kernel
theorem dX1_isRepeatedLabel_6 : decode cX1_isRepeatedLabel 6 = .ok (.iload_n 2, 1) := by decide +kernel
theorem dX1_isRepeatedLabel_7 : decode cX1_isRepeatedLabel 7 = .ok (.iconst (-1), 1) := by decide +kernel
theorem dX1_isRepeatedLabel_8 : decode cX1_isRepeatedLabel 8 = .ok (.if_icmp .eq 17, 3) := by decide +kernel
theorem dX1_isRepeatedLabel_11 : decode cX1_isRepeatedLabel 11 = .ok (.aload_n 0, 1) := by decide +kernel
theorem dX1_isRepeatedLabel_12 : decode cX1_isRepeatedLabel 12 = .ok (.iload_n 2, 1) := by decide +kernel
theorem dX1_isRepeatedLabel_13 : decode cX1_isRepeatedLabel 13 = .ok (.iload_n 1, 1) := by decide +kernel
theorem dX1_isRepeatedLabel_14 : decode cX1_isRepeatedLabel 14 = .ok (.invokevirtual 61, 3) := by decide +kernel
theorem dX1_isRepeatedLabel_17 : decode cX1_isRepeatedLabel 17 = .ok (.iload_n 1, 1) := by decide +kernel
theorem dX1_isRepeatedLabel_18 : decode cX1_isRepeatedLabel 18 = .ok (.if_icmp .ge 7, 3) := by decide +kernel
theorem dX1_isRepeatedLabel_21 : decode cX1_isRepeatedLabel 21 = .ok (.iconst 1, 1) := by decide +kernel
theorem dX1_isRepeatedLabel_22 : decode cX1_isRepeatedLabel 22 = .ok (.goto 4, 3) := by decide +kernel
theorem dX1_isRepeatedLabel_25 : decode cX1_isRepeatedLabel 25 = .ok (.iconst 0, 1) := by decide +kernel
theorem dX1_isRepeatedLabel_26 : decode cX1_isRepeatedLabel 26 = .ok (.ireturn, 1) := by decide +kernel
set_option maxRecDepth 20000 in
theorem ggX1_mayOpen_X3_number : GoodIn wsX1_mayOpen wsX3_number := goodIn_r _ [5, 6, 7, 8, 9, 10, 11, 12, 13, 19, 20, 21, 22, 23, 24, 25, 26, 27, 28, 29] (by decide +kernel) (by decide +kernel)
set_option maxRecDepth 20000 in
theorem gX1_mayOpen_X3_number : GoodIn wsX1_mayOpen (wsV RX1 48 RX3 yX3_number wsX3_number) := goodIn_app (goodIn_of _ (by decide +kernel)) ggX1_mayOpen_X3_number
set_option maxRecDepth 20000 in
theorem ggX1_mayOpen_X3_target : GoodIn wsX1_mayOpen wsX3_target := goodIn_r _ [17, 18, 7, 8, 9, 10, 11, 12, 13, 19, 20, 21, 22, 23, 24, 25, 26, 27, 28, 29] (by decide +kernel) (by decide +kernel)
set_option maxRecDepth 20000 in
theorem gX1_mayOpen_X3_target : GoodIn wsX1_mayOpen (wsV RX1 51 RX3 yX3_target wsX3_target) := goodIn_app (goodIn_of _ (by decide +kernel)) ggX1_mayOpen_X3_target
theorem dX1_mayOpen_0 : decode cX1_mayOpen 0 = .ok (.aload_n 0, 1) := by decide +kernel
theorem dX1_mayOpen_1 : decode cX1_mayOpen 1 = .ok (.iload_n 1, 1) := by decide +kernel
theorem dX1_mayOpen_2 : decode cX1_mayOpen 2 = .ok (.invokevirtual 48, 3) := by decide +kernel
theorem dX1_mayOpen_5 : decode cX1_mayOpen 5 = .ok (.istore_n 3, 1) := by decide +kernel
theorem dX1_mayOpen_6 : decode cX1_mayOpen 6 = .ok (.iload_n 3, 1) := by decide +kernel
theorem dX1_mayOpen_7 : decode cX1_mayOpen 7 = .ok (.sipush 1000, 3) := by decide +kernel
theorem dX1_mayOpen_10 : decode cX1_mayOpen 10 = .ok (.if_icmp .lt 10, 3) := by decide +kernel
theorem dX1_mayOpen_13 : decode cX1_mayOpen 13 = .ok (.iload_n 3, 1) := by decide +kernel
theorem dX1_mayOpen_14 : decode cX1_mayOpen 14 = .ok (.sipush 3000, 3) := by decide +kernel
theorem dX1_mayOpen_17 : decode cX1_mayOpen 17 = .ok (.if_icmp .le 5, 3) := by decide +kernel
theorem dX1_mayOpen_20 : decode cX1_mayOpen 20 = .ok (.iconst 0, 1) := by decide +kernel
theorem dX1_mayOpen_21 : decode cX1_mayOpen 21 = .ok (.ireturn, 1) := by decide +kernel
theorem dX1_mayOpen_22 : decode cX1_mayOpen 22 = .ok (.iload_n 2, 1) := by decide +kernel
theorem dX1_mayOpen_23 : decode cX1_mayOpen 23 = .ok (.istore 4, 2) := by decide +kernel
theorem dX1_mayOpen_25 : decode cX1_mayOpen 25 = .ok (.iconst 0, 1) := by decide +kernel
theorem dX1_mayOpen_26 : decode cX1_mayOpen 26 = .ok (.istore 5, 2) := by decide +kernel
theorem dX1_mayOpen_28 : decode cX1_mayOpen 28 = .ok (.iload 5, 2) := by decide +kernel
theorem dX1_mayOpen_30 : decode cX1_mayOpen 30 = .ok (.iconst 3, 1) := by decide +kernel
theorem dX1_mayOpen_31 : decode cX1_mayOpen 31 = .ok (.if_icmp .ge 35, 3) := by decide +kernel
theorem dX1_mayOpen_34 : decode cX1_mayOpen 34 = .ok (.iload 4, 2) := by decide +kernel
theorem dX1_mayOpen_36 : decode cX1_mayOpen 36 = .ok (.iconst (-1), 1) := by decide +kernel
theorem dX1_mayOpen_37 : decode cX1_mayOpen 37 = .ok (.if_icmp .eq 29, 3) := by decide +kernel
theorem dX1_mayOpen_40 : decode cX1_mayOpen 40 = .ok (.aload_n 0, 1) := by decide +kernel
theorem dX1_mayOpen_41 : decode cX1_mayOpen 41 = .ok (.iload 4, 2) := by decide +kernel
theorem dX1_mayOpen_43 : decode cX1_mayOpen 43 = .ok (.invokevirtual 48, 3) := by decide +kernel
theorem dX1_mayOpen_46 : decode cX1_mayOpen 46 = .ok (.iload_n 3, 1) := by decide +kernel
theorem dX1_mayOpen_47 : decode cX1_mayOpen 47 = .ok (.if_icmp .ne 5, 3) := by decide +kernel
theorem dX1_mayOpen_50 : decode cX1_mayOpen 50 = .ok (.iconst 0, 1) := by decide +kernel
theorem dX1_mayOpen_51 : decode cX1_mayOpen 51 = .ok (.ireturn, 1) := by decide +kernel
theorem dX1_mayOpen_52 : decode cX1_mayOpen 52 = .ok (.aload_n 0, 1) := by decide +kernel
theorem dX1_mayOpen_53 : decode cX1_mayOpen 53 = .ok (.iload 4, 2) := by decide +kernel
theorem dX1_mayOpen_55 : decode cX1_mayOpen 55 = .ok (.invokevirtual 51, 3) := by decide +kernel
theorem dX1_mayOpen_58 : decode cX1_mayOpen 58 = .ok (.istore 4, 2) := by decide +kernel
theorem dX1_mayOpen_60 : decode cX1_mayOpen 60 = .ok (.iinc 5 1, 3) := by decide +kernel
theorem dX1_mayOpen_63 : decode cX1_mayOpen 63 = .ok (.goto (-35), 3) := by decide +kernel
theorem dX1_mayOpen_66 : decode cX1_mayOpen 66 = .ok (.iconst 1, 1) := by decide +kernel
theorem dX1_mayOpen_67 : decode cX1_mayOpen 67 = .ok (.ireturn, 1) := by decide +kernel
set_option maxRecDepth 20000 in
theorem ggX1_outermostPlace_X3_numberPlace : GoodIn wsX1_outermostPlace wsX3_numberPlace := goodIn_r _ [5, 6, 7, 8, 9, 10, 11, 12, 13, 19, 20, 21, 22, 23, 24, 25, 26, 27, 28, 29] (by decide +kernel) (by decide +kernel)
set_option maxRecDepth 20000 in
theorem gX1_outermostPlace_X3_numberPlace : GoodIn wsX1_outermostPlace (wsV RX1 41 RX3 yX3_numberPlace wsX3_numberPlace) := goodIn_app (goodIn_of _ (by decide +kernel)) ggX1_outermostPlace_X3_numberPlace
set_option maxRecDepth 20000 in
theorem ggX1_outermostPlace_X3_target : GoodIn wsX1_outermostPlace wsX3_target := goodIn_r _ [17, 18, 7, 8, 9, 10, 11, 12, 13, 19, 20, 21, 22, 23, 24, 25, 26, 27, 28, 29] (by decide +kernel) (by decide +kernel)
set_option maxRecDepth 20000 in
theorem gX1_outermostPlace_X3_target : GoodIn wsX1_outermostPlace (wsV RX1 51 RX3 yX3_target wsX3_target) := goodIn_app (goodIn_of _ (by decide +kernel)) ggX1_outermostPlace_X3_target
theorem dX1_outermostPlace_0 : decode cX1_outermostPlace 0 = .ok (.iconst (-1), 1) := by decide +kernel
theorem dX1_outermostPlace_1 : decode cX1_outermostPlace 1 = .ok (.istore_n 2, 1) := by decide +kernel
theorem dX1_outermostPlace_2 : decode cX1_outermostPlace 2 = .ok (.iload_n 1, 1) := by decide +kernel
theorem dX1_outermostPlace_3 : decode cX1_outermostPlace 3 = .ok (.istore_n 3, 1) := by decide +kernel
theorem dX1_outermostPlace_4 : decode cX1_outermostPlace 4 = .ok (.iconst 0, 1) := by decide +kernel
theorem dX1_outermostPlace_5 : decode cX1_outermostPlace 5 = .ok (.istore 4, 2) := by decide +kernel
theorem dX1_outermostPlace_7 : decode cX1_outermostPlace 7 = .ok (.iload 4, 2) := by decide +kernel
theorem dX1_outermostPlace_9 : decode cX1_outermostPlace 9 = .ok (.iconst 3, 1) := by decide +kernel
theorem dX1_outermostPlace_10 : decode cX1_outermostPlace 10 = .ok (.if_icmp .ge 26, 3) := by decide +kernel
theorem dX1_outermostPlace_13 : decode cX1_outermostPlace 13 = .ok (.iload_n 3, 1) := by decide +kernel
theorem dX1_outermostPlace_14 : decode cX1_outermostPlace 14 = .ok (.iconst (-1), 1) := by decide +kernel
theorem dX1_outermostPlace_15 : decode cX1_outermostPlace 15 = .ok (.if_icmp .eq 21, 3) := by decide +kernel
theorem dX1_outermostPlace_18 : decode cX1_outermostPlace 18 = .ok (.aload_n 0, 1) := by decide +kernel
theorem dX1_outermostPlace_19 : decode cX1_outermostPlace 19 = .ok (.iload_n 3, 1) := by decide +kernel
theorem dX1_outermostPlace_20 : decode cX1_outermostPlace 20 = .ok (.invokevirtual 41, 3) := by decide +kernel
theorem dX1_outermostPlace_23 : decode cX1_outermostPlace 23 = .ok (.istore_n 2, 1) := by decide +kernel
theorem dX1_outermostPlace_24 : decode cX1_outermostPlace 24 = .ok (.aload_n 0, 1) := by decide +kernel
theorem dX1_outermostPlace_25 : decode cX1_outermostPlace 25 = .ok (.iload_n 3, 1) := by decide +kernel
theorem dX1_outermostPlace_26 : decode cX1_outermostPlace 26 = .ok (.invokevirtual 51, 3) := by decide +kernel
theorem dX1_outermostPlace_29 : decode cX1_outermostPlace 29 = .ok (.istore_n 3, 1) := by decide +kernel
theorem dX1_outermostPlace_30 : decode cX1_outermostPlace 30 = .ok (.iinc 4 1, 3) := by decide +kernel
theorem dX1_outermostPlace_33 : decode cX1_outermostPlace 33 = .ok (.goto (-26), 3) := by decide +kernel
theorem dX1_outermostPlace_36 : decode cX1_outermostPlace 36 = .ok (.iload_n 2, 1) := by decide +kernel
theorem dX1_outermostPlace_37 : decode cX1_outermostPlace 37 = .ok (.ireturn, 1) := by decide +kernel
set_option maxRecDepth 20000 in
theorem ggX1_joinGotos_X3_size : GoodIn wsX1_joinGotos wsX3_size := goodIn_r _ [5, 6, 7, 8, 9, 10, 11, 12, 47, 48, 49, 50, 51, 52, 53, 54, 55, 56, 57] (by decide +kernel) (by decide +kernel)
set_option maxRecDepth 20000 in
theorem gX1_joinGotos_X3_size : GoodIn wsX1_joinGotos (wsV RX1 18 RX3 yX3_size wsX3_size) := goodIn_app (goodIn_of _ (by decide +kernel)) ggX1_joinGotos_X3_size
set_option maxRecDepth 20000 in
theorem ggX1_joinGotos_X3_kindOf : GoodIn wsX1_joinGotos wsX3_kindOf := goodIn_r _ [16, 17, 18, 19, 20, 10, 21, 12, 22, 47, 48, 49, 50, 51, 52, 53, 54, 55, 56, 57] (by decide +kernel) (by decide +kernel)
set_option maxRecDepth 20000 in
theorem gX1_joinGotos_X3_kindOf : GoodIn wsX1_joinGotos (wsV RX1 32 RX3 yX3_kindOf wsX3_kindOf) := goodIn_app (goodIn_of _ (by decide +kernel)) ggX1_joinGotos_X3_kindOf
set_option maxRecDepth 20000 in
theorem ggX1_joinGotos_X3_number : GoodIn wsX1_joinGotos wsX3_number := goodIn_r _ [26, 27, 18, 19, 20, 10, 21, 12, 22, 47, 48, 49, 50, 51, 52, 53, 54, 55, 56, 57] (by decide +kernel) (by decide +kernel)
set_option maxRecDepth 20000 in
theorem gX1_joinGotos_X3_number : GoodIn wsX1_joinGotos (wsV RX1 48 RX3 yX3_number wsX3_number) := goodIn_app (goodIn_of _ (by decide +kernel)) ggX1_joinGotos_X3_number
set_option maxRecDepth 20000 in
theorem ggX1_joinGotos_X3_labelled : GoodIn wsX1_joinGotos wsX3_labelled := goodIn_r _ [31, 32, 18, 19, 20, 10, 21, 12, 22, 47, 48, 49, 50, 51, 52, 53, 54, 55, 56, 57] (by decide +kernel) (by decide +kernel)
set_option maxRecDepth 20000 in
theorem gX1_joinGotos_X3_labelled : GoodIn wsX1_joinGotos (wsV RX1 61 RX3 yX3_labelled wsX3_labelled) := goodIn_app (goodIn_of _ (by decide +kernel)) ggX1_joinGotos_X3_labelled
set_option maxRecDepth 20000 in
theorem ggX1_joinGotos_X3_numberPlace : GoodIn wsX1_joinGotos wsX3_numberPlace := goodIn_r _ [36, 37, 18, 19, 20, 10, 21, 12, 22, 47, 48, 49, 50, 51, 52, 53, 54, 55, 56, 57] (by decide +kernel) (by decide +kernel)
set_option maxRecDepth 20000 in
theorem gX1_joinGotos_X3_numberPlace : GoodIn wsX1_joinGotos (wsV RX1 41 RX3 yX3_numberPlace wsX3_numberPlace) := goodIn_app (goodIn_of _ (by decide +kernel)) ggX1_joinGotos_X3_numberPlace
set_option maxRecDepth 20000 in
theorem ggX1_joinGotos_X3_aim : GoodIn wsX1_joinGotos wsX3_aim := goodIn_r _ [41, 42, 43, 44, 45, 10, 46, 12, 22, 47, 48, 49, 50, 51, 52, 53, 54, 55, 56, 57] (by decide +kernel) (by decide +kernel)
set_option maxRecDepth 20000 in
theorem gX1_joinGotos_X3_aim : GoodIn wsX1_joinGotos (wsV RX1 44 RX3 yX3_aim wsX3_aim) := goodIn_app (goodIn_of _ (by decide +kernel)) ggX1_joinGotos_X3_aim
theorem dX1_joinGotos_0 : decode cX1_joinGotos 0 = .ok (.iconst 0, 1) := by decide +kernel
theorem dX1_joinGotos_1 : decode cX1_joinGotos 1 = .ok (.istore_n 1, 1) := by decide +kernel
theorem dX1_joinGotos_2 : decode cX1_joinGotos 2 = .ok (.iload_n 1, 1) := by decide +kernel
theorem dX1_joinGotos_3 : decode cX1_joinGotos 3 = .ok (.aload_n 0, 1) := by decide +kernel
theorem dX1_joinGotos_4 : decode cX1_joinGotos 4 = .ok (.invokevirtual 18, 3) := by decide +kernel
theorem dX1_joinGotos_7 : decode cX1_joinGotos 7 = .ok (.if_icmp .ge 63, 3) := by decide +kernel
theorem dX1_joinGotos_10 : decode cX1_joinGotos 10 = .ok (.aload_n 0, 1) := by decide +kernel
theorem dX1_joinGotos_11 : decode cX1_joinGotos 11 = .ok (.iload_n 1, 1) := by decide +kernel
theorem dX1_joinGotos_12 : decode cX1_joinGotos 12 = .ok (.invokevirtual 32, 3) := by decide +kernel
theorem dX1_joinGotos_15 : decode cX1_joinGotos 15 = .ok (.istore_n 2, 1) := by decide +kernel
theorem dX1_joinGotos_16 : decode cX1_joinGotos 16 = .ok (.iload_n 2, 1) := by decide +kernel
theorem dX1_joinGotos_17 : decode cX1_joinGotos 17 = .ok (.sipush 301, 3) := by decide +kernel
theorem dX1_joinGotos_20 : decode cX1_joinGotos 20 = .ok (.if_icmp .eq 10, 3) := by decide +kernel
theorem dX1_joinGotos_23 : decode cX1_joinGotos 23 = .ok (.iload_n 2, 1) := by decide +kernel
theorem dX1_joinGotos_24 : decode cX1_joinGotos 24 = .ok (.sipush 300, 3) := by decide +kernel
theorem dX1_joinGotos_27 : decode cX1_joinGotos 27 = .ok (.if_icmp .ne 37, 3) := by decide +kernel
theorem dX1_joinGotos_30 : decode cX1_joinGotos 30 = .ok (.aload_n 0, 1) := by decide +kernel
theorem dX1_joinGotos_31 : decode cX1_joinGotos 31 = .ok (.aload_n 0, 1) := by decide +kernel
theorem dX1_joinGotos_32 : decode cX1_joinGotos 32 = .ok (.iload_n 1, 1) := by decide +kernel
theorem dX1_joinGotos_33 : decode cX1_joinGotos 33 = .ok (.invokevirtual 48, 3) := by decide +kernel
theorem dX1_joinGotos_36 : decode cX1_joinGotos 36 = .ok (.aload_n 0, 1) := by decide +kernel
theorem dX1_joinGotos_37 : decode cX1_joinGotos 37 = .ok (.invokevirtual 18, 3) := by decide +kernel
theorem dX1_joinGotos_40 : decode cX1_joinGotos 40 = .ok (.invokevirtual 61, 3) := by decide +kernel
theorem dX1_joinGotos_43 : decode cX1_joinGotos 43 = .ok (.istore_n 3, 1) := by decide +kernel
theorem dX1_joinGotos_44 : decode cX1_joinGotos 44 = .ok (.iload_n 3, 1) := by decide +kernel
theorem dX1_joinGotos_45 : decode cX1_joinGotos 45 = .ok (.aload_n 0, 1) := by decide +kernel
theorem dX1_joinGotos_46 : decode cX1_joinGotos 46 = .ok (.invokevirtual 18, 3) := by decide +kernel
theorem dX1_joinGotos_49 : decode cX1_joinGotos 49 = .ok (.if_icmp .ne 9, 3) := by decide +kernel
theorem dX1_joinGotos_52 : decode cX1_joinGotos 52 = .ok (.aload_n 0, 1) := by decide +kernel
theorem dX1_joinGotos_53 : decode cX1_joinGotos 53 = .ok (.iload_n 1, 1) := by decide +kernel
theorem dX1_joinGotos_54 : decode cX1_joinGotos 54 = .ok (.invokevirtual 41, 3) := by decide +kernel
theorem dX1_joinGotos_57 : decode cX1_joinGotos 57 = .ok (.ireturn, 1) := by decide +kernel
theorem dX1_joinGotos_58 : decode cX1_joinGotos 58 = .ok (.aload_n 0, 1) := by decide +kernel
theorem dX1_joinGotos_59 : decode cX1_joinGotos 59 = .ok (.iload_n 1, 1) := by decide +kernel
theorem dX1_joinGotos_60 : decode cX1_joinGotos 60 = .ok (.iload_n 3, 1) := by decide +kernel
theorem dX1_joinGotos_61 : decode cX1_joinGotos 61 = .ok (.invokevirtual 44, 3) := by decide +kernel
theorem dX1_joinGotos_64 : decode cX1_joinGotos 64 = .ok (.iinc 1 1, 3) := by decide +kernel
theorem dX1_joinGotos_67 : decode cX1_joinGotos 67 = .ok (.goto (-65), 3) := by decide +kernel
theorem dX1_joinGotos_70 : decode cX1_joinGotos 70 = .ok (.iconst (-1), 1) := by decide +kernel
theorem dX1_joinGotos_71 : decode cX1_joinGotos 71 = .ok (.ireturn, 1) := by decide +kernel
