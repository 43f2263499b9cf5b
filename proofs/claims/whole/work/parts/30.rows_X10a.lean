theorem dX9_init_0 : decode cX9_init 0 = .ok (.aload_n 0, 1) := by decide +kernel
theorem dX9_init_1 : decode cX9_init 1 = .ok (.invokespecial 3, 3) := by decide +kernel
theorem dX9_init_4 : decode cX9_init 4 = .ok (.aload_n 0, 1) := by decide +kernel
theorem dX9_init_5 : decode cX9_init 5 = .ok (.sipush 16000, 3) := by decide +kernel
theorem dX9_init_8 : decode cX9_init 8 = .ok (.newarray .byte, 2) := by decide +kernel
theorem dX9_init_10 : decode cX9_init 10 = .ok (.putfield 9, 3) := by decide +kernel
theorem dX9_init_13 : decode cX9_init 13 = .ok (.aload_n 0, 1) := by decide +kernel
theorem dX9_init_14 : decode cX9_init 14 = .ok (.sipush 32008, 3) := by decide +kernel
theorem dX9_init_17 : decode cX9_init 17 = .ok (.newarray .byte, 2) := by decide +kernel
theorem dX9_init_19 : decode cX9_init 19 = .ok (.putfield 15, 3) := by decide +kernel
theorem dX9_init_22 : decode cX9_init 22 = .ok (.aload_n 0, 1) := by decide +kernel
theorem dX9_init_23 : decode cX9_init 23 = .ok (.sipush 32008, 3) := by decide +kernel
theorem dX9_init_26 : decode cX9_init 26 = .ok (.newarray .int, 2) := by decide +kernel
theorem dX9_init_28 : decode cX9_init 28 = .ok (.putfield 18, 3) := by decide +kernel
theorem dX9_init_31 : decode cX9_init 31 = .ok (.aload_n 0, 1) := by decide +kernel
theorem dX9_init_32 : decode cX9_init 32 = .ok (.sipush 32008, 3) := by decide +kernel
theorem dX9_init_35 : decode cX9_init 35 = .ok (.newarray .int, 2) := by decide +kernel
theorem dX9_init_37 : decode cX9_init 37 = .ok (.putfield 22, 3) := by decide +kernel
theorem dX9_init_40 : decode cX9_init 40 = .ok (.aload_n 0, 1) := by decide +kernel
theorem dX9_init_41 : decode cX9_init 41 = .ok (.sipush 32008, 3) := by decide +kernel
theorem dX9_init_44 : decode cX9_init 44 = .ok (.newarray .boolean, 2) := by decide +kernel
theorem dX9_init_46 : decode cX9_init 46 = .ok (.putfield 25, 3) := by decide +kernel
theorem dX9_init_49 : decode cX9_init 49 = .ok (.aload_n 0, 1) := by decide +kernel
theorem dX9_init_50 : decode cX9_init 50 = .ok (.sipush 16002, 3) := by decide +kernel
theorem dX9_init_53 : decode cX9_init 53 = .ok (.newarray .int, 2) := by decide +kernel
theorem dX9_init_55 : decode cX9_init 55 = .ok (.putfield 29, 3) := by decide +kernel
theorem dX9_init_58 : decode cX9_init 58 = .ok (.aload_n 0, 1) := by decide +kernel
theorem dX9_init_59 : decode cX9_init 59 = .ok (.sipush 16002, 3) := by decide +kernel
theorem dX9_init_62 : decode cX9_init 62 = .ok (.newarray .byte, 2) := by decide +kernel
theorem dX9_init_64 : decode cX9_init 64 = .ok (.putfield 32, 3) := by decide +kernel
theorem dX9_init_67 : decode cX9_init 67 = .ok (.aload_n 0, 1) := by decide +kernel
theorem dX9_init_68 : decode cX9_init 68 = .ok (.sipush 16002, 3) := by decide +kernel
theorem dX9_init_71 : decode cX9_init 71 = .ok (.newarray .int, 2) := by decide +kernel
theorem dX9_init_73 : decode cX9_init 73 = .ok (.putfield 35, 3) := by decide +kernel
theorem dX9_init_76 : decode cX9_init 76 = .ok (.aload_n 0, 1) := by decide +kernel
theorem dX9_init_77 : decode cX9_init 77 = .ok (.sipush 16002, 3) := by decide +kernel
theorem dX9_init_80 : decode cX9_init 80 = .ok (.newarray .int, 2) := by decide +kernel
theorem dX9_init_82 : decode cX9_init 82 = .ok (.putfield 38, 3) := by decide +kernel
theorem dX9_init_85 : decode cX9_init 85 = .ok (.aload_n 0, 1) := by decide +kernel
theorem dX9_init_86 : decode cX9_init 86 = .ok (.sipush 16002, 3) := by decide +kernel
theorem dX9_init_89 : decode cX9_init 89 = .ok (.newarray .int, 2) := by decide +kernel
theorem dX9_init_91 : decode cX9_init 91 = .ok (.putfield 41, 3) := by decide +kernel
theorem dX9_init_94 : decode cX9_init 94 = .ok (.return_, 1) := by decide +kernel
set_option maxRecDepth 20000 in
theorem ggX10_init_X9_init : GoodIn wsX10_init wsX9_init := goodIn_r _ [20, 21, 4, 5, 11, 22, 23, 15, 24, 25, 26, 27, 28, 29, 30, 31, 32, 37, 38, 39, 40, 41, 42, 43, 44, 45, 46, 47, 48, 49] (by decide +kernel) (by decide +kernel)
set_option maxRecDepth 20000 in
theorem gX10_init_X9_init_n9 : GoodIn wsX10_init (wsX9_init) := ggX10_init_X9_init
set_option maxRecDepth 20000 in
theorem ggX10_init_Jxb5711_init_da8c8 : GoodIn wsX10_init wsJxb5711_init_da8c8 := goodIn_r _ [36] (by decide +kernel) (by decide +kernel)
set_option maxRecDepth 20000 in
theorem gX10_init_Jxb5711_init_da8c8 : GoodIn wsX10_init (wsJxb5711_init_da8c8) := ggX10_init_Jxb5711_init_da8c8
theorem dX10_init_0 : decode cX10_init 0 = .ok (.aload_n 0, 1) := by decide +kernel
theorem dX10_init_1 : decode cX10_init 1 = .ok (.invokespecial 1, 3) := by decide +kernel
theorem dX10_init_4 : decode cX10_init 4 = .ok (.aload_n 0, 1) := by decide +kernel
theorem dX10_init_5 : decode cX10_init 5 = .ok (.new 7, 3) := by decide +kernel
theorem dX10_init_8 : decode cX10_init 8 = .ok (.dup, 1) := by decide +kernel
theorem dX10_init_9 : decode cX10_init 9 = .ok (.invokespecial 9, 3) := by decide +kernel
theorem dX10_init_12 : decode cX10_init 12 = .ok (.putfield 10, 3) := by decide +kernel
theorem dX10_init_15 : decode cX10_init 15 = .ok (.aload_n 0, 1) := by decide +kernel
theorem dX10_init_16 : decode cX10_init 16 = .ok (.new 7, 3) := by decide +kernel
theorem dX10_init_19 : decode cX10_init 19 = .ok (.dup, 1) := by decide +kernel
theorem dX10_init_20 : decode cX10_init 20 = .ok (.invokespecial 9, 3) := by decide +kernel
theorem dX10_init_23 : decode cX10_init 23 = .ok (.putfield 16, 3) := by decide +kernel
theorem dX10_init_26 : decode cX10_init 26 = .ok (.aload_n 0, 1) := by decide +kernel
theorem dX10_init_27 : decode cX10_init 27 = .ok (.sipush 16000, 3) := by decide +kernel
theorem dX10_init_30 : decode cX10_init 30 = .ok (.newarray .byte, 2) := by decide +kernel
theorem dX10_init_32 : decode cX10_init 32 = .ok (.putfield 19, 3) := by decide +kernel
theorem dX10_init_35 : decode cX10_init 35 = .ok (.aload_n 0, 1) := by decide +kernel
theorem dX10_init_36 : decode cX10_init 36 = .ok (.new 23, 3) := by decide +kernel
theorem dX10_init_39 : decode cX10_init 39 = .ok (.dup, 1) := by decide +kernel
theorem dX10_init_40 : decode cX10_init 40 = .ok (.invokespecial 25, 3) := by decide +kernel
theorem dX10_init_43 : decode cX10_init 43 = .ok (.putfield 26, 3) := by decide +kernel
theorem dX10_init_46 : decode cX10_init 46 = .ok (.aload_n 0, 1) := by decide +kernel
theorem dX10_init_47 : decode cX10_init 47 = .ok (.iconst (-1), 1) := by decide +kernel
theorem dX10_init_48 : decode cX10_init 48 = .ok (.putfield 30, 3) := by decide +kernel
theorem dX10_init_51 : decode cX10_init 51 = .ok (.aload_n 0, 1) := by decide +kernel
theorem dX10_init_52 : decode cX10_init 52 = .ok (.iconst 4, 1) := by decide +kernel
theorem dX10_init_53 : decode cX10_init 53 = .ok (.newarray .int, 2) := by decide +kernel
theorem dX10_init_55 : decode cX10_init 55 = .ok (.putfield 34, 3) := by decide +kernel
theorem dX10_init_58 : decode cX10_init 58 = .ok (.aload_n 0, 1) := by decide +kernel
theorem dX10_init_59 : decode cX10_init 59 = .ok (.sipush 200, 3) := by decide +kernel
theorem dX10_init_62 : decode cX10_init 62 = .ok (.newarray .long, 2) := by decide +kernel
theorem dX10_init_64 : decode cX10_init 64 = .ok (.putfield 38, 3) := by decide +kernel
theorem dX10_init_67 : decode cX10_init 67 = .ok (.return_, 1) := by decide +kernel
theorem dX10_four_0 : decode cX10_four 0 = .ok (.iconst 0, 1) := by decide +kernel
theorem dX10_four_1 : decode cX10_four 1 = .ok (.istore_n 2, 1) := by decide +kernel
theorem dX10_four_2 : decode cX10_four 2 = .ok (.iload_n 2, 1) := by decide +kernel
theorem dX10_four_3 : decode cX10_four 3 = .ok (.iconst 4, 1) := by decide +kernel
theorem dX10_four_4 : decode cX10_four 4 = .ok (.if_icmp .ge 38, 3) := by decide +kernel
theorem dX10_four_7 : decode cX10_four 7 = .ok (.aload_n 0, 1) := by decide +kernel
theorem dX10_four_8 : decode cX10_four 8 = .ok (.getfield 19, 3) := by decide +kernel
theorem dX10_four_11 : decode cX10_four 11 = .ok (.aload_n 0, 1) := by decide +kernel
theorem dX10_four_12 : decode cX10_four 12 = .ok (.getfield 42, 3) := by decide +kernel
theorem dX10_four_15 : decode cX10_four 15 = .ok (.iload_n 1, 1) := by decide +kernel
theorem dX10_four_16 : decode cX10_four 16 = .ok (.bipush 24, 2) := by decide +kernel
theorem dX10_four_18 : decode cX10_four 18 = .ok (.bipush 8, 2) := by decide +kernel
theorem dX10_four_20 : decode cX10_four 20 = .ok (.iload_n 2, 1) := by decide +kernel
theorem dX10_four_21 : decode cX10_four 21 = .ok (.imul, 1) := by decide +kernel
theorem dX10_four_22 : decode cX10_four 22 = .ok (.isub, 1) := by decide +kernel
theorem dX10_four_23 : decode cX10_four 23 = .ok (.ishr, 1) := by decide +kernel
theorem dX10_four_24 : decode cX10_four 24 = .ok (.i2b, 1) := by decide +kernel
theorem dX10_four_25 : decode cX10_four 25 = .ok (.bastore, 1) := by decide +kernel
theorem dX10_four_26 : decode cX10_four 26 = .ok (.aload_n 0, 1) := by decide +kernel
theorem dX10_four_27 : decode cX10_four 27 = .ok (.dup, 1) := by decide +kernel
theorem dX10_four_28 : decode cX10_four 28 = .ok (.getfield 42, 3) := by decide +kernel
theorem dX10_four_31 : decode cX10_four 31 = .ok (.iconst 1, 1) := by decide +kernel
theorem dX10_four_32 : decode cX10_four 32 = .ok (.iadd, 1) := by decide +kernel
theorem dX10_four_33 : decode cX10_four 33 = .ok (.putfield 42, 3) := by decide +kernel
theorem dX10_four_36 : decode cX10_four 36 = .ok (.iinc 2 1, 3) := by decide +kernel
theorem dX10_four_39 : decode cX10_four 39 = .ok (.goto (-37), 3) := by decide +kernel
theorem dX10_four_42 : decode cX10_four 42 = .ok (.return_, 1) := by decide +kernel
set_option maxRecDepth 20000 in
theorem ggX10_feed_X10_four : GoodIn wsX10_feed wsX10_four := goodIn_r _ [8, 9, 1, 10, 11, 12, 13, 14, 15, 16, 17, 18, 19, 20, 21, 22, 23, 24, 25, 26, 27, 28] (by decide +kernel) (by decide +kernel)
set_option maxRecDepth 20000 in
theorem gX10_feed_X10_four : GoodIn wsX10_feed (wsV RX10 49 RX10 yX10_four wsX10_four) := goodIn_app (goodIn_of _ (by decide +kernel)) ggX10_feed_X10_four
theorem dX10_feed_0 : decode cX10_feed 0 = .ok (.aload_n 0, 1) := by decide +kernel
theorem dX10_feed_1 : decode cX10_feed 1 = .ok (.getfield 42, 3) := by decide +kernel
theorem dX10_feed_4 : decode cX10_feed 4 = .ok (.bipush 20, 2) := by decide +kernel
theorem dX10_feed_6 : decode cX10_feed 6 = .ok (.iadd, 1) := by decide +kernel
theorem dX10_feed_7 : decode cX10_feed 7 = .ok (.sipush 16000, 3) := by decide +kernel
theorem dX10_feed_10 : decode cX10_feed 10 = .ok (.if_icmp .gt 15, 3) := by decide +kernel
theorem dX10_feed_13 : decode cX10_feed 13 = .ok (.aload_n 0, 1) := by decide +kernel
theorem dX10_feed_14 : decode cX10_feed 14 = .ok (.getfield 45, 3) := by decide +kernel
theorem dX10_feed_17 : decode cX10_feed 17 = .ok (.bipush 20, 2) := by decide +kernel
theorem dX10_feed_19 : decode cX10_feed 19 = .ok (.iadd, 1) := by decide +kernel
theorem dX10_feed_20 : decode cX10_feed 20 = .ok (.ldc 48, 2) := by decide +kernel
theorem dX10_feed_22 : decode cX10_feed 22 = .ok (.if_icmp .le 5, 3) := by decide +kernel
theorem dX10_feed_25 : decode cX10_feed 25 = .ok (.iconst (-1), 1) := by decide +kernel
theorem dX10_feed_26 : decode cX10_feed 26 = .ok (.ireturn, 1) := by decide +kernel
theorem dX10_feed_27 : decode cX10_feed 27 = .ok (.aload_n 0, 1) := by decide +kernel
theorem dX10_feed_28 : decode cX10_feed 28 = .ok (.iload_n 1, 1) := by decide +kernel
theorem dX10_feed_29 : decode cX10_feed 29 = .ok (.invokevirtual 49, 3) := by decide +kernel
theorem dX10_feed_32 : decode cX10_feed 32 = .ok (.aload_n 0, 1) := by decide +kernel
theorem dX10_feed_33 : decode cX10_feed 33 = .ok (.iload_n 2, 1) := by decide +kernel
theorem dX10_feed_34 : decode cX10_feed 34 = .ok (.invokevirtual 49, 3) := by decide +kernel
theorem dX10_feed_37 : decode cX10_feed 37 = .ok (.aload_n 0, 1) := by decide +kernel
theorem dX10_feed_38 : decode cX10_feed 38 = .ok (.iload_n 3, 1) := by decide +kernel
theorem dX10_feed_39 : decode cX10_feed 39 = .ok (.invokevirtual 49, 3) := by decide +kernel
theorem dX10_feed_42 : decode cX10_feed 42 = .ok (.aload_n 0, 1) := by decide +kernel
theorem dX10_feed_43 : decode cX10_feed 43 = .ok (.iload 4, 2) := by decide +kernel
theorem dX10_feed_45 : decode cX10_feed 45 = .ok (.invokevirtual 49, 3) := by decide +kernel
theorem dX10_feed_48 : decode cX10_feed 48 = .ok (.aload_n 0, 1) := by decide +kernel
theorem dX10_feed_49 : decode cX10_feed 49 = .ok (.iload 5, 2) := by decide +kernel
theorem dX10_feed_51 : decode cX10_feed 51 = .ok (.invokevirtual 49, 3) := by decide +kernel
theorem dX10_feed_54 : decode cX10_feed 54 = .ok (.aload_n 0, 1) := by decide +kernel
theorem dX10_feed_55 : decode cX10_feed 55 = .ok (.dup, 1) := by decide +kernel
theorem dX10_feed_56 : decode cX10_feed 56 = .ok (.getfield 45, 3) := by decide +kernel
theorem dX10_feed_59 : decode cX10_feed 59 = .ok (.bipush 20, 2) := by decide +kernel
theorem dX10_feed_61 : decode cX10_feed 61 = .ok (.iadd, 1) := by decide +kernel
theorem dX10_feed_62 : decode cX10_feed 62 = .ok (.putfield 45, 3) := by decide +kernel
theorem dX10_feed_65 : decode cX10_feed 65 = .ok (.aload_n 0, 1) := by decide +kernel
theorem dX10_feed_66 : decode cX10_feed 66 = .ok (.getfield 42, 3) := by decide +kernel
theorem dX10_feed_69 : decode cX10_feed 69 = .ok (.ireturn, 1) := by decide +kernel
theorem dX10_end_0 : decode cX10_end 0 = .ok (.iload_n 1, 1) := by decide +kernel
theorem dX10_end_1 : decode cX10_end 1 = .ok (.ifCond .lt 11, 3) := by decide +kernel
theorem dX10_end_4 : decode cX10_end 4 = .ok (.iload_n 1, 1) := by decide +kernel
theorem dX10_end_5 : decode cX10_end 5 = .ok (.aload_n 0, 1) := by decide +kernel
theorem dX10_end_6 : decode cX10_end 6 = .ok (.getfield 42, 3) := by decide +kernel
theorem dX10_end_9 : decode cX10_end 9 = .ok (.if_icmp .le 5, 3) := by decide +kernel
theorem dX10_end_12 : decode cX10_end 12 = .ok (.iconst (-1), 1) := by decide +kernel
theorem dX10_end_13 : decode cX10_end 13 = .ok (.ireturn, 1) := by decide +kernel
theorem dX10_end_14 : decode cX10_end 14 = .ok (.aload_n 0, 1) := by decide +kernel
theorem dX10_end_15 : decode cX10_end 15 = .ok (.iload_n 1, 1) := by decide +kernel
theorem dX10_end_16 : decode cX10_end 16 = .ok (.putfield 42, 3) := by decide +kernel
theorem dX10_end_19 : decode cX10_end 19 = .ok (.iload_n 1, 1) := by decide +kernel
theorem dX10_end_20 : decode cX10_end 20 = .ok (.ireturn, 1) := by decide +kernel
theorem dX10_look_0 : decode cX10_look 0 = .ok (.iload_n 1, 1) := by decide +kernel
theorem dX10_look_1 : decode cX10_look 1 = .ok (.aload_n 0, 1) := by decide +kernel
theorem dX10_look_2 : decode cX10_look 2 = .ok (.getfield 53, 3) := by decide +kernel
theorem dX10_look_5 : decode cX10_look 5 = .ok (.getfield 56, 3) := by decide +kernel
theorem dX10_look_8 : decode cX10_look 8 = .ok (.if_icmp .ge 19, 3) := by decide +kernel
theorem dX10_look_11 : decode cX10_look 11 = .ok (.aload_n 0, 1) := by decide +kernel
theorem dX10_look_12 : decode cX10_look 12 = .ok (.getfield 53, 3) := by decide +kernel
theorem dX10_look_15 : decode cX10_look 15 = .ok (.getfield 59, 3) := by decide +kernel
theorem dX10_look_18 : decode cX10_look 18 = .ok (.iload_n 1, 1) := by decide +kernel
theorem dX10_look_19 : decode cX10_look 19 = .ok (.baload, 1) := by decide +kernel
theorem dX10_look_20 : decode cX10_look 20 = .ok (.sipush 255, 3) := by decide +kernel
theorem dX10_look_23 : decode cX10_look 23 = .ok (.iand, 1) := by decide +kernel
theorem dX10_look_24 : decode cX10_look 24 = .ok (.goto 4, 3) := by decide +kernel
theorem dX10_look_27 : decode cX10_look 27 = .ok (.iconst (-1), 1) := by decide +kernel
theorem dX10_look_28 : decode cX10_look 28 = .ok (.ireturn, 1) := by decide +kernel
theorem dX10_isDigit_0 : decode cX10_isDigit 0 = .ok (.iload_n 0, 1) := by decide +kernel
theorem dX10_isDigit_1 : decode cX10_isDigit 1 = .ok (.bipush 48, 2) := by decide +kernel
theorem dX10_isDigit_3 : decode cX10_isDigit 3 = .ok (.if_icmp .lt 13, 3) := by decide +kernel
theorem dX10_isDigit_6 : decode cX10_isDigit 6 = .ok (.iload_n 0, 1) := by decide +kernel
theorem dX10_isDigit_7 : decode cX10_isDigit 7 = .ok (.bipush 57, 2) := by decide +kernel
theorem dX10_isDigit_9 : decode cX10_isDigit 9 = .ok (.if_icmp .gt 7, 3) := by decide +kernel
theorem dX10_isDigit_12 : decode cX10_isDigit 12 = .ok (.iconst 1, 1) := by decide +kernel
theorem dX10_isDigit_13 : decode cX10_isDigit 13 = .ok (.goto 4, 3) := by decide +kernel
theorem dX10_isDigit_16 : decode cX10_isDigit 16 = .ok (.iconst 0, 1) := by decide +kernel
theorem dX10_isDigit_17 : decode cX10_isDigit 17 = .ok (.ireturn, 1) := by decide +kernel
theorem dX10_isCapital_0 : decode cX10_isCapital 0 = .ok (.iload_n 0, 1) := by decide +kernel
theorem dX10_isCapital_1 : decode cX10_isCapital 1 = .ok (.bipush 65, 2) := by decide +kernel
theorem dX10_isCapital_3 : decode cX10_isCapital 3 = .ok (.if_icmp .lt 13, 3) := by decide +kernel
theorem dX10_isCapital_6 : decode cX10_isCapital 6 = .ok (.iload_n 0, 1) := by decide +kernel
theorem dX10_isCapital_7 : decode cX10_isCapital 7 = .ok (.bipush 90, 2) := by decide +kernel
theorem dX10_isCapital_9 : decode cX10_isCapital 9 = .ok (.if_icmp .gt 7, 3) := by decide +kernel
theorem dX10_isCapital_12 : decode cX10_isCapital 12 = .ok (.iconst 1, 1) := by decide +kernel
theorem dX10_isCapital_13 : decode cX10_isCapital 13 = .ok (.goto 4, 3) := by decide +kernel
theorem dX10_isCapital_16 : decode cX10_isCapital 16 = .ok (.iconst 0, 1) := by decide +kernel
theorem dX10_isCapital_17 : decode cX10_isCapital 17 = .ok (.ireturn, 1) := by decide +kernel
theorem dX10_token_0 : decode cX10_token 0 = .ok (.aload_n 0, 1) := by decide +kernel
theorem dX10_token_1 : decode cX10_token 1 = .ok (.getfield 53, 3) := by decide +kernel
theorem dX10_token_4 : decode cX10_token 4 = .ok (.getfield 62, 3) := by decide +kernel
theorem dX10_token_7 : decode cX10_token 7 = .ok (.aload_n 0, 1) := by decide +kernel
theorem dX10_token_8 : decode cX10_token 8 = .ok (.getfield 53, 3) := by decide +kernel
theorem dX10_token_11 : decode cX10_token 11 = .ok (.getfield 65, 3) := by decide +kernel
theorem dX10_token_14 : decode cX10_token 14 = .ok (.iload_n 1, 1) := by decide +kernel
theorem dX10_token_15 : decode cX10_token 15 = .ok (.i2b, 1) := by decide +kernel
theorem dX10_token_16 : decode cX10_token 16 = .ok (.bastore, 1) := by decide +kernel
theorem dX10_token_17 : decode cX10_token 17 = .ok (.aload_n 0, 1) := by decide +kernel
theorem dX10_token_18 : decode cX10_token 18 = .ok (.getfield 53, 3) := by decide +kernel
theorem dX10_token_21 : decode cX10_token 21 = .ok (.getfield 68, 3) := by decide +kernel
theorem dX10_token_24 : decode cX10_token 24 = .ok (.aload_n 0, 1) := by decide +kernel
theorem dX10_token_25 : decode cX10_token 25 = .ok (.getfield 53, 3) := by decide +kernel
theorem dX10_token_28 : decode cX10_token 28 = .ok (.getfield 65, 3) := by decide +kernel
theorem dX10_token_31 : decode cX10_token 31 = .ok (.iload_n 2, 1) := by decide +kernel
theorem dX10_token_32 : decode cX10_token 32 = .ok (.iastore, 1) := by decide +kernel
theorem dX10_token_33 : decode cX10_token 33 = .ok (.aload_n 0, 1) := by decide +kernel
theorem dX10_token_34 : decode cX10_token 34 = .ok (.getfield 53, 3) := by decide +kernel
theorem dX10_token_37 : decode cX10_token 37 = .ok (.getfield 71, 3) := by decide +kernel
theorem dX10_token_40 : decode cX10_token 40 = .ok (.aload_n 0, 1) := by decide +kernel
theorem dX10_token_41 : decode cX10_token 41 = .ok (.getfield 53, 3) := by decide +kernel
theorem dX10_token_44 : decode cX10_token 44 = .ok (.getfield 65, 3) := by decide +kernel
theorem dX10_token_47 : decode cX10_token 47 = .ok (.iload_n 3, 1) := by decide +kernel
theorem dX10_token_48 : decode cX10_token 48 = .ok (.iastore, 1) := by decide +kernel
theorem dX10_token_49 : decode cX10_token 49 = .ok (.aload_n 0, 1) := by decide +kernel
theorem dX10_token_50 : decode cX10_token 50 = .ok (.getfield 53, 3) := by decide +kernel
theorem dX10_token_53 : decode cX10_token 53 = .ok (.getfield 74, 3) := by decide +kernel
theorem dX10_token_56 : decode cX10_token 56 = .ok (.aload_n 0, 1) := by decide +kernel
theorem dX10_token_57 : decode cX10_token 57 = .ok (.getfield 53, 3) := by decide +kernel
theorem dX10_token_60 : decode cX10_token 60 = .ok (.getfield 65, 3) := by decide +kernel
theorem dX10_token_63 : decode cX10_token 63 = .ok (.iload 4, 2) := by decide +kernel
theorem dX10_token_65 : decode cX10_token 65 = .ok (.bastore, 1) := by decide +kernel
theorem dX10_token_66 : decode cX10_token 66 = .ok (.aload_n 0, 1) := by decide +kernel
theorem dX10_token_67 : decode cX10_token 67 = .ok (.getfield 53, 3) := by decide +kernel
theorem dX10_token_70 : decode cX10_token 70 = .ok (.dup, 1) := by decide +kernel
theorem dX10_token_71 : decode cX10_token 71 = .ok (.getfield 65, 3) := by decide +kernel
theorem dX10_token_74 : decode cX10_token 74 = .ok (.iconst 1, 1) := by decide +kernel
theorem dX10_token_75 : decode cX10_token 75 = .ok (.iadd, 1) := by decide +kernel
theorem dX10_token_76 : decode cX10_token 76 = .ok (.putfield 65, 3) := by decide +kernel
theorem dX10_token_79 : decode cX10_token 79 = .ok (.return_, 1) := by decide +kernel
set_option maxRecDepth 20000 in
theorem ggX10_behindBlanks_X10_look : GoodIn wsX10_behindBlanks wsX10_look := goodIn_r _ [5, 6, 7, 8, 9, 10, 11, 12, 13, 14, 15, 16, 17, 18, 19, 20, 21, 22, 23, 24, 25, 26, 27, 28, 29, 30, 31, 32, 33, 34, 35, 36, 37, 38, 39, 40] (by decide +kernel) (by decide +kernel)
set_option maxRecDepth 20000 in
theorem gX10_behindBlanks_X10_look : GoodIn wsX10_behindBlanks (wsV RX10 78 RX10 yX10_look wsX10_look) := goodIn_app (goodIn_of _ (by decide +kernel)) ggX10_behindBlanks_X10_look
theorem dX10_behindBlanks_0 : decode cX10_behindBlanks 0 = .ok (.iload_n 1, 1) := by decide +kernel
theorem dX10_behindBlanks_1 : decode cX10_behindBlanks 1 = .ok (.istore_n 2, 1) := by decide +kernel
theorem dX10_behindBlanks_2 : decode cX10_behindBlanks 2 = .ok (.aload_n 0, 1) := by decide +kernel
theorem dX10_behindBlanks_3 : decode cX10_behindBlanks 3 = .ok (.iload_n 2, 1) := by decide +kernel
theorem dX10_behindBlanks_4 : decode cX10_behindBlanks 4 = .ok (.invokevirtual 78, 3) := by decide +kernel
theorem dX10_behindBlanks_7 : decode cX10_behindBlanks 7 = .ok (.istore_n 3, 1) := by decide +kernel
theorem dX10_behindBlanks_8 : decode cX10_behindBlanks 8 = .ok (.iload_n 3, 1) := by decide +kernel
theorem dX10_behindBlanks_9 : decode cX10_behindBlanks 9 = .ok (.bipush 9, 2) := by decide +kernel
theorem dX10_behindBlanks_11 : decode cX10_behindBlanks 11 = .ok (.if_icmp .eq 15, 3) := by decide +kernel
theorem dX10_behindBlanks_14 : decode cX10_behindBlanks 14 = .ok (.iload_n 3, 1) := by decide +kernel
theorem dX10_behindBlanks_15 : decode cX10_behindBlanks 15 = .ok (.bipush 13, 2) := by decide +kernel
theorem dX10_behindBlanks_17 : decode cX10_behindBlanks 17 = .ok (.if_icmp .eq 9, 3) := by decide +kernel
theorem dX10_behindBlanks_20 : decode cX10_behindBlanks 20 = .ok (.iload_n 3, 1) := by decide +kernel
theorem dX10_behindBlanks_21 : decode cX10_behindBlanks 21 = .ok (.bipush 32, 2) := by decide +kernel
theorem dX10_behindBlanks_23 : decode cX10_behindBlanks 23 = .ok (.if_icmp .ne 9, 3) := by decide +kernel
theorem dX10_behindBlanks_26 : decode cX10_behindBlanks 26 = .ok (.iinc 2 1, 3) := by decide +kernel
theorem dX10_behindBlanks_29 : decode cX10_behindBlanks 29 = .ok (.goto 76, 3) := by decide +kernel
theorem dX10_behindBlanks_32 : decode cX10_behindBlanks 32 = .ok (.iload_n 3, 1) := by decide +kernel
theorem dX10_behindBlanks_33 : decode cX10_behindBlanks 33 = .ok (.bipush 40, 2) := by decide +kernel
theorem dX10_behindBlanks_35 : decode cX10_behindBlanks 35 = .ok (.if_icmp .ne 68, 3) := by decide +kernel
theorem dX10_behindBlanks_38 : decode cX10_behindBlanks 38 = .ok (.iload_n 2, 1) := by decide +kernel
theorem dX10_behindBlanks_39 : decode cX10_behindBlanks 39 = .ok (.iconst 1, 1) := by decide +kernel
theorem dX10_behindBlanks_40 : decode cX10_behindBlanks 40 = .ok (.iadd, 1) := by decide +kernel
theorem dX10_behindBlanks_41 : decode cX10_behindBlanks 41 = .ok (.istore 4, 2) := by decide +kernel
theorem dX10_behindBlanks_43 : decode cX10_behindBlanks 43 = .ok (.aload_n 0, 1) := by decide +kernel
theorem dX10_behindBlanks_44 : decode cX10_behindBlanks 44 = .ok (.iload 4, 2) := by decide +kernel
theorem dX10_behindBlanks_46 : decode cX10_behindBlanks 46 = .ok (.invokevirtual 78, 3) := by decide +kernel
theorem dX10_behindBlanks_49 : decode cX10_behindBlanks 49 = .ok (.bipush 32, 2) := by decide +kernel
theorem dX10_behindBlanks_51 : decode cX10_behindBlanks 51 = .ok (.if_icmp .lt 31, 3) := by decide +kernel
theorem dX10_behindBlanks_54 : decode cX10_behindBlanks 54 = .ok (.aload_n 0, 1) := by decide +kernel
theorem dX10_behindBlanks_55 : decode cX10_behindBlanks 55 = .ok (.iload 4, 2) := by decide +kernel
theorem dX10_behindBlanks_57 : decode cX10_behindBlanks 57 = .ok (.invokevirtual 78, 3) := by decide +kernel
theorem dX10_behindBlanks_60 : decode cX10_behindBlanks 60 = .ok (.bipush 126, 2) := by decide +kernel
theorem dX10_behindBlanks_62 : decode cX10_behindBlanks 62 = .ok (.if_icmp .gt 20, 3) := by decide +kernel
theorem dX10_behindBlanks_65 : decode cX10_behindBlanks 65 = .ok (.aload_n 0, 1) := by decide +kernel
theorem dX10_behindBlanks_66 : decode cX10_behindBlanks 66 = .ok (.iload 4, 2) := by decide +kernel
theorem dX10_behindBlanks_68 : decode cX10_behindBlanks 68 = .ok (.invokevirtual 78, 3) := by decide +kernel
theorem dX10_behindBlanks_71 : decode cX10_behindBlanks 71 = .ok (.bipush 41, 2) := by decide +kernel
theorem dX10_behindBlanks_73 : decode cX10_behindBlanks 73 = .ok (.if_icmp .eq 9, 3) := by decide +kernel
theorem dX10_behindBlanks_76 : decode cX10_behindBlanks 76 = .ok (.iinc 4 1, 3) := by decide +kernel
theorem dX10_behindBlanks_79 : decode cX10_behindBlanks 79 = .ok (.goto (-36), 3) := by decide +kernel
theorem dX10_behindBlanks_82 : decode cX10_behindBlanks 82 = .ok (.aload_n 0, 1) := by decide +kernel
theorem dX10_behindBlanks_83 : decode cX10_behindBlanks 83 = .ok (.iload 4, 2) := by decide +kernel
theorem dX10_behindBlanks_85 : decode cX10_behindBlanks 85 = .ok (.invokevirtual 78, 3) := by decide +kernel
theorem dX10_behindBlanks_88 : decode cX10_behindBlanks 88 = .ok (.bipush 41, 2) := by decide +kernel
theorem dX10_behindBlanks_90 : decode cX10_behindBlanks 90 = .ok (.if_icmp .eq 5, 3) := by decide +kernel
theorem dX10_behindBlanks_93 : decode cX10_behindBlanks 93 = .ok (.iload_n 2, 1) := by decide +kernel
theorem dX10_behindBlanks_94 : decode cX10_behindBlanks 94 = .ok (.ireturn, 1) := by decide +kernel
theorem dX10_behindBlanks_95 : decode cX10_behindBlanks 95 = .ok (.iload 4, 2) := by decide +kernel
theorem dX10_behindBlanks_97 : decode cX10_behindBlanks 97 = .ok (.iconst 1, 1) := by decide +kernel
theorem dX10_behindBlanks_98 : decode cX10_behindBlanks 98 = .ok (.iadd, 1) := by decide +kernel
theorem dX10_behindBlanks_99 : decode cX10_behindBlanks 99 = .ok (.istore_n 2, 1) := by decide +kernel
theorem dX10_behindBlanks_100 : decode cX10_behindBlanks 100 = .ok (.goto 5, 3) := by decide +kernel
theorem dX10_behindBlanks_103 : decode cX10_behindBlanks 103 = .ok (.iload_n 2, 1) := by decide +kernel
theorem dX10_behindBlanks_104 : decode cX10_behindBlanks 104 = .ok (.ireturn, 1) := by decide +kernel
theorem dX10_behindBlanks_105 : decode cX10_behindBlanks 105 = .ok (.goto (-103), 3) := by decide +kernel
set_option maxRecDepth 20000 in
theorem ggX10_cutLine_X10_behindBlanks : GoodIn wsX10_cutLine wsX10_behindBlanks := goodIn_r _ [7, 8, 9, 10, 6, 11, 1, 2, 12, 93, 94, 95, 96, 97, 98, 99, 100, 101, 102, 103, 104, 105, 106, 107, 108, 109, 110, 111, 112, 113, 114, 115, 116, 117, 118, 119, 120, 121, 122, 123, 124] (by decide +kernel) (by decide +kernel)
set_option maxRecDepth 20000 in
theorem gX10_cutLine_X10_behindBlanks : GoodIn wsX10_cutLine (wsV RX10 82 RX10 yX10_behindBlanks wsX10_behindBlanks) := goodIn_app (goodIn_of _ (by decide +kernel)) ggX10_cutLine_X10_behindBlanks
set_option maxRecDepth 20000 in
theorem ggX10_cutLine_X10_look : GoodIn wsX10_cutLine wsX10_look := goodIn_r _ [11, 1, 2, 12, 93, 94, 95, 96, 97, 98, 99, 100, 101, 102, 103, 104, 105, 106, 107, 108, 109, 110, 111, 112, 113, 114, 115, 116, 117, 118, 119, 120, 121, 122, 123, 124] (by decide +kernel) (by decide +kernel)
set_option maxRecDepth 20000 in
theorem gX10_cutLine_X10_look : GoodIn wsX10_cutLine (wsV RX10 78 RX10 yX10_look wsX10_look) := goodIn_app (goodIn_of _ (by decide +kernel)) ggX10_cutLine_X10_look
set_option maxRecDepth 20000 in
theorem ggX10_cutLine_X10_one : GoodIn wsX10_cutLine wsX10_one := goodIn_r _ [16, 8, 9, 10, 6, 11, 1, 2, 12, 17, 18, 19, 20, 21, 22, 23, 24, 25, 26, 27, 28, 29, 30, 31, 32, 33, 34, 35, 36, 37, 38, 39, 40, 41, 42, 43, 44, 45, 46, 47, 48, 49, 50, 51, 52, 53, 54, 55, 56, 57, 58, 59, 60, 61, 62, 63, 64, 65, 66, 67, 68, 69, 70, 71, 72, 73, 74, 75, 76, 77, 78, 79, 80, 81, 82, 83, 84, 85, 86, 87, 88, 89, 90, 91, 92, 93, 94, 95, 96, 97, 98, 99, 100, 101, 102, 103, 104, 105, 106, 107, 108, 109, 110, 111, 112, 113, 114, 115, 116, 117, 118, 119, 120, 121, 122, 123, 124] (by decide +kernel) (by decide +kernel)
set_option maxRecDepth 20000 in
theorem gX10_cutLine_X10_one : GoodIn wsX10_cutLine (wsV RX10 85 RX10 yX10_one wsX10_one) := goodIn_app (goodIn_of _ (by decide +kernel)) ggX10_cutLine_X10_one
set_option maxRecDepth 20000 in
theorem ggX10_cutLine_X10_token : GoodIn wsX10_cutLine wsX10_token := goodIn_r _ [27, 1, 28, 29, 30, 31, 32, 93, 94, 95, 96, 97, 98, 99, 100, 101, 102, 103, 104, 105, 106, 107, 108, 109, 110, 111, 112, 113, 114, 115, 116, 117, 118, 119, 120, 121, 122, 123, 124] (by decide +kernel) (by decide +kernel)
set_option maxRecDepth 20000 in
theorem gX10_cutLine_X10_token : GoodIn wsX10_cutLine (wsV RX10 88 RX10 yX10_token wsX10_token) := goodIn_app (goodIn_of _ (by decide +kernel)) ggX10_cutLine_X10_token
theorem dX10_cutLine_0 : decode cX10_cutLine 0 = .ok (.aload_n 0, 1) := by decide +kernel
theorem dX10_cutLine_1 : decode cX10_cutLine 1 = .ok (.iload_n 1, 1) := by decide +kernel
theorem dX10_cutLine_2 : decode cX10_cutLine 2 = .ok (.invokevirtual 82, 3) := by decide +kernel
theorem dX10_cutLine_5 : decode cX10_cutLine 5 = .ok (.istore_n 2, 1) := by decide +kernel
theorem dX10_cutLine_6 : decode cX10_cutLine 6 = .ok (.aload_n 0, 1) := by decide +kernel
theorem dX10_cutLine_7 : decode cX10_cutLine 7 = .ok (.iload_n 2, 1) := by decide +kernel
theorem dX10_cutLine_8 : decode cX10_cutLine 8 = .ok (.invokevirtual 78, 3) := by decide +kernel
theorem dX10_cutLine_11 : decode cX10_cutLine 11 = .ok (.ifCond .lt 48, 3) := by decide +kernel
theorem dX10_cutLine_14 : decode cX10_cutLine 14 = .ok (.aload_n 0, 1) := by decide +kernel
theorem dX10_cutLine_15 : decode cX10_cutLine 15 = .ok (.iload_n 2, 1) := by decide +kernel
theorem dX10_cutLine_16 : decode cX10_cutLine 16 = .ok (.invokevirtual 78, 3) := by decide +kernel
theorem dX10_cutLine_19 : decode cX10_cutLine 19 = .ok (.bipush 10, 2) := by decide +kernel
theorem dX10_cutLine_21 : decode cX10_cutLine 21 = .ok (.if_icmp .eq 38, 3) := by decide +kernel
theorem dX10_cutLine_24 : decode cX10_cutLine 24 = .ok (.aload_n 0, 1) := by decide +kernel
theorem dX10_cutLine_25 : decode cX10_cutLine 25 = .ok (.iload_n 2, 1) := by decide +kernel
theorem dX10_cutLine_26 : decode cX10_cutLine 26 = .ok (.invokevirtual 85, 3) := by decide +kernel
theorem dX10_cutLine_29 : decode cX10_cutLine 29 = .ok (.istore_n 3, 1) := by decide +kernel
theorem dX10_cutLine_30 : decode cX10_cutLine 30 = .ok (.iload_n 3, 1) := by decide +kernel
theorem dX10_cutLine_31 : decode cX10_cutLine 31 = .ok (.ifCond .ge 19, 3) := by decide +kernel
theorem dX10_cutLine_34 : decode cX10_cutLine 34 = .ok (.aload_n 0, 1) := by decide +kernel
theorem dX10_cutLine_35 : decode cX10_cutLine 35 = .ok (.iconst 5, 1) := by decide +kernel
theorem dX10_cutLine_36 : decode cX10_cutLine 36 = .ok (.iload_n 2, 1) := by decide +kernel
theorem dX10_cutLine_37 : decode cX10_cutLine 37 = .ok (.iconst 0, 1) := by decide +kernel
theorem dX10_cutLine_38 : decode cX10_cutLine 38 = .ok (.iconst 0, 1) := by decide +kernel
theorem dX10_cutLine_39 : decode cX10_cutLine 39 = .ok (.invokevirtual 88, 3) := by decide +kernel
theorem dX10_cutLine_42 : decode cX10_cutLine 42 = .ok (.aload_n 0, 1) := by decide +kernel
theorem dX10_cutLine_43 : decode cX10_cutLine 43 = .ok (.getfield 53, 3) := by decide +kernel
theorem dX10_cutLine_46 : decode cX10_cutLine 46 = .ok (.getfield 56, 3) := by decide +kernel
theorem dX10_cutLine_49 : decode cX10_cutLine 49 = .ok (.ireturn, 1) := by decide +kernel
theorem dX10_cutLine_50 : decode cX10_cutLine 50 = .ok (.aload_n 0, 1) := by decide +kernel
theorem dX10_cutLine_51 : decode cX10_cutLine 51 = .ok (.iload_n 3, 1) := by decide +kernel
theorem dX10_cutLine_52 : decode cX10_cutLine 52 = .ok (.invokevirtual 82, 3) := by decide +kernel
theorem dX10_cutLine_55 : decode cX10_cutLine 55 = .ok (.istore_n 2, 1) := by decide +kernel
theorem dX10_cutLine_56 : decode cX10_cutLine 56 = .ok (.goto (-50), 3) := by decide +kernel
theorem dX10_cutLine_59 : decode cX10_cutLine 59 = .ok (.aload_n 0, 1) := by decide +kernel
theorem dX10_cutLine_60 : decode cX10_cutLine 60 = .ok (.iconst 0, 1) := by decide +kernel
theorem dX10_cutLine_61 : decode cX10_cutLine 61 = .ok (.iload_n 2, 1) := by decide +kernel
theorem dX10_cutLine_62 : decode cX10_cutLine 62 = .ok (.iconst 0, 1) := by decide +kernel
theorem dX10_cutLine_63 : decode cX10_cutLine 63 = .ok (.iconst 0, 1) := by decide +kernel
theorem dX10_cutLine_64 : decode cX10_cutLine 64 = .ok (.invokevirtual 88, 3) := by decide +kernel
theorem dX10_cutLine_67 : decode cX10_cutLine 67 = .ok (.iload_n 2, 1) := by decide +kernel
theorem dX10_cutLine_68 : decode cX10_cutLine 68 = .ok (.iconst 1, 1) := by decide +kernel
theorem dX10_cutLine_69 : decode cX10_cutLine 69 = .ok (.iadd, 1) := by decide +kernel
theorem dX10_cutLine_70 : decode cX10_cutLine 70 = .ok (.ireturn, 1) := by decide +kernel
set_option maxRecDepth 20000 in
theorem ggX10_one_X10_look : GoodIn wsX10_one wsX10_look := goodIn_r _ [5, 6, 7, 8, 85, 86, 87, 88, 89, 90, 91, 92, 93, 94, 95, 96, 97, 98, 99, 100, 101, 102, 103, 104, 105, 106, 107, 108, 109, 110, 111, 112, 113, 114, 115, 116] (by decide +kernel) (by decide +kernel)
set_option maxRecDepth 20000 in
theorem gX10_one_X10_look : GoodIn wsX10_one (wsV RX10 78 RX10 yX10_look wsX10_look) := goodIn_app (goodIn_of _ (by decide +kernel)) ggX10_one_X10_look
set_option maxRecDepth 20000 in
theorem ggX10_one_X10_isDigit : GoodIn wsX10_one wsX10_isDigit := goodIn_r _ [11] (by decide +kernel) (by decide +kernel)
set_option maxRecDepth 20000 in
theorem gX10_one_X10_isDigit : GoodIn wsX10_one (va_wsS RX10 92 yX10_isDigit wsX10_isDigit) := goodIn_app (goodIn_of _ (by decide +kernel)) ggX10_one_X10_isDigit
set_option maxRecDepth 20000 in
theorem ggX10_one_X10_numberEnd : GoodIn wsX10_one wsX10_numberEnd := goodIn_r _ [15, 1, 2, 3, 4, 5, 6, 7, 8, 9, 10, 11, 16, 17, 18, 19, 20, 21, 22, 23, 24, 85, 86, 87, 88, 89, 90, 91, 92, 93, 94, 95, 96, 97, 98, 99, 100, 101, 102, 103, 104, 105, 106, 107, 108, 109, 110, 111, 112, 113, 114, 115, 116] (by decide +kernel) (by decide +kernel)
set_option maxRecDepth 20000 in
theorem gX10_one_X10_numberEnd : GoodIn wsX10_one (wsV RX10 96 RX10 yX10_numberEnd wsX10_numberEnd) := goodIn_app (goodIn_of _ (by decide +kernel)) ggX10_one_X10_numberEnd
set_option maxRecDepth 20000 in
theorem ggX10_one_X10_isCapital : GoodIn wsX10_one wsX10_isCapital := goodIn_r _ [27] (by decide +kernel) (by decide +kernel)
set_option maxRecDepth 20000 in
theorem gX10_one_X10_isCapital : GoodIn wsX10_one (va_wsS RX10 99 yX10_isCapital wsX10_isCapital) := goodIn_app (goodIn_of _ (by decide +kernel)) ggX10_one_X10_isCapital
set_option maxRecDepth 20000 in
theorem ggX10_one_X10_word : GoodIn wsX10_one wsX10_word := goodIn_r _ [31, 32, 33, 34, 35, 36, 37, 38, 39, 40, 41, 42, 43, 44, 45, 46, 47, 48, 49, 50, 51, 52, 53, 54, 55, 56, 57, 58, 59, 60, 61, 62, 63, 64, 65, 66, 67, 68, 69, 70, 71, 72, 73, 74, 75, 76, 77, 78, 79, 80, 81, 82, 83, 4, 84, 1, 2, 3, 5, 6, 7, 8, 16, 17, 18, 19, 20, 21, 22, 23, 24, 85, 86, 87, 88, 89, 90, 91, 92, 93, 94, 95, 96, 97, 98, 99, 100, 101, 102, 103, 104, 105, 106, 107, 108, 109, 110, 111, 112, 113, 114, 115, 116] (by decide +kernel) (by decide +kernel)
set_option maxRecDepth 20000 in
theorem gX10_one_X10_word : GoodIn wsX10_one (wsV RX10 102 RX10 yX10_word wsX10_word) := goodIn_app (goodIn_of _ (by decide +kernel)) ggX10_one_X10_word
set_option maxRecDepth 20000 in
theorem ggX10_one_X10_token : GoodIn wsX10_one wsX10_token := goodIn_r _ [19, 6, 20, 21, 22, 23, 24, 85, 86, 87, 88, 89, 90, 91, 92, 93, 94, 95, 96, 97, 98, 99, 100, 101, 102, 103, 104, 105, 106, 107, 108, 109, 110, 111, 112, 113, 114, 115, 116] (by decide +kernel) (by decide +kernel)
set_option maxRecDepth 20000 in
theorem gX10_one_X10_token : GoodIn wsX10_one (wsV RX10 88 RX10 yX10_token wsX10_token) := goodIn_app (goodIn_of _ (by decide +kernel)) ggX10_one_X10_token
theorem dX10_one_0 : decode cX10_one 0 = .ok (.aload_n 0, 1) := by decide +kernel
theorem dX10_one_1 : decode cX10_one 1 = .ok (.iload_n 1, 1) := by decide +kernel
theorem dX10_one_2 : decode cX10_one 2 = .ok (.invokevirtual 78, 3) := by decide +kernel
theorem dX10_one_5 : decode cX10_one 5 = .ok (.istore_n 2, 1) := by decide +kernel
theorem dX10_one_6 : decode cX10_one 6 = .ok (.iload_n 2, 1) := by decide +kernel
theorem dX10_one_7 : decode cX10_one 7 = .ok (.invokestatic 92, 3) := by decide +kernel
theorem dX10_one_10 : decode cX10_one 10 = .ok (.ifCond .eq 9, 3) := by decide +kernel
theorem dX10_one_13 : decode cX10_one 13 = .ok (.aload_n 0, 1) := by decide +kernel
theorem dX10_one_14 : decode cX10_one 14 = .ok (.iload_n 1, 1) := by decide +kernel
theorem dX10_one_15 : decode cX10_one 15 = .ok (.invokevirtual 96, 3) := by decide +kernel
theorem dX10_one_18 : decode cX10_one 18 = .ok (.ireturn, 1) := by decide +kernel
theorem dX10_one_19 : decode cX10_one 19 = .ok (.iload_n 2, 1) := by decide +kernel
theorem dX10_one_20 : decode cX10_one 20 = .ok (.invokestatic 99, 3) := by decide +kernel
theorem dX10_one_23 : decode cX10_one 23 = .ok (.ifCond .eq 9, 3) := by decide +kernel
theorem dX10_one_26 : decode cX10_one 26 = .ok (.aload_n 0, 1) := by decide +kernel
theorem dX10_one_27 : decode cX10_one 27 = .ok (.iload_n 1, 1) := by decide +kernel
theorem dX10_one_28 : decode cX10_one 28 = .ok (.invokevirtual 102, 3) := by decide +kernel
theorem dX10_one_31 : decode cX10_one 31 = .ok (.ireturn, 1) := by decide +kernel
theorem dX10_one_32 : decode cX10_one 32 = .ok (.iload_n 2, 1) := by decide +kernel
theorem dX10_one_33 : decode cX10_one 33 = .ok (.bipush 35, 2) := by decide +kernel
theorem dX10_one_35 : decode cX10_one 35 = .ok (.if_icmp .eq 45, 3) := by decide +kernel
theorem dX10_one_38 : decode cX10_one 38 = .ok (.iload_n 2, 1) := by decide +kernel
theorem dX10_one_39 : decode cX10_one 39 = .ok (.bipush 61, 2) := by decide +kernel
theorem dX10_one_41 : decode cX10_one 41 = .ok (.if_icmp .eq 39, 3) := by decide +kernel
theorem dX10_one_44 : decode cX10_one 44 = .ok (.iload_n 2, 1) := by decide +kernel
theorem dX10_one_45 : decode cX10_one 45 = .ok (.bipush 91, 2) := by decide +kernel
theorem dX10_one_47 : decode cX10_one 47 = .ok (.if_icmp .eq 33, 3) := by decide +kernel
theorem dX10_one_50 : decode cX10_one 50 = .ok (.iload_n 2, 1) := by decide +kernel
theorem dX10_one_51 : decode cX10_one 51 = .ok (.bipush 93, 2) := by decide +kernel
theorem dX10_one_53 : decode cX10_one 53 = .ok (.if_icmp .eq 27, 3) := by decide +kernel
theorem dX10_one_56 : decode cX10_one 56 = .ok (.iload_n 2, 1) := by decide +kernel
theorem dX10_one_57 : decode cX10_one 57 = .ok (.bipush 43, 2) := by decide +kernel
theorem dX10_one_59 : decode cX10_one 59 = .ok (.if_icmp .eq 21, 3) := by decide +kernel
theorem dX10_one_62 : decode cX10_one 62 = .ok (.iload_n 2, 1) := by decide +kernel
theorem dX10_one_63 : decode cX10_one 63 = .ok (.bipush 45, 2) := by decide +kernel
theorem dX10_one_65 : decode cX10_one 65 = .ok (.if_icmp .eq 15, 3) := by decide +kernel
theorem dX10_one_68 : decode cX10_one 68 = .ok (.iload_n 2, 1) := by decide +kernel
theorem dX10_one_69 : decode cX10_one 69 = .ok (.bipush 42, 2) := by decide +kernel
theorem dX10_one_71 : decode cX10_one 71 = .ok (.if_icmp .eq 9, 3) := by decide +kernel
theorem dX10_one_74 : decode cX10_one 74 = .ok (.iload_n 2, 1) := by decide +kernel
theorem dX10_one_75 : decode cX10_one 75 = .ok (.bipush 47, 2) := by decide +kernel
theorem dX10_one_77 : decode cX10_one 77 = .ok (.if_icmp .ne 7, 3) := by decide +kernel
theorem dX10_one_80 : decode cX10_one 80 = .ok (.iconst 1, 1) := by decide +kernel
theorem dX10_one_81 : decode cX10_one 81 = .ok (.goto 4, 3) := by decide +kernel
theorem dX10_one_84 : decode cX10_one 84 = .ok (.iconst 0, 1) := by decide +kernel
theorem dX10_one_85 : decode cX10_one 85 = .ok (.istore_n 3, 1) := by decide +kernel
theorem dX10_one_86 : decode cX10_one 86 = .ok (.iload_n 3, 1) := by decide +kernel
theorem dX10_one_87 : decode cX10_one 87 = .ok (.ifCond .ne 5, 3) := by decide +kernel
theorem dX10_one_90 : decode cX10_one 90 = .ok (.iconst (-1), 1) := by decide +kernel
theorem dX10_one_91 : decode cX10_one 91 = .ok (.ireturn, 1) := by decide +kernel
theorem dX10_one_92 : decode cX10_one 92 = .ok (.aload_n 0, 1) := by decide +kernel
theorem dX10_one_93 : decode cX10_one 93 = .ok (.iconst 4, 1) := by decide +kernel
theorem dX10_one_94 : decode cX10_one 94 = .ok (.iload_n 1, 1) := by decide +kernel
theorem dX10_one_95 : decode cX10_one 95 = .ok (.iload_n 2, 1) := by decide +kernel
theorem dX10_one_96 : decode cX10_one 96 = .ok (.iconst 0, 1) := by decide +kernel
theorem dX10_one_97 : decode cX10_one 97 = .ok (.invokevirtual 88, 3) := by decide +kernel
theorem dX10_one_100 : decode cX10_one 100 = .ok (.iload_n 1, 1) := by decide +kernel
theorem dX10_one_101 : decode cX10_one 101 = .ok (.iconst 1, 1) := by decide +kernel
theorem dX10_one_102 : decode cX10_one 102 = .ok (.iadd, 1) := by decide +kernel
theorem dX10_one_103 : decode cX10_one 103 = .ok (.ireturn, 1) := by decide +kernel
set_option maxRecDepth 20000 in
theorem ggX10_numberEnd_X10_look : GoodIn wsX10_numberEnd wsX10_look := goodIn_r _ [5, 6, 7, 8, 21, 22, 23, 24, 25, 26, 27, 28, 29, 30, 31, 32, 33, 34, 35, 36, 37, 38, 39, 40, 41, 42, 43, 44, 45, 46, 47, 48, 49, 50, 51, 52] (by decide +kernel) (by decide +kernel)
set_option maxRecDepth 20000 in
theorem gX10_numberEnd_X10_look : GoodIn wsX10_numberEnd (wsV RX10 78 RX10 yX10_look wsX10_look) := goodIn_app (goodIn_of _ (by decide +kernel)) ggX10_numberEnd_X10_look
set_option maxRecDepth 20000 in
theorem ggX10_numberEnd_X10_isDigit : GoodIn wsX10_numberEnd wsX10_isDigit := goodIn_r _ [11] (by decide +kernel) (by decide +kernel)
set_option maxRecDepth 20000 in
theorem gX10_numberEnd_X10_isDigit : GoodIn wsX10_numberEnd (va_wsS RX10 92 yX10_isDigit wsX10_isDigit) := goodIn_app (goodIn_of _ (by decide +kernel)) ggX10_numberEnd_X10_isDigit
set_option maxRecDepth 20000 in
theorem ggX10_numberEnd_X10_token : GoodIn wsX10_numberEnd wsX10_token := goodIn_r _ [15, 6, 16, 17, 18, 19, 20, 21, 22, 23, 24, 25, 26, 27, 28, 29, 30, 31, 32, 33, 34, 35, 36, 37, 38, 39, 40, 41, 42, 43, 44, 45, 46, 47, 48, 49, 50, 51, 52] (by decide +kernel) (by decide +kernel)
set_option maxRecDepth 20000 in
theorem gX10_numberEnd_X10_token : GoodIn wsX10_numberEnd (wsV RX10 88 RX10 yX10_token wsX10_token) := goodIn_app (goodIn_of _ (by decide +kernel)) ggX10_numberEnd_X10_token
theorem dX10_numberEnd_0 : decode cX10_numberEnd 0 = .ok (.iload_n 1, 1) := by decide +kernel
theorem dX10_numberEnd_1 : decode cX10_numberEnd 1 = .ok (.istore_n 2, 1) := by decide +kernel
theorem dX10_numberEnd_2 : decode cX10_numberEnd 2 = .ok (.iconst 0, 1) := by decide +kernel
theorem dX10_numberEnd_3 : decode cX10_numberEnd 3 = .ok (.istore_n 3, 1) := by decide +kernel
theorem dX10_numberEnd_4 : decode cX10_numberEnd 4 = .ok (.aload_n 0, 1) := by decide +kernel
theorem dX10_numberEnd_5 : decode cX10_numberEnd 5 = .ok (.iload_n 2, 1) := by decide +kernel
theorem dX10_numberEnd_6 : decode cX10_numberEnd 6 = .ok (.invokevirtual 78, 3) := by decide +kernel
theorem dX10_numberEnd_9 : decode cX10_numberEnd 9 = .ok (.invokestatic 92, 3) := by decide +kernel
theorem dX10_numberEnd_12 : decode cX10_numberEnd 12 = .ok (.ifCond .eq 33, 3) := by decide +kernel
theorem dX10_numberEnd_15 : decode cX10_numberEnd 15 = .ok (.iload_n 2, 1) := by decide +kernel
theorem dX10_numberEnd_16 : decode cX10_numberEnd 16 = .ok (.iload_n 1, 1) := by decide +kernel
theorem dX10_numberEnd_17 : decode cX10_numberEnd 17 = .ok (.isub, 1) := by decide +kernel
theorem dX10_numberEnd_18 : decode cX10_numberEnd 18 = .ok (.bipush 6, 2) := by decide +kernel
theorem dX10_numberEnd_20 : decode cX10_numberEnd 20 = .ok (.if_icmp .ne 5, 3) := by decide +kernel
theorem dX10_numberEnd_23 : decode cX10_numberEnd 23 = .ok (.iconst (-1), 1) := by decide +kernel
theorem dX10_numberEnd_24 : decode cX10_numberEnd 24 = .ok (.ireturn, 1) := by decide +kernel
theorem dX10_numberEnd_25 : decode cX10_numberEnd 25 = .ok (.bipush 10, 2) := by decide +kernel
theorem dX10_numberEnd_27 : decode cX10_numberEnd 27 = .ok (.iload_n 3, 1) := by decide +kernel
theorem dX10_numberEnd_28 : decode cX10_numberEnd 28 = .ok (.imul, 1) := by decide +kernel
theorem dX10_numberEnd_29 : decode cX10_numberEnd 29 = .ok (.aload_n 0, 1) := by decide +kernel
theorem dX10_numberEnd_30 : decode cX10_numberEnd 30 = .ok (.iload_n 2, 1) := by decide +kernel
theorem dX10_numberEnd_31 : decode cX10_numberEnd 31 = .ok (.invokevirtual 78, 3) := by decide +kernel
theorem dX10_numberEnd_34 : decode cX10_numberEnd 34 = .ok (.iadd, 1) := by decide +kernel
theorem dX10_numberEnd_35 : decode cX10_numberEnd 35 = .ok (.bipush 48, 2) := by decide +kernel
theorem dX10_numberEnd_37 : decode cX10_numberEnd 37 = .ok (.isub, 1) := by decide +kernel
theorem dX10_numberEnd_38 : decode cX10_numberEnd 38 = .ok (.istore_n 3, 1) := by decide +kernel
theorem dX10_numberEnd_39 : decode cX10_numberEnd 39 = .ok (.iinc 2 1, 3) := by decide +kernel
theorem dX10_numberEnd_42 : decode cX10_numberEnd 42 = .ok (.goto (-38), 3) := by decide +kernel
theorem dX10_numberEnd_45 : decode cX10_numberEnd 45 = .ok (.aload_n 0, 1) := by decide +kernel
theorem dX10_numberEnd_46 : decode cX10_numberEnd 46 = .ok (.iload_n 2, 1) := by decide +kernel
theorem dX10_numberEnd_47 : decode cX10_numberEnd 47 = .ok (.invokevirtual 78, 3) := by decide +kernel
theorem dX10_numberEnd_50 : decode cX10_numberEnd 50 = .ok (.bipush 46, 2) := by decide +kernel
theorem dX10_numberEnd_52 : decode cX10_numberEnd 52 = .ok (.if_icmp .eq 7, 3) := by decide +kernel
theorem dX10_numberEnd_55 : decode cX10_numberEnd 55 = .ok (.iconst 1, 1) := by decide +kernel
theorem dX10_numberEnd_56 : decode cX10_numberEnd 56 = .ok (.goto 4, 3) := by decide +kernel
theorem dX10_numberEnd_59 : decode cX10_numberEnd 59 = .ok (.iconst 0, 1) := by decide +kernel
theorem dX10_numberEnd_60 : decode cX10_numberEnd 60 = .ok (.istore 4, 2) := by decide +kernel
theorem dX10_numberEnd_62 : decode cX10_numberEnd 62 = .ok (.iconst 0, 1) := by decide +kernel
theorem dX10_numberEnd_63 : decode cX10_numberEnd 63 = .ok (.istore 5, 2) := by decide +kernel
theorem dX10_numberEnd_65 : decode cX10_numberEnd 65 = .ok (.iload 4, 2) := by decide +kernel
theorem dX10_numberEnd_67 : decode cX10_numberEnd 67 = .ok (.ifCond .ne 6, 3) := by decide +kernel
theorem dX10_numberEnd_70 : decode cX10_numberEnd 70 = .ok (.iinc 2 1, 3) := by decide +kernel
theorem dX10_numberEnd_73 : decode cX10_numberEnd 73 = .ok (.iload 4, 2) := by decide +kernel
theorem dX10_numberEnd_75 : decode cX10_numberEnd 75 = .ok (.ifCond .ne 45, 3) := by decide +kernel
theorem dX10_numberEnd_78 : decode cX10_numberEnd 78 = .ok (.aload_n 0, 1) := by decide +kernel
theorem dX10_numberEnd_79 : decode cX10_numberEnd 79 = .ok (.iload_n 2, 1) := by decide +kernel
theorem dX10_numberEnd_80 : decode cX10_numberEnd 80 = .ok (.invokevirtual 78, 3) := by decide +kernel
theorem dX10_numberEnd_83 : decode cX10_numberEnd 83 = .ok (.invokestatic 92, 3) := by decide +kernel
theorem dX10_numberEnd_86 : decode cX10_numberEnd 86 = .ok (.ifCond .eq 34, 3) := by decide +kernel
theorem dX10_numberEnd_89 : decode cX10_numberEnd 89 = .ok (.iload 5, 2) := by decide +kernel
theorem dX10_numberEnd_91 : decode cX10_numberEnd 91 = .ok (.iconst 3, 1) := by decide +kernel
theorem dX10_numberEnd_92 : decode cX10_numberEnd 92 = .ok (.if_icmp .ne 5, 3) := by decide +kernel
theorem dX10_numberEnd_95 : decode cX10_numberEnd 95 = .ok (.iconst (-1), 1) := by decide +kernel
theorem dX10_numberEnd_96 : decode cX10_numberEnd 96 = .ok (.ireturn, 1) := by decide +kernel
theorem dX10_numberEnd_97 : decode cX10_numberEnd 97 = .ok (.bipush 10, 2) := by decide +kernel
theorem dX10_numberEnd_99 : decode cX10_numberEnd 99 = .ok (.iload_n 3, 1) := by decide +kernel
theorem dX10_numberEnd_100 : decode cX10_numberEnd 100 = .ok (.imul, 1) := by decide +kernel
theorem dX10_numberEnd_101 : decode cX10_numberEnd 101 = .ok (.aload_n 0, 1) := by decide +kernel
theorem dX10_numberEnd_102 : decode cX10_numberEnd 102 = .ok (.iload_n 2, 1) := by decide +kernel
theorem dX10_numberEnd_103 : decode cX10_numberEnd 103 = .ok (.invokevirtual 78, 3) := by decide +kernel
theorem dX10_numberEnd_106 : decode cX10_numberEnd 106 = .ok (.iadd, 1) := by decide +kernel
theorem dX10_numberEnd_107 : decode cX10_numberEnd 107 = .ok (.bipush 48, 2) := by decide +kernel
theorem dX10_numberEnd_109 : decode cX10_numberEnd 109 = .ok (.isub, 1) := by decide +kernel
theorem dX10_numberEnd_110 : decode cX10_numberEnd 110 = .ok (.istore_n 3, 1) := by decide +kernel
theorem dX10_numberEnd_111 : decode cX10_numberEnd 111 = .ok (.iinc 5 1, 3) := by decide +kernel
theorem dX10_numberEnd_114 : decode cX10_numberEnd 114 = .ok (.iinc 2 1, 3) := by decide +kernel
theorem dX10_numberEnd_117 : decode cX10_numberEnd 117 = .ok (.goto (-44), 3) := by decide +kernel
theorem dX10_numberEnd_120 : decode cX10_numberEnd 120 = .ok (.iload 5, 2) := by decide +kernel
theorem dX10_numberEnd_122 : decode cX10_numberEnd 122 = .ok (.istore 6, 2) := by decide +kernel
theorem dX10_numberEnd_124 : decode cX10_numberEnd 124 = .ok (.iload 6, 2) := by decide +kernel
theorem dX10_numberEnd_126 : decode cX10_numberEnd 126 = .ok (.iconst 3, 1) := by decide +kernel
theorem dX10_numberEnd_127 : decode cX10_numberEnd 127 = .ok (.if_icmp .ge 14, 3) := by decide +kernel
theorem dX10_numberEnd_130 : decode cX10_numberEnd 130 = .ok (.iload_n 3, 1) := by decide +kernel
theorem dX10_numberEnd_131 : decode cX10_numberEnd 131 = .ok (.bipush 10, 2) := by decide +kernel
theorem dX10_numberEnd_133 : decode cX10_numberEnd 133 = .ok (.imul, 1) := by decide +kernel
theorem dX10_numberEnd_134 : decode cX10_numberEnd 134 = .ok (.istore_n 3, 1) := by decide +kernel
theorem dX10_numberEnd_135 : decode cX10_numberEnd 135 = .ok (.iinc 6 1, 3) := by decide +kernel
theorem dX10_numberEnd_138 : decode cX10_numberEnd 138 = .ok (.goto (-14), 3) := by decide +kernel
theorem dX10_numberEnd_141 : decode cX10_numberEnd 141 = .ok (.aload_n 0, 1) := by decide +kernel
theorem dX10_numberEnd_142 : decode cX10_numberEnd 142 = .ok (.iconst 1, 1) := by decide +kernel
theorem dX10_numberEnd_143 : decode cX10_numberEnd 143 = .ok (.iload_n 1, 1) := by decide +kernel
theorem dX10_numberEnd_144 : decode cX10_numberEnd 144 = .ok (.iload_n 3, 1) := by decide +kernel
theorem dX10_numberEnd_145 : decode cX10_numberEnd 145 = .ok (.iload 4, 2) := by decide +kernel
theorem dX10_numberEnd_147 : decode cX10_numberEnd 147 = .ok (.invokevirtual 88, 3) := by decide +kernel
theorem dX10_numberEnd_150 : decode cX10_numberEnd 150 = .ok (.iload_n 2, 1) := by decide +kernel
theorem dX10_numberEnd_151 : decode cX10_numberEnd 151 = .ok (.ireturn, 1) := by decide +kernel
set_option maxRecDepth 20000 in
theorem ggX10_isAt_X10_look : GoodIn wsX10_isAt wsX10_look := goodIn_r _ [5, 6, 7, 8, 50, 51, 52, 53, 54, 55, 56, 57, 58, 59, 60, 61, 62, 63, 64, 65, 66, 67, 68, 69, 70, 71, 72, 73, 74, 75, 76, 77, 78, 79, 80, 81] (by decide +kernel) (by decide +kernel)
set_option maxRecDepth 20000 in
theorem gX10_isAt_X10_look : GoodIn wsX10_isAt (wsV RX10 78 RX10 yX10_look wsX10_look) := goodIn_app (goodIn_of _ (by decide +kernel)) ggX10_isAt_X10_look
set_option maxRecDepth 20000 in
theorem ggX10_isAt_J0_charAt_5068e : GoodIn wsX10_isAt wsJ0_charAt_5068e := goodIn_r _ [13, 14, 15, 16, 17, 12, 18, 19, 20, 21, 22, 23, 24, 25, 26, 27, 28, 29, 30, 31, 32, 33, 34, 35, 36, 37, 38, 39, 40, 41, 42, 43, 44, 45, 46, 47, 48, 49] (by decide +kernel) (by decide +kernel)
set_option maxRecDepth 20000 in
theorem gX10_isAt_J0_charAt_5068e : GoodIn wsX10_isAt (wsV RX10 107 RJ0 yJ0_charAt_5068e wsJ0_charAt_5068e) := goodIn_app (goodIn_of _ (by decide +kernel)) ggX10_isAt_J0_charAt_5068e
theorem dX10_isAt_0 : decode cX10_isAt 0 = .ok (.iload_n 2, 1) := by decide +kernel
theorem dX10_isAt_1 : decode cX10_isAt 1 = .ok (.istore 4, 2) := by decide +kernel
theorem dX10_isAt_3 : decode cX10_isAt 3 = .ok (.iload 4, 2) := by decide +kernel
theorem dX10_isAt_5 : decode cX10_isAt 5 = .ok (.iload_n 3, 1) := by decide +kernel
theorem dX10_isAt_6 : decode cX10_isAt 6 = .ok (.if_icmp .ge 31, 3) := by decide +kernel
theorem dX10_isAt_9 : decode cX10_isAt 9 = .ok (.aload_n 0, 1) := by decide +kernel
theorem dX10_isAt_10 : decode cX10_isAt 10 = .ok (.iload_n 1, 1) := by decide +kernel
theorem dX10_isAt_11 : decode cX10_isAt 11 = .ok (.iload 4, 2) := by decide +kernel
theorem dX10_isAt_13 : decode cX10_isAt 13 = .ok (.iadd, 1) := by decide +kernel
theorem dX10_isAt_14 : decode cX10_isAt 14 = .ok (.iload_n 2, 1) := by decide +kernel
theorem dX10_isAt_15 : decode cX10_isAt 15 = .ok (.isub, 1) := by decide +kernel
theorem dX10_isAt_16 : decode cX10_isAt 16 = .ok (.invokevirtual 78, 3) := by decide +kernel
theorem dX10_isAt_19 : decode cX10_isAt 19 = .ok (.ldc 105, 2) := by decide +kernel
theorem dX10_isAt_21 : decode cX10_isAt 21 = .ok (.iload 4, 2) := by decide +kernel
theorem dX10_isAt_23 : decode cX10_isAt 23 = .ok (.invokevirtual 107, 3) := by decide +kernel
theorem dX10_isAt_26 : decode cX10_isAt 26 = .ok (.if_icmp .eq 5, 3) := by decide +kernel
theorem dX10_isAt_29 : decode cX10_isAt 29 = .ok (.iconst 0, 1) := by decide +kernel
theorem dX10_isAt_30 : decode cX10_isAt 30 = .ok (.ireturn, 1) := by decide +kernel
theorem dX10_isAt_31 : decode cX10_isAt 31 = .ok (.iinc 4 1, 3) := by decide +kernel
theorem dX10_isAt_34 : decode cX10_isAt 34 = .ok (.goto (-31), 3) := by decide +kernel
theorem dX10_isAt_37 : decode cX10_isAt 37 = .ok (.iconst 1, 1) := by decide +kernel
theorem dX10_isAt_38 : decode cX10_isAt 38 = .ok (.ireturn, 1) := by decide +kernel
set_option maxRecDepth 20000 in
theorem ggX10_word_J0_length_8abf5 : GoodIn wsX10_word wsJ0_length_8abf5 := goodIn_r _ [5, 6, 7, 8, 9, 4, 10, 11, 12] (by decide +kernel) (by decide +kernel)
set_option maxRecDepth 20000 in
theorem gX10_word_J0_length_8abf5 : GoodIn wsX10_word (wsV RX10 113 RJ0 yJ0_length_8abf5 wsJ0_length_8abf5) := goodIn_app (goodIn_of _ (by decide +kernel)) ggX10_word_J0_length_8abf5
set_option maxRecDepth 20000 in
theorem ggX10_word_J0_charAt_5068e : GoodIn wsX10_word wsJ0_charAt_5068e := goodIn_r _ [16, 6, 17, 18, 19, 4, 20, 11, 12, 21, 22, 23, 24, 25, 26, 27, 28, 29, 30, 31, 32, 33, 34, 35, 36, 37, 38, 39, 40, 41, 42, 43, 44, 45, 46, 47, 48, 49] (by decide +kernel) (by decide +kernel)
set_option maxRecDepth 20000 in
theorem gX10_word_J0_charAt_5068e : GoodIn wsX10_word (wsV RX10 107 RJ0 yJ0_charAt_5068e wsJ0_charAt_5068e) := goodIn_app (goodIn_of _ (by decide +kernel)) ggX10_word_J0_charAt_5068e
set_option maxRecDepth 20000 in
theorem ggX10_word_X10_isAt : GoodIn wsX10_word wsX10_isAt := goodIn_r _ [54, 55, 56, 57, 53, 58, 59, 60, 61, 13, 14, 15, 4, 16, 6, 17, 18, 19, 20, 11, 12, 21, 22, 23, 24, 25, 26, 27, 28, 29, 30, 31, 32, 33, 34, 35, 36, 37, 38, 39, 40, 41, 42, 43, 44, 45, 46, 47, 48, 49, 71, 72, 73, 74, 75, 76, 77, 78, 79, 80, 81, 82, 83, 84, 85, 86, 87, 88, 89, 90, 91, 92, 93, 94, 95, 96, 97, 98, 99, 100, 101, 102] (by decide +kernel) (by decide +kernel)
set_option maxRecDepth 20000 in
theorem gX10_word_X10_isAt : GoodIn wsX10_word (wsV RX10 117 RX10 yX10_isAt wsX10_isAt) := goodIn_app (goodIn_of _ (by decide +kernel)) ggX10_word_X10_isAt
set_option maxRecDepth 20000 in
theorem ggX10_word_X10_token : GoodIn wsX10_word wsX10_token := goodIn_r _ [65, 59, 66, 67, 68, 69, 70, 71, 72, 73, 74, 75, 76, 77, 78, 79, 80, 81, 82, 83, 84, 85, 86, 87, 88, 89, 90, 91, 92, 93, 94, 95, 96, 97, 98, 99, 100, 101, 102] (by decide +kernel) (by decide +kernel)
set_option maxRecDepth 20000 in
theorem gX10_word_X10_token : GoodIn wsX10_word (wsV RX10 88 RX10 yX10_token wsX10_token) := goodIn_app (goodIn_of _ (by decide +kernel)) ggX10_word_X10_token
set_option maxRecDepth 20000 in
theorem ggX10_word_X10_look : GoodIn wsX10_word wsX10_look := goodIn_r _ [58, 59, 60, 61, 71, 72, 73, 74, 75, 76, 77, 78, 79, 80, 81, 82, 83, 84, 85, 86, 87, 88, 89, 90, 91, 92, 93, 94, 95, 96, 97, 98, 99, 100, 101, 102] (by decide +kernel) (by decide +kernel)
set_option maxRecDepth 20000 in
theorem gX10_word_X10_look : GoodIn wsX10_word (wsV RX10 78 RX10 yX10_look wsX10_look) := goodIn_app (goodIn_of _ (by decide +kernel)) ggX10_word_X10_look
theorem dX10_word_0 : decode cX10_word 0 = .ok (.iconst 0, 1) := by decide +kernel
theorem dX10_word_1 : decode cX10_word 1 = .ok (.istore_n 2, 1) := by decide +kernel
theorem dX10_word_2 : decode cX10_word 2 = .ok (.iconst (-1), 1) := by decide +kernel
theorem dX10_word_3 : decode cX10_word 3 = .ok (.istore_n 3, 1) := by decide +kernel
theorem dX10_word_4 : decode cX10_word 4 = .ok (.iconst 1, 1) := by decide +kernel
theorem dX10_word_5 : decode cX10_word 5 = .ok (.istore 4, 2) := by decide +kernel
theorem dX10_word_7 : decode cX10_word 7 = .ok (.iconst 0, 1) := by decide +kernel
theorem dX10_word_8 : decode cX10_word 8 = .ok (.istore 5, 2) := by decide +kernel
theorem dX10_word_10 : decode cX10_word 10 = .ok (.iload 4, 2) := by decide +kernel
theorem dX10_word_12 : decode cX10_word 12 = .ok (.ldc 105, 2) := by decide +kernel
theorem dX10_word_14 : decode cX10_word 14 = .ok (.invokevirtual 113, 3) := by decide +kernel
theorem dX10_word_17 : decode cX10_word 17 = .ok (.if_icmp .ge 67, 3) := by decide +kernel
theorem dX10_word_20 : decode cX10_word 20 = .ok (.iload 4, 2) := by decide +kernel
theorem dX10_word_22 : decode cX10_word 22 = .ok (.istore 6, 2) := by decide +kernel
theorem dX10_word_24 : decode cX10_word 24 = .ok (.ldc 105, 2) := by decide +kernel
theorem dX10_word_26 : decode cX10_word 26 = .ok (.iload 6, 2) := by decide +kernel
theorem dX10_word_28 : decode cX10_word 28 = .ok (.invokevirtual 107, 3) := by decide +kernel
theorem dX10_word_31 : decode cX10_word 31 = .ok (.bipush 32, 2) := by decide +kernel
theorem dX10_word_33 : decode cX10_word 33 = .ok (.if_icmp .eq 9, 3) := by decide +kernel
theorem dX10_word_36 : decode cX10_word 36 = .ok (.iinc 6 1, 3) := by decide +kernel
theorem dX10_word_39 : decode cX10_word 39 = .ok (.goto (-15), 3) := by decide +kernel
theorem dX10_word_42 : decode cX10_word 42 = .ok (.iload 6, 2) := by decide +kernel
theorem dX10_word_44 : decode cX10_word 44 = .ok (.iload 4, 2) := by decide +kernel
theorem dX10_word_46 : decode cX10_word 46 = .ok (.isub, 1) := by decide +kernel
theorem dX10_word_47 : decode cX10_word 47 = .ok (.iload_n 2, 1) := by decide +kernel
theorem dX10_word_48 : decode cX10_word 48 = .ok (.if_icmp .le 24, 3) := by decide +kernel
theorem dX10_word_51 : decode cX10_word 51 = .ok (.aload_n 0, 1) := by decide +kernel
theorem dX10_word_52 : decode cX10_word 52 = .ok (.iload_n 1, 1) := by decide +kernel
theorem dX10_word_53 : decode cX10_word 53 = .ok (.iload 4, 2) := by decide +kernel
theorem dX10_word_55 : decode cX10_word 55 = .ok (.iload 6, 2) := by decide +kernel
theorem dX10_word_57 : decode cX10_word 57 = .ok (.invokevirtual 117, 3) := by decide +kernel
theorem dX10_word_60 : decode cX10_word 60 = .ok (.ifCond .eq 12, 3) := by decide +kernel
theorem dX10_word_63 : decode cX10_word 63 = .ok (.iload 6, 2) := by decide +kernel
theorem dX10_word_65 : decode cX10_word 65 = .ok (.iload 4, 2) := by decide +kernel
theorem dX10_word_67 : decode cX10_word 67 = .ok (.isub, 1) := by decide +kernel
theorem dX10_word_68 : decode cX10_word 68 = .ok (.istore_n 2, 1) := by decide +kernel
theorem dX10_word_69 : decode cX10_word 69 = .ok (.iload 5, 2) := by decide +kernel
theorem dX10_word_71 : decode cX10_word 71 = .ok (.istore_n 3, 1) := by decide +kernel
theorem dX10_word_72 : decode cX10_word 72 = .ok (.iinc 5 1, 3) := by decide +kernel
theorem dX10_word_75 : decode cX10_word 75 = .ok (.iload 6, 2) := by decide +kernel
theorem dX10_word_77 : decode cX10_word 77 = .ok (.iconst 1, 1) := by decide +kernel
theorem dX10_word_78 : decode cX10_word 78 = .ok (.iadd, 1) := by decide +kernel
theorem dX10_word_79 : decode cX10_word 79 = .ok (.istore 4, 2) := by decide +kernel
theorem dX10_word_81 : decode cX10_word 81 = .ok (.goto (-71), 3) := by decide +kernel
theorem dX10_word_84 : decode cX10_word 84 = .ok (.iload_n 3, 1) := by decide +kernel
theorem dX10_word_85 : decode cX10_word 85 = .ok (.ifCond .lt 14, 3) := by decide +kernel
theorem dX10_word_88 : decode cX10_word 88 = .ok (.aload_n 0, 1) := by decide +kernel
theorem dX10_word_89 : decode cX10_word 89 = .ok (.iconst 3, 1) := by decide +kernel
theorem dX10_word_90 : decode cX10_word 90 = .ok (.iload_n 1, 1) := by decide +kernel
theorem dX10_word_91 : decode cX10_word 91 = .ok (.iload_n 3, 1) := by decide +kernel
theorem dX10_word_92 : decode cX10_word 92 = .ok (.iconst 0, 1) := by decide +kernel
theorem dX10_word_93 : decode cX10_word 93 = .ok (.invokevirtual 88, 3) := by decide +kernel
theorem dX10_word_96 : decode cX10_word 96 = .ok (.goto 15, 3) := by decide +kernel
theorem dX10_word_99 : decode cX10_word 99 = .ok (.aload_n 0, 1) := by decide +kernel
theorem dX10_word_100 : decode cX10_word 100 = .ok (.iconst 2, 1) := by decide +kernel
theorem dX10_word_101 : decode cX10_word 101 = .ok (.iload_n 1, 1) := by decide +kernel
theorem dX10_word_102 : decode cX10_word 102 = .ok (.aload_n 0, 1) := by decide +kernel
theorem dX10_word_103 : decode cX10_word 103 = .ok (.iload_n 1, 1) := by decide +kernel
theorem dX10_word_104 : decode cX10_word 104 = .ok (.invokevirtual 78, 3) := by decide +kernel
theorem dX10_word_107 : decode cX10_word 107 = .ok (.iconst 0, 1) := by decide +kernel
theorem dX10_word_108 : decode cX10_word 108 = .ok (.invokevirtual 88, 3) := by decide +kernel
theorem dX10_word_111 : decode cX10_word 111 = .ok (.iload_n 3, 1) := by decide +kernel
theorem dX10_word_112 : decode cX10_word 112 = .ok (.ifCond .lt 9, 3) := by decide +kernel
theorem dX10_word_115 : decode cX10_word 115 = .ok (.iload_n 1, 1) := by decide +kernel
theorem dX10_word_116 : decode cX10_word 116 = .ok (.iload_n 2, 1) := by decide +kernel
theorem dX10_word_117 : decode cX10_word 117 = .ok (.iadd, 1) := by decide +kernel
theorem dX10_word_118 : decode cX10_word 118 = .ok (.goto 6, 3) := by decide +kernel
theorem dX10_word_121 : decode cX10_word 121 = .ok (.iload_n 1, 1) := by decide +kernel
theorem dX10_word_122 : decode cX10_word 122 = .ok (.iconst 1, 1) := by decide +kernel
theorem dX10_word_123 : decode cX10_word 123 = .ok (.iadd, 1) := by decide +kernel
theorem dX10_word_124 : decode cX10_word 124 = .ok (.ireturn, 1) := by decide +kernel
theorem dX10_kind_0 : decode cX10_kind 0 = .ok (.aload_n 0, 1) := by decide +kernel
theorem dX10_kind_1 : decode cX10_kind 1 = .ok (.getfield 53, 3) := by decide +kernel
theorem dX10_kind_4 : decode cX10_kind 4 = .ok (.getfield 62, 3) := by decide +kernel
theorem dX10_kind_7 : decode cX10_kind 7 = .ok (.aload_n 0, 1) := by decide +kernel
theorem dX10_kind_8 : decode cX10_kind 8 = .ok (.getfield 121, 3) := by decide +kernel
theorem dX10_kind_11 : decode cX10_kind 11 = .ok (.baload, 1) := by decide +kernel
theorem dX10_kind_12 : decode cX10_kind 12 = .ok (.ireturn, 1) := by decide +kernel
set_option maxRecDepth 20000 in
theorem ggX10_isSign_X10_kind : GoodIn wsX10_isSign wsX10_kind := goodIn_r _ [8, 1, 9, 3, 10, 11, 12, 13, 14, 15, 16, 17, 18, 19, 20, 21, 22, 23, 24, 25, 26, 27, 28, 29, 30, 31, 32, 33, 34, 35, 36, 37, 38, 39, 40, 41] (by decide +kernel) (by decide +kernel)
set_option maxRecDepth 20000 in
theorem gX10_isSign_X10_kind : GoodIn wsX10_isSign (wsV RX10 124 RX10 yX10_kind wsX10_kind) := goodIn_app (goodIn_of _ (by decide +kernel)) ggX10_isSign_X10_kind
theorem dX10_isSign_0 : decode cX10_isSign 0 = .ok (.aload_n 0, 1) := by decide +kernel
theorem dX10_isSign_1 : decode cX10_isSign 1 = .ok (.invokevirtual 124, 3) := by decide +kernel
theorem dX10_isSign_4 : decode cX10_isSign 4 = .ok (.iconst 4, 1) := by decide +kernel
theorem dX10_isSign_5 : decode cX10_isSign 5 = .ok (.if_icmp .ne 23, 3) := by decide +kernel
theorem dX10_isSign_8 : decode cX10_isSign 8 = .ok (.aload_n 0, 1) := by decide +kernel
theorem dX10_isSign_9 : decode cX10_isSign 9 = .ok (.getfield 53, 3) := by decide +kernel
theorem dX10_isSign_12 : decode cX10_isSign 12 = .ok (.getfield 71, 3) := by decide +kernel
theorem dX10_isSign_15 : decode cX10_isSign 15 = .ok (.aload_n 0, 1) := by decide +kernel
theorem dX10_isSign_16 : decode cX10_isSign 16 = .ok (.getfield 121, 3) := by decide +kernel
theorem dX10_isSign_19 : decode cX10_isSign 19 = .ok (.iaload, 1) := by decide +kernel
theorem dX10_isSign_20 : decode cX10_isSign 20 = .ok (.iload_n 1, 1) := by decide +kernel
theorem dX10_isSign_21 : decode cX10_isSign 21 = .ok (.if_icmp .ne 7, 3) := by decide +kernel
theorem dX10_isSign_24 : decode cX10_isSign 24 = .ok (.iconst 1, 1) := by decide +kernel
theorem dX10_isSign_25 : decode cX10_isSign 25 = .ok (.goto 4, 3) := by decide +kernel
theorem dX10_isSign_28 : decode cX10_isSign 28 = .ok (.iconst 0, 1) := by decide +kernel
theorem dX10_isSign_29 : decode cX10_isSign 29 = .ok (.ireturn, 1) := by decide +kernel
set_option maxRecDepth 20000 in
theorem ggX10_isWord_X10_kind : GoodIn wsX10_isWord wsX10_kind := goodIn_r _ [8, 1, 9, 3, 10, 11, 12, 13, 14, 15, 16, 17, 18, 19, 20, 21, 22, 23, 24, 25, 26, 27, 28, 29, 30, 31, 32, 33, 34, 35, 36, 37, 38, 39, 40, 41] (by decide +kernel) (by decide +kernel)
set_option maxRecDepth 20000 in
theorem gX10_isWord_X10_kind : GoodIn wsX10_isWord (wsV RX10 124 RX10 yX10_kind wsX10_kind) := goodIn_app (goodIn_of _ (by decide +kernel)) ggX10_isWord_X10_kind
theorem dX10_isWord_0 : decode cX10_isWord 0 = .ok (.aload_n 0, 1) := by decide +kernel
theorem dX10_isWord_1 : decode cX10_isWord 1 = .ok (.invokevirtual 124, 3) := by decide +kernel
theorem dX10_isWord_4 : decode cX10_isWord 4 = .ok (.iconst 3, 1) := by decide +kernel
theorem dX10_isWord_5 : decode cX10_isWord 5 = .ok (.if_icmp .ne 23, 3) := by decide +kernel
theorem dX10_isWord_8 : decode cX10_isWord 8 = .ok (.aload_n 0, 1) := by decide +kernel
theorem dX10_isWord_9 : decode cX10_isWord 9 = .ok (.getfield 53, 3) := by decide +kernel
theorem dX10_isWord_12 : decode cX10_isWord 12 = .ok (.getfield 71, 3) := by decide +kernel
theorem dX10_isWord_15 : decode cX10_isWord 15 = .ok (.aload_n 0, 1) := by decide +kernel
theorem dX10_isWord_16 : decode cX10_isWord 16 = .ok (.getfield 121, 3) := by decide +kernel
theorem dX10_isWord_19 : decode cX10_isWord 19 = .ok (.iaload, 1) := by decide +kernel
theorem dX10_isWord_20 : decode cX10_isWord 20 = .ok (.iload_n 1, 1) := by decide +kernel
theorem dX10_isWord_21 : decode cX10_isWord 21 = .ok (.if_icmp .ne 7, 3) := by decide +kernel
theorem dX10_isWord_24 : decode cX10_isWord 24 = .ok (.iconst 1, 1) := by decide +kernel
theorem dX10_isWord_25 : decode cX10_isWord 25 = .ok (.goto 4, 3) := by decide +kernel
theorem dX10_isWord_28 : decode cX10_isWord 28 = .ok (.iconst 0, 1) := by decide +kernel
theorem dX10_isWord_29 : decode cX10_isWord 29 = .ok (.ireturn, 1) := by decide +kernel
set_option maxRecDepth 20000 in
theorem ggX10_isLetter_X10_kind : GoodIn wsX10_isLetter wsX10_kind := goodIn_r _ [8, 1, 9, 3, 10, 11, 12, 13, 14, 15, 16, 17, 18, 19, 20, 21, 22, 23, 24, 25, 26, 27, 28, 29, 30, 31, 32, 33, 34, 35, 36, 37, 38, 39, 40, 41] (by decide +kernel) (by decide +kernel)
set_option maxRecDepth 20000 in
theorem gX10_isLetter_X10_kind : GoodIn wsX10_isLetter (wsV RX10 124 RX10 yX10_kind wsX10_kind) := goodIn_app (goodIn_of _ (by decide +kernel)) ggX10_isLetter_X10_kind
theorem dX10_isLetter_0 : decode cX10_isLetter 0 = .ok (.aload_n 0, 1) := by decide +kernel
theorem dX10_isLetter_1 : decode cX10_isLetter 1 = .ok (.invokevirtual 124, 3) := by decide +kernel
theorem dX10_isLetter_4 : decode cX10_isLetter 4 = .ok (.iconst 2, 1) := by decide +kernel
theorem dX10_isLetter_5 : decode cX10_isLetter 5 = .ok (.if_icmp .ne 23, 3) := by decide +kernel
theorem dX10_isLetter_8 : decode cX10_isLetter 8 = .ok (.aload_n 0, 1) := by decide +kernel
theorem dX10_isLetter_9 : decode cX10_isLetter 9 = .ok (.getfield 53, 3) := by decide +kernel
theorem dX10_isLetter_12 : decode cX10_isLetter 12 = .ok (.getfield 71, 3) := by decide +kernel
theorem dX10_isLetter_15 : decode cX10_isLetter 15 = .ok (.aload_n 0, 1) := by decide +kernel
theorem dX10_isLetter_16 : decode cX10_isLetter 16 = .ok (.getfield 121, 3) := by decide +kernel
theorem dX10_isLetter_19 : decode cX10_isLetter 19 = .ok (.iaload, 1) := by decide +kernel
theorem dX10_isLetter_20 : decode cX10_isLetter 20 = .ok (.iload_n 1, 1) := by decide +kernel
theorem dX10_isLetter_21 : decode cX10_isLetter 21 = .ok (.if_icmp .ne 7, 3) := by decide +kernel
theorem dX10_isLetter_24 : decode cX10_isLetter 24 = .ok (.iconst 1, 1) := by decide +kernel
theorem dX10_isLetter_25 : decode cX10_isLetter 25 = .ok (.goto 4, 3) := by decide +kernel
theorem dX10_isLetter_28 : decode cX10_isLetter 28 = .ok (.iconst 0, 1) := by decide +kernel
theorem dX10_isLetter_29 : decode cX10_isLetter 29 = .ok (.ireturn, 1) := by decide +kernel
theorem dX10_wrong_0 : decode cX10_wrong 0 = .ok (.aload_n 0, 1) := by decide +kernel
theorem dX10_wrong_1 : decode cX10_wrong 1 = .ok (.aload_n 0, 1) := by decide +kernel
theorem dX10_wrong_2 : decode cX10_wrong 2 = .ok (.getfield 53, 3) := by decide +kernel
theorem dX10_wrong_5 : decode cX10_wrong 5 = .ok (.getfield 68, 3) := by decide +kernel
theorem dX10_wrong_8 : decode cX10_wrong 8 = .ok (.aload_n 0, 1) := by decide +kernel
theorem dX10_wrong_9 : decode cX10_wrong 9 = .ok (.getfield 121, 3) := by decide +kernel
theorem dX10_wrong_12 : decode cX10_wrong 12 = .ok (.iaload, 1) := by decide +kernel
theorem dX10_wrong_13 : decode cX10_wrong 13 = .ok (.putfield 127, 3) := by decide +kernel
theorem dX10_wrong_16 : decode cX10_wrong 16 = .ok (.aload_n 0, 1) := by decide +kernel
theorem dX10_wrong_17 : decode cX10_wrong 17 = .ok (.getfield 26, 3) := by decide +kernel
theorem dX10_wrong_20 : decode cX10_wrong 20 = .ok (.areturn, 1) := by decide +kernel
set_option maxRecDepth 20000 in
theorem ggX10_expect_X10_wrong : GoodIn wsX10_expect wsX10_wrong := goodIn_r _ [6, 7, 8, 1, 9, 10, 11, 12, 13, 14, 15, 16, 17, 18, 19, 20, 21, 22, 23, 24, 25, 26, 27, 28, 29, 30, 31, 32, 33, 34, 35, 36, 37, 38, 39, 40, 41, 42] (by decide +kernel) (by decide +kernel)
set_option maxRecDepth 20000 in
theorem gX10_expect_X10_wrong : GoodIn wsX10_expect (wsV RX10 130 RX10 yX10_wrong wsX10_wrong) := goodIn_app (goodIn_of _ (by decide +kernel)) ggX10_expect_X10_wrong
theorem dX10_expect_0 : decode cX10_expect 0 = .ok (.iload_n 1, 1) := by decide +kernel
theorem dX10_expect_1 : decode cX10_expect 1 = .ok (.ifCond .ne 8, 3) := by decide +kernel
theorem dX10_expect_4 : decode cX10_expect 4 = .ok (.aload_n 0, 1) := by decide +kernel
theorem dX10_expect_5 : decode cX10_expect 5 = .ok (.invokevirtual 130, 3) := by decide +kernel
theorem dX10_expect_8 : decode cX10_expect 8 = .ok (.athrow, 1) := by decide +kernel
theorem dX10_expect_9 : decode cX10_expect 9 = .ok (.aload_n 0, 1) := by decide +kernel
theorem dX10_expect_10 : decode cX10_expect 10 = .ok (.dup, 1) := by decide +kernel
theorem dX10_expect_11 : decode cX10_expect 11 = .ok (.getfield 121, 3) := by decide +kernel
theorem dX10_expect_14 : decode cX10_expect 14 = .ok (.iconst 1, 1) := by decide +kernel
theorem dX10_expect_15 : decode cX10_expect 15 = .ok (.iadd, 1) := by decide +kernel
theorem dX10_expect_16 : decode cX10_expect 16 = .ok (.putfield 121, 3) := by decide +kernel
theorem dX10_expect_19 : decode cX10_expect 19 = .ok (.return_, 1) := by decide +kernel
theorem dX10_later_0 : decode cX10_later 0 = .ok (.aload_n 0, 1) := by decide +kernel
theorem dX10_later_1 : decode cX10_later 1 = .ok (.getfield 134, 3) := by decide +kernel
theorem dX10_later_4 : decode cX10_later 4 = .ok (.ifCond .ge 16, 3) := by decide +kernel
theorem dX10_later_7 : decode cX10_later 7 = .ok (.aload_n 0, 1) := by decide +kernel
theorem dX10_later_8 : decode cX10_later 8 = .ok (.aload_n 0, 1) := by decide +kernel
theorem dX10_later_9 : decode cX10_later 9 = .ok (.getfield 53, 3) := by decide +kernel
theorem dX10_later_12 : decode cX10_later 12 = .ok (.getfield 68, 3) := by decide +kernel
theorem dX10_later_15 : decode cX10_later 15 = .ok (.iload_n 1, 1) := by decide +kernel
theorem dX10_later_16 : decode cX10_later 16 = .ok (.iaload, 1) := by decide +kernel
theorem dX10_later_17 : decode cX10_later 17 = .ok (.putfield 134, 3) := by decide +kernel
theorem dX10_later_20 : decode cX10_later 20 = .ok (.return_, 1) := by decide +kernel
set_option maxRecDepth 20000 in
theorem ggX10_whole_X10_kind : GoodIn wsX10_whole wsX10_kind := goodIn_r _ [8, 1, 9, 3, 21, 22, 23, 24, 25, 26, 27, 28, 29, 30, 31, 32, 33, 34, 35, 36, 37, 38, 39, 40, 41, 42, 43, 44, 45, 46, 47, 48, 49, 50, 51, 52] (by decide +kernel) (by decide +kernel)
set_option maxRecDepth 20000 in
theorem gX10_whole_X10_kind : GoodIn wsX10_whole (wsV RX10 124 RX10 yX10_kind wsX10_kind) := goodIn_app (goodIn_of _ (by decide +kernel)) ggX10_whole_X10_kind
set_option maxRecDepth 20000 in
theorem ggX10_whole_X10_expect : GoodIn wsX10_whole wsX10_expect := goodIn_r _ [13, 3, 14, 15, 16, 7, 17, 1, 18, 19, 20, 21, 22, 23, 24, 25, 26, 27, 28, 29, 30, 31, 32, 33, 34, 35, 36, 37, 38, 39, 40, 41, 42, 43, 44, 45, 46, 47, 48, 49, 50, 51, 52] (by decide +kernel) (by decide +kernel)
set_option maxRecDepth 20000 in
theorem gX10_whole_X10_expect : GoodIn wsX10_whole (wsV RX10 137 RX10 yX10_expect wsX10_expect) := goodIn_app (goodIn_of _ (by decide +kernel)) ggX10_whole_X10_expect
theorem dX10_whole_0 : decode cX10_whole 0 = .ok (.aload_n 0, 1) := by decide +kernel
theorem dX10_whole_1 : decode cX10_whole 1 = .ok (.aload_n 0, 1) := by decide +kernel
theorem dX10_whole_2 : decode cX10_whole 2 = .ok (.invokevirtual 124, 3) := by decide +kernel
theorem dX10_whole_5 : decode cX10_whole 5 = .ok (.iconst 1, 1) := by decide +kernel
theorem dX10_whole_6 : decode cX10_whole 6 = .ok (.if_icmp .ne 22, 3) := by decide +kernel
theorem dX10_whole_9 : decode cX10_whole 9 = .ok (.aload_n 0, 1) := by decide +kernel
theorem dX10_whole_10 : decode cX10_whole 10 = .ok (.getfield 53, 3) := by decide +kernel
theorem dX10_whole_13 : decode cX10_whole 13 = .ok (.getfield 74, 3) := by decide +kernel
theorem dX10_whole_16 : decode cX10_whole 16 = .ok (.aload_n 0, 1) := by decide +kernel
theorem dX10_whole_17 : decode cX10_whole 17 = .ok (.getfield 121, 3) := by decide +kernel
theorem dX10_whole_20 : decode cX10_whole 20 = .ok (.baload, 1) := by decide +kernel
theorem dX10_whole_21 : decode cX10_whole 21 = .ok (.ifCond .eq 7, 3) := by decide +kernel
theorem dX10_whole_24 : decode cX10_whole 24 = .ok (.iconst 1, 1) := by decide +kernel
theorem dX10_whole_25 : decode cX10_whole 25 = .ok (.goto 4, 3) := by decide +kernel
theorem dX10_whole_28 : decode cX10_whole 28 = .ok (.iconst 0, 1) := by decide +kernel
theorem dX10_whole_29 : decode cX10_whole 29 = .ok (.invokevirtual 137, 3) := by decide +kernel
theorem dX10_whole_32 : decode cX10_whole 32 = .ok (.return_, 1) := by decide +kernel
set_option maxRecDepth 20000 in
theorem ggX10_deeper_X10_wrong : GoodIn wsX10_deeper wsX10_wrong := goodIn_r _ [6, 7, 8, 9, 10, 11, 12, 13, 14, 15, 16, 17, 18, 19, 20, 21, 22, 23, 24, 25, 26, 27, 28, 29, 30, 31, 32, 33, 34, 35, 36, 37, 38, 39, 40, 41, 42, 43] (by decide +kernel) (by decide +kernel)
set_option maxRecDepth 20000 in
theorem gX10_deeper_X10_wrong : GoodIn wsX10_deeper (wsV RX10 130 RX10 yX10_wrong wsX10_wrong) := goodIn_app (goodIn_of _ (by decide +kernel)) ggX10_deeper_X10_wrong
theorem dX10_deeper_0 : decode cX10_deeper 0 = .ok (.aload_n 0, 1) := by decide +kernel
theorem dX10_deeper_1 : decode cX10_deeper 1 = .ok (.getfield 141, 3) := by decide +kernel
theorem dX10_deeper_4 : decode cX10_deeper 4 = .ok (.bipush 20, 2) := by decide +kernel
theorem dX10_deeper_6 : decode cX10_deeper 6 = .ok (.if_icmp .ne 8, 3) := by decide +kernel
theorem dX10_deeper_9 : decode cX10_deeper 9 = .ok (.aload_n 0, 1) := by decide +kernel
theorem dX10_deeper_10 : decode cX10_deeper 10 = .ok (.invokevirtual 130, 3) := by decide +kernel
theorem dX10_deeper_13 : decode cX10_deeper 13 = .ok (.athrow, 1) := by decide +kernel
theorem dX10_deeper_14 : decode cX10_deeper 14 = .ok (.aload_n 0, 1) := by decide +kernel
theorem dX10_deeper_15 : decode cX10_deeper 15 = .ok (.dup, 1) := by decide +kernel
theorem dX10_deeper_16 : decode cX10_deeper 16 = .ok (.getfield 141, 3) := by decide +kernel
theorem dX10_deeper_19 : decode cX10_deeper 19 = .ok (.iconst 1, 1) := by decide +kernel
theorem dX10_deeper_20 : decode cX10_deeper 20 = .ok (.iadd, 1) := by decide +kernel
theorem dX10_deeper_21 : decode cX10_deeper 21 = .ok (.putfield 141, 3) := by decide +kernel
theorem dX10_deeper_24 : decode cX10_deeper 24 = .ok (.return_, 1) := by decide +kernel
set_option maxRecDepth 20000 in
theorem ggX10_bracket_X10_isSign : GoodIn wsX10_bracket wsX10_isSign := goodIn_r _ [7, 8, 9, 1, 10, 11, 12, 6, 13, 14, 74, 75, 76, 77, 78, 79, 80, 81, 82, 83, 84, 85, 86, 87, 88, 89, 90, 91, 92, 93, 94, 95, 96, 97, 98, 99, 100, 101, 102, 103, 104, 105] (by decide +kernel) (by decide +kernel)
set_option maxRecDepth 20000 in
theorem gX10_bracket_X10_isSign : GoodIn wsX10_bracket (wsV RX10 144 RX10 yX10_isSign wsX10_isSign) := goodIn_app (goodIn_of _ (by decide +kernel)) ggX10_bracket_X10_isSign
set_option maxRecDepth 20000 in
theorem ggX10_bracket_X10_wrong : GoodIn wsX10_bracket wsX10_wrong := goodIn_r _ [18, 8, 19, 1, 20, 21, 74, 75, 76, 77, 78, 79, 80, 81, 82, 83, 84, 85, 86, 87, 88, 89, 90, 91, 92, 93, 94, 95, 96, 97, 98, 99, 100, 101, 102, 103, 104, 105] (by decide +kernel) (by decide +kernel)
set_option maxRecDepth 20000 in
theorem gX10_bracket_X10_wrong : GoodIn wsX10_bracket (wsV RX10 130 RX10 yX10_wrong wsX10_wrong) := goodIn_app (goodIn_of _ (by decide +kernel)) ggX10_bracket_X10_wrong
set_option maxRecDepth 20000 in
theorem ggX10_bracket_X10_deeper : GoodIn wsX10_bracket wsX10_deeper := goodIn_r _ [25, 2, 15, 16, 17, 6, 18, 8, 19, 1, 20, 21, 74, 75, 76, 77, 78, 79, 80, 81, 82, 83, 84, 85, 86, 87, 88, 89, 90, 91, 92, 93, 94, 95, 96, 97, 98, 99, 100, 101, 102, 103, 104, 105] (by decide +kernel) (by decide +kernel)
set_option maxRecDepth 20000 in
theorem gX10_bracket_X10_deeper : GoodIn wsX10_bracket (wsV RX10 147 RX10 yX10_deeper wsX10_deeper) := goodIn_app (goodIn_of _ (by decide +kernel)) ggX10_bracket_X10_deeper
set_option maxRecDepth 20000 in
theorem ggX10_bracket_X10_lookTest : GoodIn wsX10_bracket wsX10_lookTest := goodIn_r _ [66, 1, 67, 68, 69, 6, 70, 71, 72, 73, 8, 9, 10, 11, 12, 13, 14, 0, 2, 3, 4, 5, 7, 15, 16, 17, 18, 19, 20, 21, 22, 23, 24, 25, 26, 27, 28, 29, 30, 31, 32, 33, 34, 35, 36, 37, 38, 39, 40, 41, 42, 43, 44, 45, 46, 47, 48, 49, 50, 51, 52, 53, 54, 55, 56, 57, 58, 59, 60, 61, 62, 63, 64, 65, 74, 75, 76, 77, 78, 79, 80, 81, 82, 83, 84, 85, 86, 87, 88, 89, 90, 91, 92, 93, 94, 95, 96, 97, 98, 99, 100, 101, 102, 103, 104, 105] (by decide +kernel) (by decide +kernel)
set_option maxRecDepth 20000 in
theorem gX10_bracket_X10_lookTest : GoodIn wsX10_bracket (wsV RX10 150 RX10 yX10_lookTest wsX10_lookTest) := goodIn_app (goodIn_of _ (by decide +kernel)) ggX10_bracket_X10_lookTest
set_option maxRecDepth 20000 in
theorem ggX10_bracket_X10_expect : GoodIn wsX10_bracket wsX10_expect := goodIn_r _ [32, 1, 15, 16, 17, 6, 18, 8, 19, 20, 21, 74, 75, 76, 77, 78, 79, 80, 81, 82, 83, 84, 85, 86, 87, 88, 89, 90, 91, 92, 93, 94, 95, 96, 97, 98, 99, 100, 101, 102, 103, 104, 105] (by decide +kernel) (by decide +kernel)
set_option maxRecDepth 20000 in
theorem gX10_bracket_X10_expect : GoodIn wsX10_bracket (wsV RX10 137 RX10 yX10_expect wsX10_expect) := goodIn_app (goodIn_of _ (by decide +kernel)) ggX10_bracket_X10_expect
theorem dX10_bracket_0 : decode cX10_bracket 0 = .ok (.aload_n 0, 1) := by decide +kernel
theorem dX10_bracket_1 : decode cX10_bracket 1 = .ok (.bipush 91, 2) := by decide +kernel
theorem dX10_bracket_3 : decode cX10_bracket 3 = .ok (.invokevirtual 144, 3) := by decide +kernel
theorem dX10_bracket_6 : decode cX10_bracket 6 = .ok (.ifCond .ne 8, 3) := by decide +kernel
theorem dX10_bracket_9 : decode cX10_bracket 9 = .ok (.aload_n 0, 1) := by decide +kernel
theorem dX10_bracket_10 : decode cX10_bracket 10 = .ok (.invokevirtual 130, 3) := by decide +kernel
theorem dX10_bracket_13 : decode cX10_bracket 13 = .ok (.athrow, 1) := by decide +kernel
theorem dX10_bracket_14 : decode cX10_bracket 14 = .ok (.aload_n 0, 1) := by decide +kernel
theorem dX10_bracket_15 : decode cX10_bracket 15 = .ok (.invokevirtual 147, 3) := by decide +kernel
theorem dX10_bracket_18 : decode cX10_bracket 18 = .ok (.aload_n 0, 1) := by decide +kernel
theorem dX10_bracket_19 : decode cX10_bracket 19 = .ok (.dup, 1) := by decide +kernel
theorem dX10_bracket_20 : decode cX10_bracket 20 = .ok (.getfield 121, 3) := by decide +kernel
theorem dX10_bracket_23 : decode cX10_bracket 23 = .ok (.iconst 1, 1) := by decide +kernel
theorem dX10_bracket_24 : decode cX10_bracket 24 = .ok (.iadd, 1) := by decide +kernel
theorem dX10_bracket_25 : decode cX10_bracket 25 = .ok (.putfield 121, 3) := by decide +kernel
theorem dX10_bracket_28 : decode cX10_bracket 28 = .ok (.aload_n 0, 1) := by decide +kernel
theorem dX10_bracket_29 : decode cX10_bracket 29 = .ok (.invokevirtual 150, 3) := by decide +kernel
theorem dX10_bracket_32 : decode cX10_bracket 32 = .ok (.aload_n 0, 1) := by decide +kernel
theorem dX10_bracket_33 : decode cX10_bracket 33 = .ok (.aload_n 0, 1) := by decide +kernel
theorem dX10_bracket_34 : decode cX10_bracket 34 = .ok (.bipush 93, 2) := by decide +kernel
theorem dX10_bracket_36 : decode cX10_bracket 36 = .ok (.invokevirtual 144, 3) := by decide +kernel
theorem dX10_bracket_39 : decode cX10_bracket 39 = .ok (.invokevirtual 137, 3) := by decide +kernel
theorem dX10_bracket_42 : decode cX10_bracket 42 = .ok (.aload_n 0, 1) := by decide +kernel
theorem dX10_bracket_43 : decode cX10_bracket 43 = .ok (.dup, 1) := by decide +kernel
theorem dX10_bracket_44 : decode cX10_bracket 44 = .ok (.getfield 141, 3) := by decide +kernel
theorem dX10_bracket_47 : decode cX10_bracket 47 = .ok (.iconst 1, 1) := by decide +kernel
theorem dX10_bracket_48 : decode cX10_bracket 48 = .ok (.isub, 1) := by decide +kernel
theorem dX10_bracket_49 : decode cX10_bracket 49 = .ok (.putfield 141, 3) := by decide +kernel
theorem dX10_bracket_52 : decode cX10_bracket 52 = .ok (.return_, 1) := by decide +kernel
set_option maxRecDepth 20000 in
theorem ggX10_lookPlace_X10_isSign : GoodIn wsX10_lookPlace wsX10_isSign := goodIn_r _ [5, 6, 7, 8, 9, 10, 11, 4, 12, 13, 74, 75, 76, 77, 78, 79, 80, 81, 82, 83, 84, 85, 86, 87, 88, 89, 90, 91, 92, 93, 94, 95, 96, 97, 98, 99, 100, 101, 102, 103, 104, 105] (by decide +kernel) (by decide +kernel)
set_option maxRecDepth 20000 in
theorem gX10_lookPlace_X10_isSign : GoodIn wsX10_lookPlace (wsV RX10 144 RX10 yX10_isSign wsX10_isSign) := goodIn_app (goodIn_of _ (by decide +kernel)) ggX10_lookPlace_X10_isSign
set_option maxRecDepth 20000 in
theorem ggX10_lookPlace_X10_expect : GoodIn wsX10_lookPlace wsX10_expect := goodIn_r _ [17, 8, 18, 19, 20, 4, 21, 6, 22, 23, 24, 74, 75, 76, 77, 78, 79, 80, 81, 82, 83, 84, 85, 86, 87, 88, 89, 90, 91, 92, 93, 94, 95, 96, 97, 98, 99, 100, 101, 102, 103, 104, 105] (by decide +kernel) (by decide +kernel)
set_option maxRecDepth 20000 in
theorem gX10_lookPlace_X10_expect : GoodIn wsX10_lookPlace (wsV RX10 137 RX10 yX10_expect wsX10_expect) := goodIn_app (goodIn_of _ (by decide +kernel)) ggX10_lookPlace_X10_expect
set_option maxRecDepth 20000 in
theorem ggX10_lookPlace_X10_bracket : GoodIn wsX10_lookPlace wsX10_bracket := goodIn_r _ [33, 8, 34, 1, 2, 3, 4, 5, 6, 7, 9, 10, 11, 12, 13, 18, 19, 20, 21, 22, 23, 24, 35, 36, 37, 38, 39, 40, 41, 14, 15, 16, 17, 42, 43, 44, 45, 25, 26, 27, 46, 47, 48, 49, 50, 51, 52, 0, 28, 29, 30, 31, 32, 53, 54, 55, 56, 57, 58, 59, 60, 61, 62, 63, 64, 65, 66, 67, 68, 69, 70, 71, 72, 73, 74, 75, 76, 77, 78, 79, 80, 81, 82, 83, 84, 85, 86, 87, 88, 89, 90, 91, 92, 93, 94, 95, 96, 97, 98, 99, 100, 101, 102, 103, 104, 105] (by decide +kernel) (by decide +kernel)
set_option maxRecDepth 20000 in
theorem gX10_lookPlace_X10_bracket : GoodIn wsX10_lookPlace (wsV RX10 153 RX10 yX10_bracket wsX10_bracket) := goodIn_app (goodIn_of _ (by decide +kernel)) ggX10_lookPlace_X10_bracket
set_option maxRecDepth 20000 in
theorem ggX10_lookPlace_X10_whole : GoodIn wsX10_lookPlace wsX10_whole := goodIn_r _ [31, 6, 32, 8, 9, 10, 11, 4, 12, 13, 14, 15, 16, 17, 18, 19, 20, 21, 22, 23, 24, 74, 75, 76, 77, 78, 79, 80, 81, 82, 83, 84, 85, 86, 87, 88, 89, 90, 91, 92, 93, 94, 95, 96, 97, 98, 99, 100, 101, 102, 103, 104, 105] (by decide +kernel) (by decide +kernel)
set_option maxRecDepth 20000 in
theorem gX10_lookPlace_X10_whole : GoodIn wsX10_lookPlace (wsV RX10 156 RX10 yX10_whole wsX10_whole) := goodIn_app (goodIn_of _ (by decide +kernel)) ggX10_lookPlace_X10_whole
theorem dX10_lookPlace_0 : decode cX10_lookPlace 0 = .ok (.aload_n 0, 1) := by decide +kernel
theorem dX10_lookPlace_1 : decode cX10_lookPlace 1 = .ok (.aload_n 0, 1) := by decide +kernel
theorem dX10_lookPlace_2 : decode cX10_lookPlace 2 = .ok (.bipush 35, 2) := by decide +kernel
theorem dX10_lookPlace_4 : decode cX10_lookPlace 4 = .ok (.invokevirtual 144, 3) := by decide +kernel
theorem dX10_lookPlace_7 : decode cX10_lookPlace 7 = .ok (.invokevirtual 137, 3) := by decide +kernel
theorem dX10_lookPlace_10 : decode cX10_lookPlace 10 = .ok (.aload_n 0, 1) := by decide +kernel
theorem dX10_lookPlace_11 : decode cX10_lookPlace 11 = .ok (.bipush 91, 2) := by decide +kernel
theorem dX10_lookPlace_13 : decode cX10_lookPlace 13 = .ok (.invokevirtual 144, 3) := by decide +kernel
theorem dX10_lookPlace_16 : decode cX10_lookPlace 16 = .ok (.ifCond .eq 10, 3) := by decide +kernel
theorem dX10_lookPlace_19 : decode cX10_lookPlace 19 = .ok (.aload_n 0, 1) := by decide +kernel
theorem dX10_lookPlace_20 : decode cX10_lookPlace 20 = .ok (.invokevirtual 153, 3) := by decide +kernel
theorem dX10_lookPlace_23 : decode cX10_lookPlace 23 = .ok (.goto 7, 3) := by decide +kernel
theorem dX10_lookPlace_26 : decode cX10_lookPlace 26 = .ok (.aload_n 0, 1) := by decide +kernel
theorem dX10_lookPlace_27 : decode cX10_lookPlace 27 = .ok (.invokevirtual 156, 3) := by decide +kernel
theorem dX10_lookPlace_30 : decode cX10_lookPlace 30 = .ok (.return_, 1) := by decide +kernel
set_option maxRecDepth 20000 in
theorem ggX10_lookItem_X10_kind : GoodIn wsX10_lookItem wsX10_kind := goodIn_r _ [6, 7, 8, 1, 74, 75, 76, 77, 78, 79, 80, 81, 82, 83, 84, 85, 86, 87, 88, 89, 90, 91, 92, 93, 94, 95, 96, 97, 98, 99, 100, 101, 102, 103, 104, 105] (by decide +kernel) (by decide +kernel)
set_option maxRecDepth 20000 in
theorem gX10_lookItem_X10_kind : GoodIn wsX10_lookItem (wsV RX10 124 RX10 yX10_kind wsX10_kind) := goodIn_app (goodIn_of _ (by decide +kernel)) ggX10_lookItem_X10_kind
set_option maxRecDepth 20000 in
theorem ggX10_lookItem_X10_isSign : GoodIn wsX10_lookItem wsX10_isSign := goodIn_r _ [12, 7, 13, 1, 2, 3, 4, 5, 6, 8, 74, 75, 76, 77, 78, 79, 80, 81, 82, 83, 84, 85, 86, 87, 88, 89, 90, 91, 92, 93, 94, 95, 96, 97, 98, 99, 100, 101, 102, 103, 104, 105] (by decide +kernel) (by decide +kernel)
set_option maxRecDepth 20000 in
theorem gX10_lookItem_X10_isSign : GoodIn wsX10_lookItem (wsV RX10 144 RX10 yX10_isSign wsX10_isSign) := goodIn_app (goodIn_of _ (by decide +kernel)) ggX10_lookItem_X10_isSign
set_option maxRecDepth 20000 in
theorem ggX10_lookItem_X10_lookPlace : GoodIn wsX10_lookItem wsX10_lookPlace := goodIn_r _ [47, 9, 10, 11, 5, 12, 7, 13, 1, 2, 3, 4, 6, 8, 36, 37, 38, 39, 22, 23, 24, 25, 26, 27, 28, 17, 18, 19, 48, 49, 50, 51, 52, 20, 21, 29, 30, 31, 32, 33, 34, 35, 40, 41, 42, 43, 44, 45, 46, 0, 14, 15, 16, 53, 54, 55, 56, 57, 58, 59, 60, 61, 62, 63, 64, 65, 66, 67, 68, 69, 70, 71, 72, 73, 74, 75, 76, 77, 78, 79, 80, 81, 82, 83, 84, 85, 86, 87, 88, 89, 90, 91, 92, 93, 94, 95, 96, 97, 98, 99, 100, 101, 102, 103, 104, 105] (by decide +kernel) (by decide +kernel)
set_option maxRecDepth 20000 in
theorem gX10_lookItem_X10_lookPlace : GoodIn wsX10_lookItem (wsV RX10 159 RX10 yX10_lookPlace wsX10_lookPlace) := goodIn_app (goodIn_of _ (by decide +kernel)) ggX10_lookItem_X10_lookPlace
set_option maxRecDepth 20000 in
theorem ggX10_lookItem_X10_bracket : GoodIn wsX10_lookItem wsX10_bracket := goodIn_r _ [20, 1, 21, 9, 10, 11, 5, 12, 7, 13, 2, 3, 4, 6, 8, 22, 23, 24, 25, 26, 27, 28, 29, 30, 31, 32, 33, 34, 35, 36, 37, 38, 39, 40, 41, 42, 43, 17, 18, 19, 44, 45, 46, 0, 14, 15, 16, 47, 48, 49, 50, 51, 52, 53, 54, 55, 56, 57, 58, 59, 60, 61, 62, 63, 64, 65, 66, 67, 68, 69, 70, 71, 72, 73, 74, 75, 76, 77, 78, 79, 80, 81, 82, 83, 84, 85, 86, 87, 88, 89, 90, 91, 92, 93, 94, 95, 96, 97, 98, 99, 100, 101, 102, 103, 104, 105] (by decide +kernel) (by decide +kernel)
set_option maxRecDepth 20000 in
theorem gX10_lookItem_X10_bracket : GoodIn wsX10_lookItem (wsV RX10 153 RX10 yX10_bracket wsX10_bracket) := goodIn_app (goodIn_of _ (by decide +kernel)) ggX10_lookItem_X10_bracket
theorem dX10_lookItem_0 : decode cX10_lookItem 0 = .ok (.aload_n 0, 1) := by decide +kernel
theorem dX10_lookItem_1 : decode cX10_lookItem 1 = .ok (.invokevirtual 124, 3) := by decide +kernel
theorem dX10_lookItem_4 : decode cX10_lookItem 4 = .ok (.iconst 1, 1) := by decide +kernel
theorem dX10_lookItem_5 : decode cX10_lookItem 5 = .ok (.if_icmp .ne 16, 3) := by decide +kernel
theorem dX10_lookItem_8 : decode cX10_lookItem 8 = .ok (.aload_n 0, 1) := by decide +kernel
theorem dX10_lookItem_9 : decode cX10_lookItem 9 = .ok (.dup, 1) := by decide +kernel
theorem dX10_lookItem_10 : decode cX10_lookItem 10 = .ok (.getfield 121, 3) := by decide +kernel
theorem dX10_lookItem_13 : decode cX10_lookItem 13 = .ok (.iconst 1, 1) := by decide +kernel
theorem dX10_lookItem_14 : decode cX10_lookItem 14 = .ok (.iadd, 1) := by decide +kernel
theorem dX10_lookItem_15 : decode cX10_lookItem 15 = .ok (.putfield 121, 3) := by decide +kernel
theorem dX10_lookItem_18 : decode cX10_lookItem 18 = .ok (.goto 23, 3) := by decide +kernel
theorem dX10_lookItem_21 : decode cX10_lookItem 21 = .ok (.aload_n 0, 1) := by decide +kernel
theorem dX10_lookItem_22 : decode cX10_lookItem 22 = .ok (.bipush 35, 2) := by decide +kernel
theorem dX10_lookItem_24 : decode cX10_lookItem 24 = .ok (.invokevirtual 144, 3) := by decide +kernel
theorem dX10_lookItem_27 : decode cX10_lookItem 27 = .ok (.ifCond .eq 10, 3) := by decide +kernel
theorem dX10_lookItem_30 : decode cX10_lookItem 30 = .ok (.aload_n 0, 1) := by decide +kernel
theorem dX10_lookItem_31 : decode cX10_lookItem 31 = .ok (.invokevirtual 159, 3) := by decide +kernel
theorem dX10_lookItem_34 : decode cX10_lookItem 34 = .ok (.goto 7, 3) := by decide +kernel
theorem dX10_lookItem_37 : decode cX10_lookItem 37 = .ok (.aload_n 0, 1) := by decide +kernel
theorem dX10_lookItem_38 : decode cX10_lookItem 38 = .ok (.invokevirtual 153, 3) := by decide +kernel
theorem dX10_lookItem_41 : decode cX10_lookItem 41 = .ok (.return_, 1) := by decide +kernel
set_option maxRecDepth 20000 in
theorem ggX10_lookFactor_X10_isSign : GoodIn wsX10_lookFactor wsX10_isSign := goodIn_r _ [9, 3, 4, 1, 10, 11, 12, 8, 13, 14, 74, 75, 76, 77, 78, 79, 80, 81, 82, 83, 84, 85, 86, 87, 88, 89, 90, 91, 92, 93, 94, 95, 96, 97, 98, 99, 100, 101, 102, 103, 104, 105] (by decide +kernel) (by decide +kernel)
set_option maxRecDepth 20000 in
theorem gX10_lookFactor_X10_isSign : GoodIn wsX10_lookFactor (wsV RX10 144 RX10 yX10_isSign wsX10_isSign) := goodIn_app (goodIn_of _ (by decide +kernel)) ggX10_lookFactor_X10_isSign
set_option maxRecDepth 20000 in
theorem ggX10_lookFactor_X10_deeper : GoodIn wsX10_lookFactor wsX10_deeper := goodIn_r _ [18, 2, 19, 20, 21, 8, 22, 3, 23, 1, 24, 25, 74, 75, 76, 77, 78, 79, 80, 81, 82, 83, 84, 85, 86, 87, 88, 89, 90, 91, 92, 93, 94, 95, 96, 97, 98, 99, 100, 101, 102, 103, 104, 105] (by decide +kernel) (by decide +kernel)
set_option maxRecDepth 20000 in
theorem gX10_lookFactor_X10_deeper : GoodIn wsX10_lookFactor (wsV RX10 147 RX10 yX10_deeper wsX10_deeper) := goodIn_app (goodIn_of _ (by decide +kernel)) ggX10_lookFactor_X10_deeper
set_option maxRecDepth 20000 in
theorem ggX10_lookFactor_X10_lookFactor : GoodIn wsX10_lookFactor wsX10_lookFactor := goodIn_r _ [0, 1, 2, 3, 4, 5, 6, 7, 8, 9, 10, 11, 12, 13, 14, 15, 16, 17, 18, 19, 20, 21, 22, 23, 24, 25, 26, 27, 28, 29, 30, 31, 32, 33, 34, 35, 36, 37, 38, 39, 40, 41, 42, 43, 44, 45, 46, 47, 48, 49, 50, 51, 52, 53, 54, 55, 56, 57, 58, 59, 60, 61, 62, 63, 64, 65, 66, 67, 68, 69, 70, 71, 72, 73, 74, 75, 76, 77, 78, 79, 80, 81, 82, 83, 84, 85, 86, 87, 88, 89, 90, 91, 92, 93, 94, 95, 96, 97, 98, 99, 100, 101, 102, 103, 104, 105] (by decide +kernel) (by decide +kernel)
set_option maxRecDepth 20000 in
theorem gX10_lookFactor_X10_lookFactor : GoodIn wsX10_lookFactor (wsV RX10 162 RX10 yX10_lookFactor wsX10_lookFactor) := goodIn_app (goodIn_of _ (by decide +kernel)) ggX10_lookFactor_X10_lookFactor
set_option maxRecDepth 20000 in
theorem ggX10_lookFactor_X10_kind : GoodIn wsX10_lookFactor wsX10_kind := goodIn_r _ [13, 3, 14, 1, 74, 75, 76, 77, 78, 79, 80, 81, 82, 83, 84, 85, 86, 87, 88, 89, 90, 91, 92, 93, 94, 95, 96, 97, 98, 99, 100, 101, 102, 103, 104, 105] (by decide +kernel) (by decide +kernel)
set_option maxRecDepth 20000 in
theorem gX10_lookFactor_X10_kind : GoodIn wsX10_lookFactor (wsV RX10 124 RX10 yX10_kind wsX10_kind) := goodIn_app (goodIn_of _ (by decide +kernel)) ggX10_lookFactor_X10_kind
set_option maxRecDepth 20000 in
theorem ggX10_lookFactor_X10_bracket : GoodIn wsX10_lookFactor wsX10_bracket := goodIn_r _ [35, 1, 2, 5, 6, 7, 8, 9, 3, 4, 10, 11, 12, 13, 14, 19, 20, 21, 22, 23, 24, 25, 15, 16, 17, 18, 36, 37, 38, 39, 40, 41, 42, 0, 26, 27, 28, 29, 30, 31, 32, 33, 34, 43, 44, 45, 46, 47, 48, 49, 50, 51, 52, 53, 54, 55, 56, 57, 58, 59, 60, 61, 62, 63, 64, 65, 66, 67, 68, 69, 70, 71, 72, 73, 74, 75, 76, 77, 78, 79, 80, 81, 82, 83, 84, 85, 86, 87, 88, 89, 90, 91, 92, 93, 94, 95, 96, 97, 98, 99, 100, 101, 102, 103, 104, 105] (by decide +kernel) (by decide +kernel)
