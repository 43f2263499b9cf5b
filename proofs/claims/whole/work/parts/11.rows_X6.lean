set_option maxRecDepth 20000 in
theorem ggX6_init_X5_init : GoodIn wsX6_init wsX5_init := goodIn_r _ [13, 14, 2, 3, 15, 16, 17, 18, 19, 20, 21] (by decide +kernel) (by decide +kernel)
set_option maxRecDepth 20000 in
theorem gX6_init_X5_init : GoodIn wsX6_init (wsX5_init) := ggX6_init_X5_init
theorem dX6_init_0 : decode cX6_init 0 = .ok (.aload_n 0, 1) := by decide +kernel
theorem dX6_init_1 : decode cX6_init 1 = .ok (.invokespecial 1, 3) := by decide +kernel
theorem dX6_init_4 : decode cX6_init 4 = .ok (.aload_n 0, 1) := by decide +kernel
theorem dX6_init_5 : decode cX6_init 5 = .ok (.new 7, 3) := by decide +kernel
theorem dX6_init_8 : decode cX6_init 8 = .ok (.dup, 1) := by decide +kernel
theorem dX6_init_9 : decode cX6_init 9 = .ok (.sipush 8002, 3) := by decide +kernel
theorem dX6_init_12 : decode cX6_init 12 = .ok (.invokespecial 11, 3) := by decide +kernel
theorem dX6_init_15 : decode cX6_init 15 = .ok (.putfield 14, 3) := by decide +kernel
theorem dX6_init_18 : decode cX6_init 18 = .ok (.aload_n 0, 1) := by decide +kernel
theorem dX6_init_19 : decode cX6_init 19 = .ok (.new 7, 3) := by decide +kernel
theorem dX6_init_22 : decode cX6_init 22 = .ok (.dup, 1) := by decide +kernel
theorem dX6_init_23 : decode cX6_init 23 = .ok (.sipush 8002, 3) := by decide +kernel
theorem dX6_init_26 : decode cX6_init 26 = .ok (.invokespecial 11, 3) := by decide +kernel
theorem dX6_init_29 : decode cX6_init 29 = .ok (.putfield 18, 3) := by decide +kernel
theorem dX6_init_32 : decode cX6_init 32 = .ok (.aload_n 0, 1) := by decide +kernel
theorem dX6_init_33 : decode cX6_init 33 = .ok (.new 7, 3) := by decide +kernel
theorem dX6_init_36 : decode cX6_init 36 = .ok (.dup, 1) := by decide +kernel
theorem dX6_init_37 : decode cX6_init 37 = .ok (.sipush 8002, 3) := by decide +kernel
theorem dX6_init_40 : decode cX6_init 40 = .ok (.invokespecial 11, 3) := by decide +kernel
theorem dX6_init_43 : decode cX6_init 43 = .ok (.putfield 21, 3) := by decide +kernel
theorem dX6_init_46 : decode cX6_init 46 = .ok (.aload_n 0, 1) := by decide +kernel
theorem dX6_init_47 : decode cX6_init 47 = .ok (.aload_n 1, 1) := by decide +kernel
theorem dX6_init_48 : decode cX6_init 48 = .ok (.putfield 24, 3) := by decide +kernel
theorem dX6_init_51 : decode cX6_init 51 = .ok (.return_, 1) := by decide +kernel
set_option maxRecDepth 20000 in
theorem ggX6_size_X5_size : GoodIn wsX6_size wsX5_size := goodIn_r _ [6, 7, 13, 14, 15] (by decide +kernel) (by decide +kernel)
set_option maxRecDepth 20000 in
theorem gX6_size_X5_size : GoodIn wsX6_size (wsV RX6 27 RX5 yX5_size wsX5_size) := goodIn_app (goodIn_of _ (by decide +kernel)) ggX6_size_X5_size
theorem dX6_size_0 : decode cX6_size 0 = .ok (.aload_n 0, 1) := by decide +kernel
theorem dX6_size_1 : decode cX6_size 1 = .ok (.getfield 14, 3) := by decide +kernel
theorem dX6_size_4 : decode cX6_size 4 = .ok (.invokevirtual 27, 3) := by decide +kernel
theorem dX6_size_7 : decode cX6_size 7 = .ok (.ireturn, 1) := by decide +kernel
set_option maxRecDepth 20000 in
theorem ggX6_kind_X5_get : GoodIn wsX6_kind wsX5_get := goodIn_r _ [6, 7, 8, 14, 15, 16] (by decide +kernel) (by decide +kernel)
set_option maxRecDepth 20000 in
theorem gX6_kind_X5_get : GoodIn wsX6_kind (wsV RX6 31 RX5 yX5_get wsX5_get) := goodIn_app (goodIn_of _ (by decide +kernel)) ggX6_kind_X5_get
theorem dX6_kind_0 : decode cX6_kind 0 = .ok (.aload_n 0, 1) := by decide +kernel
theorem dX6_kind_1 : decode cX6_kind 1 = .ok (.getfield 14, 3) := by decide +kernel
theorem dX6_kind_4 : decode cX6_kind 4 = .ok (.iload_n 1, 1) := by decide +kernel
theorem dX6_kind_5 : decode cX6_kind 5 = .ok (.invokevirtual 31, 3) := by decide +kernel
theorem dX6_kind_8 : decode cX6_kind 8 = .ok (.ireturn, 1) := by decide +kernel
set_option maxRecDepth 20000 in
theorem ggX6_start_X5_get : GoodIn wsX6_start wsX5_get := goodIn_r _ [6, 7, 8, 14, 15, 16] (by decide +kernel) (by decide +kernel)
set_option maxRecDepth 20000 in
theorem gX6_start_X5_get : GoodIn wsX6_start (wsV RX6 31 RX5 yX5_get wsX5_get) := goodIn_app (goodIn_of _ (by decide +kernel)) ggX6_start_X5_get
theorem dX6_start_0 : decode cX6_start 0 = .ok (.aload_n 0, 1) := by decide +kernel
theorem dX6_start_1 : decode cX6_start 1 = .ok (.getfield 18, 3) := by decide +kernel
theorem dX6_start_4 : decode cX6_start 4 = .ok (.iload_n 1, 1) := by decide +kernel
theorem dX6_start_5 : decode cX6_start 5 = .ok (.invokevirtual 31, 3) := by decide +kernel
theorem dX6_start_8 : decode cX6_start 8 = .ok (.ireturn, 1) := by decide +kernel
set_option maxRecDepth 20000 in
theorem ggX6_worth_X5_get : GoodIn wsX6_worth wsX5_get := goodIn_r _ [6, 7, 8, 14, 15, 16] (by decide +kernel) (by decide +kernel)
set_option maxRecDepth 20000 in
theorem gX6_worth_X5_get : GoodIn wsX6_worth (wsV RX6 31 RX5 yX5_get wsX5_get) := goodIn_app (goodIn_of _ (by decide +kernel)) ggX6_worth_X5_get
theorem dX6_worth_0 : decode cX6_worth 0 = .ok (.aload_n 0, 1) := by decide +kernel
theorem dX6_worth_1 : decode cX6_worth 1 = .ok (.getfield 21, 3) := by decide +kernel
theorem dX6_worth_4 : decode cX6_worth 4 = .ok (.iload_n 1, 1) := by decide +kernel
theorem dX6_worth_5 : decode cX6_worth 5 = .ok (.invokevirtual 31, 3) := by decide +kernel
theorem dX6_worth_8 : decode cX6_worth 8 = .ok (.ireturn, 1) := by decide +kernel
set_option maxRecDepth 20000 in
theorem ggX6_split_X5_cut : GoodIn wsX6_split wsX5_cut := goodIn_r _ [10, 11, 142, 143, 144] (by decide +kernel) (by decide +kernel)
set_option maxRecDepth 20000 in
theorem gX6_split_X5_cut : GoodIn wsX6_split (wsV RX6 35 RX5 yX5_cut wsX5_cut) := goodIn_app (goodIn_of _ (by decide +kernel)) ggX6_split_X5_cut
set_option maxRecDepth 20000 in
theorem ggX6_split_X5_size : GoodIn wsX6_split wsX5_size := goodIn_r _ [15, 11, 142, 143, 144] (by decide +kernel) (by decide +kernel)
set_option maxRecDepth 20000 in
theorem gX6_split_X5_size : GoodIn wsX6_split (wsV RX6 27 RX5 yX5_size wsX5_size) := goodIn_app (goodIn_of _ (by decide +kernel)) ggX6_split_X5_size
set_option maxRecDepth 20000 in
theorem ggX6_split_X6_takeToken : GoodIn wsX6_split wsX6_takeToken := goodIn_r _ [20, 4, 5, 21, 22, 23, 19, 24, 12, 13, 14, 9, 15, 11, 25, 26, 27, 28, 29, 30, 31, 32, 33, 34, 35, 36, 37, 38, 39, 40, 41, 1, 2, 3, 42, 43, 44, 45, 46, 47, 48, 49, 50, 51, 52, 53, 54, 55, 56, 57, 58, 59, 60, 61, 62, 63, 64, 65, 66, 67, 68, 69, 70, 71, 72, 73, 74, 75, 76, 77, 78, 79, 80, 81, 82, 83, 84, 85, 86, 87, 88, 89, 90, 91, 92, 93, 94, 95, 96, 97, 98, 99, 100, 101, 102, 103, 104, 105, 106, 107, 108, 109, 110, 111, 112, 113, 114, 115, 116, 117, 118, 119, 120, 121, 122, 123, 124, 125, 126, 127, 128, 129, 130, 131, 132, 133, 134, 135, 136, 137, 138, 139, 140, 141, 142, 143, 144] (by decide +kernel) (by decide +kernel)
set_option maxRecDepth 20000 in
theorem gX6_split_X6_takeToken : GoodIn wsX6_split (wsV RX6 44 RX6 yX6_takeToken wsX6_takeToken) := goodIn_app (goodIn_of _ (by decide +kernel)) ggX6_split_X6_takeToken
set_option maxRecDepth 20000 in
theorem ggX6_split_X5_get : GoodIn wsX6_split wsX5_get := goodIn_r _ [28, 11, 29, 142, 143, 144] (by decide +kernel) (by decide +kernel)
set_option maxRecDepth 20000 in
theorem gX6_split_X5_get : GoodIn wsX6_split (wsV RX6 31 RX5 yX5_get wsX5_get) := goodIn_app (goodIn_of _ (by decide +kernel)) ggX6_split_X5_get
set_option maxRecDepth 20000 in
theorem ggX6_split_X6_addEnd : GoodIn wsX6_split wsX6_addEnd := goodIn_r _ [37, 5, 12, 13, 14, 9, 15, 11, 38, 39, 40, 19, 41, 1, 2, 3, 42, 43, 44, 45, 46, 29, 47, 48, 49, 50, 51, 52, 53, 54, 55, 56, 57, 58, 59, 60, 61, 62, 63, 64, 65, 137, 138, 139, 140, 141, 142, 143, 144] (by decide +kernel) (by decide +kernel)
set_option maxRecDepth 20000 in
theorem gX6_split_X6_addEnd : GoodIn wsX6_split (wsV RX6 47 RX6 yX6_addEnd wsX6_addEnd) := goodIn_app (goodIn_of _ (by decide +kernel)) ggX6_split_X6_addEnd
theorem dX6_split_0 : decode cX6_split 0 = .ok (.aload_n 0, 1) := by decide +kernel
theorem dX6_split_1 : decode cX6_split 1 = .ok (.getfield 14, 3) := by decide +kernel
theorem dX6_split_4 : decode cX6_split 4 = .ok (.iconst 0, 1) := by decide +kernel
theorem dX6_split_5 : decode cX6_split 5 = .ok (.invokevirtual 35, 3) := by decide +kernel
theorem dX6_split_8 : decode cX6_split 8 = .ok (.aload_n 0, 1) := by decide +kernel
theorem dX6_split_9 : decode cX6_split 9 = .ok (.getfield 18, 3) := by decide +kernel
theorem dX6_split_12 : decode cX6_split 12 = .ok (.iconst 0, 1) := by decide +kernel
theorem dX6_split_13 : decode cX6_split 13 = .ok (.invokevirtual 35, 3) := by decide +kernel
theorem dX6_split_16 : decode cX6_split 16 = .ok (.aload_n 0, 1) := by decide +kernel
theorem dX6_split_17 : decode cX6_split 17 = .ok (.getfield 21, 3) := by decide +kernel
theorem dX6_split_20 : decode cX6_split 20 = .ok (.iconst 0, 1) := by decide +kernel
theorem dX6_split_21 : decode cX6_split 21 = .ok (.invokevirtual 35, 3) := by decide +kernel
theorem dX6_split_24 : decode cX6_split 24 = .ok (.aload_n 0, 1) := by decide +kernel
theorem dX6_split_25 : decode cX6_split 25 = .ok (.iconst 0, 1) := by decide +kernel
theorem dX6_split_26 : decode cX6_split 26 = .ok (.putfield 38, 3) := by decide +kernel
theorem dX6_split_29 : decode cX6_split 29 = .ok (.bipush 10, 2) := by decide +kernel
theorem dX6_split_31 : decode cX6_split 31 = .ok (.istore_n 1, 1) := by decide +kernel
theorem dX6_split_32 : decode cX6_split 32 = .ok (.iconst 0, 1) := by decide +kernel
theorem dX6_split_33 : decode cX6_split 33 = .ok (.istore_n 2, 1) := by decide +kernel
theorem dX6_split_34 : decode cX6_split 34 = .ok (.iload_n 2, 1) := by decide +kernel
theorem dX6_split_35 : decode cX6_split 35 = .ok (.sipush 8000, 3) := by decide +kernel
theorem dX6_split_38 : decode cX6_split 38 = .ok (.if_icmp .gt 48, 3) := by decide +kernel
theorem dX6_split_41 : decode cX6_split 41 = .ok (.aload_n 0, 1) := by decide +kernel
theorem dX6_split_42 : decode cX6_split 42 = .ok (.getfield 38, 3) := by decide +kernel
theorem dX6_split_45 : decode cX6_split 45 = .ok (.aload_n 0, 1) := by decide +kernel
theorem dX6_split_46 : decode cX6_split 46 = .ok (.getfield 24, 3) := by decide +kernel
theorem dX6_split_49 : decode cX6_split 49 = .ok (.invokevirtual 27, 3) := by decide +kernel
theorem dX6_split_52 : decode cX6_split 52 = .ok (.if_icmp .ge 34, 3) := by decide +kernel
theorem dX6_split_55 : decode cX6_split 55 = .ok (.iload_n 1, 1) := by decide +kernel
theorem dX6_split_56 : decode cX6_split 56 = .ok (.ifCond .eq 30, 3) := by decide +kernel
theorem dX6_split_59 : decode cX6_split 59 = .ok (.aload_n 0, 1) := by decide +kernel
theorem dX6_split_60 : decode cX6_split 60 = .ok (.invokevirtual 44, 3) := by decide +kernel
theorem dX6_split_63 : decode cX6_split 63 = .ok (.aload_n 0, 1) := by decide +kernel
theorem dX6_split_64 : decode cX6_split 64 = .ok (.getfield 14, 3) := by decide +kernel
theorem dX6_split_67 : decode cX6_split 67 = .ok (.aload_n 0, 1) := by decide +kernel
theorem dX6_split_68 : decode cX6_split 68 = .ok (.getfield 14, 3) := by decide +kernel
theorem dX6_split_71 : decode cX6_split 71 = .ok (.invokevirtual 27, 3) := by decide +kernel
theorem dX6_split_74 : decode cX6_split 74 = .ok (.iconst 1, 1) := by decide +kernel
theorem dX6_split_75 : decode cX6_split 75 = .ok (.isub, 1) := by decide +kernel
theorem dX6_split_76 : decode cX6_split 76 = .ok (.invokevirtual 31, 3) := by decide +kernel
theorem dX6_split_79 : decode cX6_split 79 = .ok (.istore_n 1, 1) := by decide +kernel
theorem dX6_split_80 : decode cX6_split 80 = .ok (.iinc 2 1, 3) := by decide +kernel
theorem dX6_split_83 : decode cX6_split 83 = .ok (.goto (-49), 3) := by decide +kernel
theorem dX6_split_86 : decode cX6_split 86 = .ok (.iload_n 1, 1) := by decide +kernel
theorem dX6_split_87 : decode cX6_split 87 = .ok (.bipush 10, 2) := by decide +kernel
theorem dX6_split_89 : decode cX6_split 89 = .ok (.if_icmp .eq 11, 3) := by decide +kernel
theorem dX6_split_92 : decode cX6_split 92 = .ok (.iload_n 1, 1) := by decide +kernel
theorem dX6_split_93 : decode cX6_split 93 = .ok (.ifCond .eq 7, 3) := by decide +kernel
theorem dX6_split_96 : decode cX6_split 96 = .ok (.aload_n 0, 1) := by decide +kernel
theorem dX6_split_97 : decode cX6_split 97 = .ok (.invokevirtual 47, 3) := by decide +kernel
theorem dX6_split_100 : decode cX6_split 100 = .ok (.return_, 1) := by decide +kernel
set_option maxRecDepth 20000 in
theorem ggX6_addEnd_X5_size : GoodIn wsX6_addEnd wsX5_size := goodIn_r _ [6, 7, 46, 47, 48] (by decide +kernel) (by decide +kernel)
set_option maxRecDepth 20000 in
theorem gX6_addEnd_X5_size : GoodIn wsX6_addEnd (wsV RX6 27 RX5 yX5_size wsX5_size) := goodIn_app (goodIn_of _ (by decide +kernel)) ggX6_addEnd_X5_size
set_option maxRecDepth 20000 in
theorem ggX6_addEnd_X6_add : GoodIn wsX6_addEnd wsX6_add := goodIn_r _ [12, 13, 14, 15, 16, 17, 18, 5, 19, 7, 20, 21, 22, 23, 24, 25, 26, 27, 28, 29, 30, 31, 32, 33, 34, 35, 36, 37, 38, 39, 40, 41, 42, 43, 44, 45, 46, 47, 48] (by decide +kernel) (by decide +kernel)
set_option maxRecDepth 20000 in
theorem gX6_addEnd_X6_add : GoodIn wsX6_addEnd (wsV RX6 50 RX6 yX6_add wsX6_add) := goodIn_app (goodIn_of _ (by decide +kernel)) ggX6_addEnd_X6_add
theorem dX6_addEnd_0 : decode cX6_addEnd 0 = .ok (.aload_n 0, 1) := by decide +kernel
theorem dX6_addEnd_1 : decode cX6_addEnd 1 = .ok (.getfield 24, 3) := by decide +kernel
theorem dX6_addEnd_4 : decode cX6_addEnd 4 = .ok (.invokevirtual 27, 3) := by decide +kernel
theorem dX6_addEnd_7 : decode cX6_addEnd 7 = .ok (.sipush 8000, 3) := by decide +kernel
theorem dX6_addEnd_10 : decode cX6_addEnd 10 = .ok (.if_icmp .le 15, 3) := by decide +kernel
theorem dX6_addEnd_13 : decode cX6_addEnd 13 = .ok (.aload_n 0, 1) := by decide +kernel
theorem dX6_addEnd_14 : decode cX6_addEnd 14 = .ok (.iconst 0, 1) := by decide +kernel
theorem dX6_addEnd_15 : decode cX6_addEnd 15 = .ok (.sipush 8000, 3) := by decide +kernel
theorem dX6_addEnd_18 : decode cX6_addEnd 18 = .ok (.iconst 0, 1) := by decide +kernel
theorem dX6_addEnd_19 : decode cX6_addEnd 19 = .ok (.invokevirtual 50, 3) := by decide +kernel
theorem dX6_addEnd_22 : decode cX6_addEnd 22 = .ok (.goto 17, 3) := by decide +kernel
theorem dX6_addEnd_25 : decode cX6_addEnd 25 = .ok (.aload_n 0, 1) := by decide +kernel
theorem dX6_addEnd_26 : decode cX6_addEnd 26 = .ok (.bipush 10, 2) := by decide +kernel
theorem dX6_addEnd_28 : decode cX6_addEnd 28 = .ok (.aload_n 0, 1) := by decide +kernel
theorem dX6_addEnd_29 : decode cX6_addEnd 29 = .ok (.getfield 24, 3) := by decide +kernel
theorem dX6_addEnd_32 : decode cX6_addEnd 32 = .ok (.invokevirtual 27, 3) := by decide +kernel
theorem dX6_addEnd_35 : decode cX6_addEnd 35 = .ok (.iconst 0, 1) := by decide +kernel
theorem dX6_addEnd_36 : decode cX6_addEnd 36 = .ok (.invokevirtual 50, 3) := by decide +kernel
theorem dX6_addEnd_39 : decode cX6_addEnd 39 = .ok (.return_, 1) := by decide +kernel
set_option maxRecDepth 20000 in
theorem ggX6_add_X5_add : GoodIn wsX6_add wsX5_add := goodIn_r _ [8, 9, 10, 11, 12, 13, 14, 15, 16, 17, 18, 19, 20, 21, 22, 23, 24, 25, 26, 27, 28, 29, 30, 36, 37, 38] (by decide +kernel) (by decide +kernel)
set_option maxRecDepth 20000 in
theorem gX6_add_X5_add : GoodIn wsX6_add (wsV RX6 54 RX5 yX5_add wsX5_add) := goodIn_app (goodIn_of _ (by decide +kernel)) ggX6_add_X5_add
theorem dX6_add_0 : decode cX6_add 0 = .ok (.aload_n 0, 1) := by decide +kernel
theorem dX6_add_1 : decode cX6_add 1 = .ok (.getfield 14, 3) := by decide +kernel
theorem dX6_add_4 : decode cX6_add 4 = .ok (.iload_n 1, 1) := by decide +kernel
theorem dX6_add_5 : decode cX6_add 5 = .ok (.invokevirtual 54, 3) := by decide +kernel
theorem dX6_add_8 : decode cX6_add 8 = .ok (.aload_n 0, 1) := by decide +kernel
theorem dX6_add_9 : decode cX6_add 9 = .ok (.getfield 18, 3) := by decide +kernel
theorem dX6_add_12 : decode cX6_add 12 = .ok (.iload_n 2, 1) := by decide +kernel
theorem dX6_add_13 : decode cX6_add 13 = .ok (.invokevirtual 54, 3) := by decide +kernel
theorem dX6_add_16 : decode cX6_add 16 = .ok (.aload_n 0, 1) := by decide +kernel
theorem dX6_add_17 : decode cX6_add 17 = .ok (.getfield 21, 3) := by decide +kernel
theorem dX6_add_20 : decode cX6_add 20 = .ok (.iload_n 3, 1) := by decide +kernel
theorem dX6_add_21 : decode cX6_add 21 = .ok (.invokevirtual 54, 3) := by decide +kernel
theorem dX6_add_24 : decode cX6_add 24 = .ok (.return_, 1) := by decide +kernel
set_option maxRecDepth 20000 in
theorem ggX6_takeToken_X6_pastBlanks : GoodIn wsX6_takeToken wsX6_pastBlanks := goodIn_r _ [7, 2, 8, 9, 10, 11, 12, 13, 14, 15, 16, 17, 18, 19, 20, 21, 6, 22, 129, 130, 131, 132, 133, 134, 135, 136] (by decide +kernel) (by decide +kernel)
set_option maxRecDepth 20000 in
theorem gX6_takeToken_X6_pastBlanks : GoodIn wsX6_takeToken (wsV RX6 56 RX6 yX6_pastBlanks wsX6_pastBlanks) := goodIn_app (goodIn_of _ (by decide +kernel)) ggX6_takeToken_X6_pastBlanks
set_option maxRecDepth 20000 in
theorem ggX6_takeToken_X5_get : GoodIn wsX6_takeToken wsX5_get := goodIn_r _ [17, 13, 18, 134, 135, 136] (by decide +kernel) (by decide +kernel)
set_option maxRecDepth 20000 in
theorem gX6_takeToken_X5_get : GoodIn wsX6_takeToken (wsV RX6 31 RX5 yX5_get wsX5_get) := goodIn_app (goodIn_of _ (by decide +kernel)) ggX6_takeToken_X5_get
set_option maxRecDepth 20000 in
theorem ggX6_takeToken_X5_size : GoodIn wsX6_takeToken wsX5_size := goodIn_r _ [12, 13, 134, 135, 136] (by decide +kernel) (by decide +kernel)
set_option maxRecDepth 20000 in
theorem gX6_takeToken_X5_size : GoodIn wsX6_takeToken (wsV RX6 27 RX5 yX5_size wsX5_size) := goodIn_app (goodIn_of _ (by decide +kernel)) ggX6_takeToken_X5_size
set_option maxRecDepth 20000 in
theorem ggX6_takeToken_X6_addEnd : GoodIn wsX6_takeToken wsX6_addEnd := goodIn_r _ [26, 2, 8, 9, 10, 11, 12, 13, 27, 28, 29, 6, 30, 31, 32, 33, 34, 35, 36, 37, 38, 18, 39, 40, 41, 42, 43, 44, 45, 46, 47, 48, 49, 50, 51, 52, 53, 54, 55, 56, 57, 129, 130, 131, 132, 133, 134, 135, 136] (by decide +kernel) (by decide +kernel)
set_option maxRecDepth 20000 in
theorem gX6_takeToken_X6_addEnd : GoodIn wsX6_takeToken (wsV RX6 47 RX6 yX6_addEnd wsX6_addEnd) := goodIn_app (goodIn_of _ (by decide +kernel)) ggX6_takeToken_X6_addEnd
set_option maxRecDepth 20000 in
theorem ggX6_takeToken_X6_isDigit : GoodIn wsX6_takeToken wsX6_isDigit := goodIn_r _ [60] (by decide +kernel) (by decide +kernel)
set_option maxRecDepth 20000 in
theorem gX6_takeToken_X6_isDigit : GoodIn wsX6_takeToken (va_wsS RX6 59 yX6_isDigit wsX6_isDigit) := goodIn_app (goodIn_of _ (by decide +kernel)) ggX6_takeToken_X6_isDigit
set_option maxRecDepth 20000 in
theorem ggX6_takeToken_X6_takeNumber : GoodIn wsX6_takeToken wsX6_takeNumber := goodIn_r _ [64, 2, 1, 65, 66, 67, 6, 68, 8, 9, 10, 11, 12, 13, 14, 15, 16, 17, 18, 58, 59, 60, 27, 28, 29, 30, 31, 32, 33, 34, 35, 36, 37, 38, 39, 40, 41, 42, 43, 44, 45, 46, 47, 48, 49, 50, 51, 52, 53, 54, 55, 56, 57, 129, 130, 131, 132, 133, 134, 135, 136] (by decide +kernel) (by decide +kernel)
set_option maxRecDepth 20000 in
theorem gX6_takeToken_X6_takeNumber : GoodIn wsX6_takeToken (wsV RX6 63 RX6 yX6_takeNumber wsX6_takeNumber) := goodIn_app (goodIn_of _ (by decide +kernel)) ggX6_takeToken_X6_takeNumber
set_option maxRecDepth 20000 in
theorem ggX6_takeToken_X6_takeWord : GoodIn wsX6_takeToken wsX6_takeWord := goodIn_r _ [72, 1, 73, 74, 75, 76, 77, 78, 79, 80, 81, 82, 83, 84, 85, 86, 87, 6, 88, 2, 89, 90, 91, 92, 93, 94, 95, 96, 97, 98, 99, 100, 101, 102, 103, 104, 105, 106, 107, 108, 109, 110, 111, 112, 113, 114, 115, 116, 117, 118, 119, 120, 121, 122, 123, 124, 125, 14, 15, 16, 11, 17, 13, 18, 27, 28, 29, 30, 31, 32, 33, 34, 35, 36, 37, 38, 39, 40, 41, 42, 43, 44, 45, 46, 47, 48, 49, 50, 51, 52, 53, 54, 55, 56, 57, 129, 130, 131, 132, 133, 134, 135, 136] (by decide +kernel) (by decide +kernel)
set_option maxRecDepth 20000 in
theorem gX6_takeToken_X6_takeWord : GoodIn wsX6_takeToken (wsV RX6 66 RX6 yX6_takeWord wsX6_takeWord) := goodIn_app (goodIn_of _ (by decide +kernel)) ggX6_takeToken_X6_takeWord
set_option maxRecDepth 20000 in
theorem ggX6_takeToken_X6_isSign : GoodIn wsX6_takeToken wsX6_isSign := goodIn_r _ [128] (by decide +kernel) (by decide +kernel)
set_option maxRecDepth 20000 in
theorem gX6_takeToken_X6_isSign : GoodIn wsX6_takeToken (va_wsS RX6 70 yX6_isSign wsX6_isSign) := goodIn_app (goodIn_of _ (by decide +kernel)) ggX6_takeToken_X6_isSign
set_option maxRecDepth 20000 in
theorem ggX6_takeToken_X6_add : GoodIn wsX6_takeToken wsX6_add := goodIn_r _ [30, 31, 32, 33, 34, 35, 36, 11, 37, 13, 38, 18, 39, 40, 41, 42, 43, 44, 45, 46, 47, 48, 49, 50, 51, 52, 53, 54, 55, 56, 57, 129, 130, 131, 132, 133, 134, 135, 136] (by decide +kernel) (by decide +kernel)
set_option maxRecDepth 20000 in
theorem gX6_takeToken_X6_add : GoodIn wsX6_takeToken (wsV RX6 50 RX6 yX6_add wsX6_add) := goodIn_app (goodIn_of _ (by decide +kernel)) ggX6_takeToken_X6_add
theorem dX6_takeToken_0 : decode cX6_takeToken 0 = .ok (.aload_n 0, 1) := by decide +kernel
theorem dX6_takeToken_1 : decode cX6_takeToken 1 = .ok (.aload_n 0, 1) := by decide +kernel
theorem dX6_takeToken_2 : decode cX6_takeToken 2 = .ok (.getfield 38, 3) := by decide +kernel
theorem dX6_takeToken_5 : decode cX6_takeToken 5 = .ok (.invokevirtual 56, 3) := by decide +kernel
theorem dX6_takeToken_8 : decode cX6_takeToken 8 = .ok (.istore_n 1, 1) := by decide +kernel
theorem dX6_takeToken_9 : decode cX6_takeToken 9 = .ok (.aload_n 0, 1) := by decide +kernel
theorem dX6_takeToken_10 : decode cX6_takeToken 10 = .ok (.getfield 24, 3) := by decide +kernel
theorem dX6_takeToken_13 : decode cX6_takeToken 13 = .ok (.iload_n 1, 1) := by decide +kernel
theorem dX6_takeToken_14 : decode cX6_takeToken 14 = .ok (.invokevirtual 31, 3) := by decide +kernel
theorem dX6_takeToken_17 : decode cX6_takeToken 17 = .ok (.istore_n 2, 1) := by decide +kernel
theorem dX6_takeToken_18 : decode cX6_takeToken 18 = .ok (.aload_n 0, 1) := by decide +kernel
theorem dX6_takeToken_19 : decode cX6_takeToken 19 = .ok (.iload_n 1, 1) := by decide +kernel
theorem dX6_takeToken_20 : decode cX6_takeToken 20 = .ok (.iconst 1, 1) := by decide +kernel
theorem dX6_takeToken_21 : decode cX6_takeToken 21 = .ok (.iadd, 1) := by decide +kernel
theorem dX6_takeToken_22 : decode cX6_takeToken 22 = .ok (.putfield 38, 3) := by decide +kernel
theorem dX6_takeToken_25 : decode cX6_takeToken 25 = .ok (.iload_n 1, 1) := by decide +kernel
theorem dX6_takeToken_26 : decode cX6_takeToken 26 = .ok (.sipush 8000, 3) := by decide +kernel
theorem dX6_takeToken_29 : decode cX6_takeToken 29 = .ok (.if_icmp .ge 14, 3) := by decide +kernel
theorem dX6_takeToken_32 : decode cX6_takeToken 32 = .ok (.iload_n 1, 1) := by decide +kernel
theorem dX6_takeToken_33 : decode cX6_takeToken 33 = .ok (.aload_n 0, 1) := by decide +kernel
theorem dX6_takeToken_34 : decode cX6_takeToken 34 = .ok (.getfield 24, 3) := by decide +kernel
theorem dX6_takeToken_37 : decode cX6_takeToken 37 = .ok (.invokevirtual 27, 3) := by decide +kernel
theorem dX6_takeToken_40 : decode cX6_takeToken 40 = .ok (.if_icmp .lt 10, 3) := by decide +kernel
theorem dX6_takeToken_43 : decode cX6_takeToken 43 = .ok (.aload_n 0, 1) := by decide +kernel
theorem dX6_takeToken_44 : decode cX6_takeToken 44 = .ok (.invokevirtual 47, 3) := by decide +kernel
theorem dX6_takeToken_47 : decode cX6_takeToken 47 = .ok (.goto 57, 3) := by decide +kernel
theorem dX6_takeToken_50 : decode cX6_takeToken 50 = .ok (.iload_n 2, 1) := by decide +kernel
theorem dX6_takeToken_51 : decode cX6_takeToken 51 = .ok (.invokestatic 59, 3) := by decide +kernel
theorem dX6_takeToken_54 : decode cX6_takeToken 54 = .ok (.ifCond .eq 11, 3) := by decide +kernel
theorem dX6_takeToken_57 : decode cX6_takeToken 57 = .ok (.aload_n 0, 1) := by decide +kernel
theorem dX6_takeToken_58 : decode cX6_takeToken 58 = .ok (.iload_n 1, 1) := by decide +kernel
theorem dX6_takeToken_59 : decode cX6_takeToken 59 = .ok (.invokevirtual 63, 3) := by decide +kernel
theorem dX6_takeToken_62 : decode cX6_takeToken 62 = .ok (.goto 42, 3) := by decide +kernel
theorem dX6_takeToken_65 : decode cX6_takeToken 65 = .ok (.iload_n 2, 1) := by decide +kernel
theorem dX6_takeToken_66 : decode cX6_takeToken 66 = .ok (.bipush 65, 2) := by decide +kernel
theorem dX6_takeToken_68 : decode cX6_takeToken 68 = .ok (.if_icmp .lt 18, 3) := by decide +kernel
theorem dX6_takeToken_71 : decode cX6_takeToken 71 = .ok (.iload_n 2, 1) := by decide +kernel
theorem dX6_takeToken_72 : decode cX6_takeToken 72 = .ok (.bipush 90, 2) := by decide +kernel
theorem dX6_takeToken_74 : decode cX6_takeToken 74 = .ok (.if_icmp .gt 12, 3) := by decide +kernel
theorem dX6_takeToken_77 : decode cX6_takeToken 77 = .ok (.aload_n 0, 1) := by decide +kernel
theorem dX6_takeToken_78 : decode cX6_takeToken 78 = .ok (.iload_n 1, 1) := by decide +kernel
theorem dX6_takeToken_79 : decode cX6_takeToken 79 = .ok (.iload_n 2, 1) := by decide +kernel
theorem dX6_takeToken_80 : decode cX6_takeToken 80 = .ok (.invokevirtual 66, 3) := by decide +kernel
theorem dX6_takeToken_83 : decode cX6_takeToken 83 = .ok (.goto 21, 3) := by decide +kernel
theorem dX6_takeToken_86 : decode cX6_takeToken 86 = .ok (.aload_n 0, 1) := by decide +kernel
theorem dX6_takeToken_87 : decode cX6_takeToken 87 = .ok (.iload_n 2, 1) := by decide +kernel
theorem dX6_takeToken_88 : decode cX6_takeToken 88 = .ok (.invokestatic 70, 3) := by decide +kernel
theorem dX6_takeToken_91 : decode cX6_takeToken 91 = .ok (.ifCond .eq 7, 3) := by decide +kernel
theorem dX6_takeToken_94 : decode cX6_takeToken 94 = .ok (.iload_n 2, 1) := by decide +kernel
theorem dX6_takeToken_95 : decode cX6_takeToken 95 = .ok (.goto 4, 3) := by decide +kernel
theorem dX6_takeToken_98 : decode cX6_takeToken 98 = .ok (.iconst 0, 1) := by decide +kernel
theorem dX6_takeToken_99 : decode cX6_takeToken 99 = .ok (.iload_n 1, 1) := by decide +kernel
theorem dX6_takeToken_100 : decode cX6_takeToken 100 = .ok (.iconst 0, 1) := by decide +kernel
theorem dX6_takeToken_101 : decode cX6_takeToken 101 = .ok (.invokevirtual 50, 3) := by decide +kernel
theorem dX6_takeToken_104 : decode cX6_takeToken 104 = .ok (.return_, 1) := by decide +kernel
set_option maxRecDepth 20000 in
theorem ggX6_takeNumber_X6_pastDigits : GoodIn wsX6_takeNumber wsX6_pastDigits := goodIn_r _ [7, 1, 8, 9, 10, 11, 12, 13, 14, 15, 16, 17, 18, 19, 20, 6, 21, 53, 54, 55, 56, 57, 58, 59, 60] (by decide +kernel) (by decide +kernel)
set_option maxRecDepth 20000 in
theorem gX6_takeNumber_X6_pastDigits : GoodIn wsX6_takeNumber (wsV RX6 73 RX6 yX6_pastDigits wsX6_pastDigits) := goodIn_app (goodIn_of _ (by decide +kernel)) ggX6_takeNumber_X6_pastDigits
set_option maxRecDepth 20000 in
theorem ggX6_takeNumber_X5_get : GoodIn wsX6_takeNumber wsX5_get := goodIn_r _ [17, 13, 18, 58, 59, 60] (by decide +kernel) (by decide +kernel)
set_option maxRecDepth 20000 in
theorem gX6_takeNumber_X5_get : GoodIn wsX6_takeNumber (wsV RX6 31 RX5 yX5_get wsX5_get) := goodIn_app (goodIn_of _ (by decide +kernel)) ggX6_takeNumber_X5_get
set_option maxRecDepth 20000 in
theorem ggX6_takeNumber_X6_add : GoodIn wsX6_takeNumber wsX6_add := goodIn_r _ [25, 26, 27, 28, 29, 30, 31, 11, 32, 13, 33, 18, 34, 35, 36, 37, 38, 39, 40, 41, 42, 43, 44, 45, 46, 47, 48, 49, 50, 51, 52, 53, 54, 55, 56, 57, 58, 59, 60] (by decide +kernel) (by decide +kernel)
set_option maxRecDepth 20000 in
theorem gX6_takeNumber_X6_add : GoodIn wsX6_takeNumber (wsV RX6 50 RX6 yX6_add wsX6_add) := goodIn_app (goodIn_of _ (by decide +kernel)) ggX6_takeNumber_X6_add
theorem dX6_takeNumber_0 : decode cX6_takeNumber 0 = .ok (.aload_n 0, 1) := by decide +kernel
theorem dX6_takeNumber_1 : decode cX6_takeNumber 1 = .ok (.iload_n 1, 1) := by decide +kernel
theorem dX6_takeNumber_2 : decode cX6_takeNumber 2 = .ok (.invokevirtual 73, 3) := by decide +kernel
theorem dX6_takeNumber_5 : decode cX6_takeNumber 5 = .ok (.istore_n 2, 1) := by decide +kernel
theorem dX6_takeNumber_6 : decode cX6_takeNumber 6 = .ok (.aload_n 0, 1) := by decide +kernel
theorem dX6_takeNumber_7 : decode cX6_takeNumber 7 = .ok (.getfield 24, 3) := by decide +kernel
theorem dX6_takeNumber_10 : decode cX6_takeNumber 10 = .ok (.iload_n 2, 1) := by decide +kernel
theorem dX6_takeNumber_11 : decode cX6_takeNumber 11 = .ok (.invokevirtual 31, 3) := by decide +kernel
theorem dX6_takeNumber_14 : decode cX6_takeNumber 14 = .ok (.bipush 46, 2) := by decide +kernel
theorem dX6_takeNumber_16 : decode cX6_takeNumber 16 = .ok (.if_icmp .ne 7, 3) := by decide +kernel
theorem dX6_takeNumber_19 : decode cX6_takeNumber 19 = .ok (.iconst 1, 1) := by decide +kernel
theorem dX6_takeNumber_20 : decode cX6_takeNumber 20 = .ok (.goto 4, 3) := by decide +kernel
theorem dX6_takeNumber_23 : decode cX6_takeNumber 23 = .ok (.iconst 0, 1) := by decide +kernel
theorem dX6_takeNumber_24 : decode cX6_takeNumber 24 = .ok (.istore_n 3, 1) := by decide +kernel
theorem dX6_takeNumber_25 : decode cX6_takeNumber 25 = .ok (.iload_n 3, 1) := by decide +kernel
theorem dX6_takeNumber_26 : decode cX6_takeNumber 26 = .ok (.ifCond .eq 9, 3) := by decide +kernel
theorem dX6_takeNumber_29 : decode cX6_takeNumber 29 = .ok (.iload_n 2, 1) := by decide +kernel
theorem dX6_takeNumber_30 : decode cX6_takeNumber 30 = .ok (.iconst 1, 1) := by decide +kernel
theorem dX6_takeNumber_31 : decode cX6_takeNumber 31 = .ok (.iadd, 1) := by decide +kernel
theorem dX6_takeNumber_32 : decode cX6_takeNumber 32 = .ok (.goto 4, 3) := by decide +kernel
theorem dX6_takeNumber_35 : decode cX6_takeNumber 35 = .ok (.iload_n 2, 1) := by decide +kernel
theorem dX6_takeNumber_36 : decode cX6_takeNumber 36 = .ok (.istore 4, 2) := by decide +kernel
theorem dX6_takeNumber_38 : decode cX6_takeNumber 38 = .ok (.iload_n 3, 1) := by decide +kernel
theorem dX6_takeNumber_39 : decode cX6_takeNumber 39 = .ok (.ifCond .eq 12, 3) := by decide +kernel
theorem dX6_takeNumber_42 : decode cX6_takeNumber 42 = .ok (.aload_n 0, 1) := by decide +kernel
theorem dX6_takeNumber_43 : decode cX6_takeNumber 43 = .ok (.iload 4, 2) := by decide +kernel
theorem dX6_takeNumber_45 : decode cX6_takeNumber 45 = .ok (.invokevirtual 73, 3) := by decide +kernel
theorem dX6_takeNumber_48 : decode cX6_takeNumber 48 = .ok (.goto 4, 3) := by decide +kernel
theorem dX6_takeNumber_51 : decode cX6_takeNumber 51 = .ok (.iload_n 2, 1) := by decide +kernel
theorem dX6_takeNumber_52 : decode cX6_takeNumber 52 = .ok (.istore 5, 2) := by decide +kernel
theorem dX6_takeNumber_54 : decode cX6_takeNumber 54 = .ok (.aload_n 0, 1) := by decide +kernel
theorem dX6_takeNumber_55 : decode cX6_takeNumber 55 = .ok (.iload 5, 2) := by decide +kernel
theorem dX6_takeNumber_57 : decode cX6_takeNumber 57 = .ok (.putfield 38, 3) := by decide +kernel
theorem dX6_takeNumber_60 : decode cX6_takeNumber 60 = .ok (.iload_n 2, 1) := by decide +kernel
theorem dX6_takeNumber_61 : decode cX6_takeNumber 61 = .ok (.iload_n 1, 1) := by decide +kernel
theorem dX6_takeNumber_62 : decode cX6_takeNumber 62 = .ok (.isub, 1) := by decide +kernel
theorem dX6_takeNumber_63 : decode cX6_takeNumber 63 = .ok (.bipush 6, 2) := by decide +kernel
theorem dX6_takeNumber_65 : decode cX6_takeNumber 65 = .ok (.if_icmp .gt 12, 3) := by decide +kernel
theorem dX6_takeNumber_68 : decode cX6_takeNumber 68 = .ok (.iload 5, 2) := by decide +kernel
theorem dX6_takeNumber_70 : decode cX6_takeNumber 70 = .ok (.iload 4, 2) := by decide +kernel
theorem dX6_takeNumber_72 : decode cX6_takeNumber 72 = .ok (.isub, 1) := by decide +kernel
theorem dX6_takeNumber_73 : decode cX6_takeNumber 73 = .ok (.iconst 3, 1) := by decide +kernel
theorem dX6_takeNumber_74 : decode cX6_takeNumber 74 = .ok (.if_icmp .le 11, 3) := by decide +kernel
theorem dX6_takeNumber_77 : decode cX6_takeNumber 77 = .ok (.aload_n 0, 1) := by decide +kernel
theorem dX6_takeNumber_78 : decode cX6_takeNumber 78 = .ok (.iconst 0, 1) := by decide +kernel
theorem dX6_takeNumber_79 : decode cX6_takeNumber 79 = .ok (.iload_n 1, 1) := by decide +kernel
theorem dX6_takeNumber_80 : decode cX6_takeNumber 80 = .ok (.iconst 0, 1) := by decide +kernel
theorem dX6_takeNumber_81 : decode cX6_takeNumber 81 = .ok (.invokevirtual 50, 3) := by decide +kernel
theorem dX6_takeNumber_84 : decode cX6_takeNumber 84 = .ok (.return_, 1) := by decide +kernel
theorem dX6_takeNumber_85 : decode cX6_takeNumber 85 = .ok (.iconst 0, 1) := by decide +kernel
theorem dX6_takeNumber_86 : decode cX6_takeNumber 86 = .ok (.istore 6, 2) := by decide +kernel
theorem dX6_takeNumber_88 : decode cX6_takeNumber 88 = .ok (.iload_n 1, 1) := by decide +kernel
theorem dX6_takeNumber_89 : decode cX6_takeNumber 89 = .ok (.istore 7, 2) := by decide +kernel
theorem dX6_takeNumber_91 : decode cX6_takeNumber 91 = .ok (.iload 7, 2) := by decide +kernel
theorem dX6_takeNumber_93 : decode cX6_takeNumber 93 = .ok (.iload_n 2, 1) := by decide +kernel
theorem dX6_takeNumber_94 : decode cX6_takeNumber 94 = .ok (.if_icmp .ge 29, 3) := by decide +kernel
theorem dX6_takeNumber_97 : decode cX6_takeNumber 97 = .ok (.iload 6, 2) := by decide +kernel
theorem dX6_takeNumber_99 : decode cX6_takeNumber 99 = .ok (.bipush 10, 2) := by decide +kernel
theorem dX6_takeNumber_101 : decode cX6_takeNumber 101 = .ok (.imul, 1) := by decide +kernel
theorem dX6_takeNumber_102 : decode cX6_takeNumber 102 = .ok (.aload_n 0, 1) := by decide +kernel
theorem dX6_takeNumber_103 : decode cX6_takeNumber 103 = .ok (.getfield 24, 3) := by decide +kernel
theorem dX6_takeNumber_106 : decode cX6_takeNumber 106 = .ok (.iload 7, 2) := by decide +kernel
theorem dX6_takeNumber_108 : decode cX6_takeNumber 108 = .ok (.invokevirtual 31, 3) := by decide +kernel
theorem dX6_takeNumber_111 : decode cX6_takeNumber 111 = .ok (.iadd, 1) := by decide +kernel
theorem dX6_takeNumber_112 : decode cX6_takeNumber 112 = .ok (.bipush 48, 2) := by decide +kernel
theorem dX6_takeNumber_114 : decode cX6_takeNumber 114 = .ok (.isub, 1) := by decide +kernel
theorem dX6_takeNumber_115 : decode cX6_takeNumber 115 = .ok (.istore 6, 2) := by decide +kernel
theorem dX6_takeNumber_117 : decode cX6_takeNumber 117 = .ok (.iinc 7 1, 3) := by decide +kernel
theorem dX6_takeNumber_120 : decode cX6_takeNumber 120 = .ok (.goto (-29), 3) := by decide +kernel
theorem dX6_takeNumber_123 : decode cX6_takeNumber 123 = .ok (.iload 4, 2) := by decide +kernel
theorem dX6_takeNumber_125 : decode cX6_takeNumber 125 = .ok (.istore 7, 2) := by decide +kernel
theorem dX6_takeNumber_127 : decode cX6_takeNumber 127 = .ok (.iload 7, 2) := by decide +kernel
theorem dX6_takeNumber_129 : decode cX6_takeNumber 129 = .ok (.iload 4, 2) := by decide +kernel
theorem dX6_takeNumber_131 : decode cX6_takeNumber 131 = .ok (.iconst 3, 1) := by decide +kernel
theorem dX6_takeNumber_132 : decode cX6_takeNumber 132 = .ok (.iadd, 1) := by decide +kernel
theorem dX6_takeNumber_133 : decode cX6_takeNumber 133 = .ok (.if_icmp .ge 40, 3) := by decide +kernel
theorem dX6_takeNumber_136 : decode cX6_takeNumber 136 = .ok (.iload 6, 2) := by decide +kernel
theorem dX6_takeNumber_138 : decode cX6_takeNumber 138 = .ok (.bipush 10, 2) := by decide +kernel
theorem dX6_takeNumber_140 : decode cX6_takeNumber 140 = .ok (.imul, 1) := by decide +kernel
theorem dX6_takeNumber_141 : decode cX6_takeNumber 141 = .ok (.iload 7, 2) := by decide +kernel
theorem dX6_takeNumber_143 : decode cX6_takeNumber 143 = .ok (.iload 5, 2) := by decide +kernel
theorem dX6_takeNumber_145 : decode cX6_takeNumber 145 = .ok (.if_icmp .ge 18, 3) := by decide +kernel
theorem dX6_takeNumber_148 : decode cX6_takeNumber 148 = .ok (.aload_n 0, 1) := by decide +kernel
theorem dX6_takeNumber_149 : decode cX6_takeNumber 149 = .ok (.getfield 24, 3) := by decide +kernel
theorem dX6_takeNumber_152 : decode cX6_takeNumber 152 = .ok (.iload 7, 2) := by decide +kernel
theorem dX6_takeNumber_154 : decode cX6_takeNumber 154 = .ok (.invokevirtual 31, 3) := by decide +kernel
theorem dX6_takeNumber_157 : decode cX6_takeNumber 157 = .ok (.bipush 48, 2) := by decide +kernel
theorem dX6_takeNumber_159 : decode cX6_takeNumber 159 = .ok (.isub, 1) := by decide +kernel
theorem dX6_takeNumber_160 : decode cX6_takeNumber 160 = .ok (.goto 4, 3) := by decide +kernel
theorem dX6_takeNumber_163 : decode cX6_takeNumber 163 = .ok (.iconst 0, 1) := by decide +kernel
theorem dX6_takeNumber_164 : decode cX6_takeNumber 164 = .ok (.iadd, 1) := by decide +kernel
theorem dX6_takeNumber_165 : decode cX6_takeNumber 165 = .ok (.istore 6, 2) := by decide +kernel
theorem dX6_takeNumber_167 : decode cX6_takeNumber 167 = .ok (.iinc 7 1, 3) := by decide +kernel
theorem dX6_takeNumber_170 : decode cX6_takeNumber 170 = .ok (.goto (-43), 3) := by decide +kernel
theorem dX6_takeNumber_173 : decode cX6_takeNumber 173 = .ok (.aload_n 0, 1) := by decide +kernel
theorem dX6_takeNumber_174 : decode cX6_takeNumber 174 = .ok (.iload_n 3, 1) := by decide +kernel
theorem dX6_takeNumber_175 : decode cX6_takeNumber 175 = .ok (.ifCond .eq 9, 3) := by decide +kernel
theorem dX6_takeNumber_178 : decode cX6_takeNumber 178 = .ok (.sipush 257, 3) := by decide +kernel
theorem dX6_takeNumber_181 : decode cX6_takeNumber 181 = .ok (.goto 6, 3) := by decide +kernel
theorem dX6_takeNumber_184 : decode cX6_takeNumber 184 = .ok (.sipush 256, 3) := by decide +kernel
theorem dX6_takeNumber_187 : decode cX6_takeNumber 187 = .ok (.iload_n 1, 1) := by decide +kernel
theorem dX6_takeNumber_188 : decode cX6_takeNumber 188 = .ok (.iload 6, 2) := by decide +kernel
theorem dX6_takeNumber_190 : decode cX6_takeNumber 190 = .ok (.invokevirtual 50, 3) := by decide +kernel
theorem dX6_takeNumber_193 : decode cX6_takeNumber 193 = .ok (.return_, 1) := by decide +kernel
set_option maxRecDepth 20000 in
theorem ggX6_takeWord_J0_length_8abf5 : GoodIn wsX6_takeWord wsJ0_length_8abf5 := goodIn_r _ [6, 7, 8, 9, 10, 5, 11, 12, 13] (by decide +kernel) (by decide +kernel)
set_option maxRecDepth 20000 in
theorem gX6_takeWord_J0_length_8abf5 : GoodIn wsX6_takeWord (wsV RX6 78 RJ0 yJ0_length_8abf5 wsJ0_length_8abf5) := goodIn_app (goodIn_of _ (by decide +kernel)) ggX6_takeWord_J0_length_8abf5
set_option maxRecDepth 20000 in
theorem ggX6_takeWord_X6_fittingLength : GoodIn wsX6_takeWord wsX6_fittingLength := goodIn_r _ [18, 19, 20, 21, 22, 5, 23, 7, 24, 25, 26, 27, 12, 13, 28, 29, 30, 31, 32, 33, 34, 35, 36, 37, 38, 39, 40, 41, 42, 43, 44, 45, 46, 47, 48, 49, 50, 51, 52, 53, 54, 55, 56, 57, 58, 59, 60, 61, 62, 63, 95, 96, 97, 98, 99, 100, 101, 102] (by decide +kernel) (by decide +kernel)
set_option maxRecDepth 20000 in
theorem gX6_takeWord_X6_fittingLength : GoodIn wsX6_takeWord (wsV RX6 83 RX6 yX6_fittingLength wsX6_fittingLength) := goodIn_app (goodIn_of _ (by decide +kernel)) ggX6_takeWord_X6_fittingLength
set_option maxRecDepth 20000 in
theorem ggX6_takeWord_X6_add : GoodIn wsX6_takeWord wsX6_add := goodIn_r _ [67, 68, 69, 70, 71, 72, 73, 60, 74, 62, 75, 63, 76, 77, 78, 79, 80, 81, 82, 83, 84, 85, 86, 87, 88, 89, 90, 91, 92, 93, 94, 95, 96, 97, 98, 99, 100, 101, 102] (by decide +kernel) (by decide +kernel)
set_option maxRecDepth 20000 in
theorem gX6_takeWord_X6_add : GoodIn wsX6_takeWord (wsV RX6 50 RX6 yX6_add wsX6_add) := goodIn_app (goodIn_of _ (by decide +kernel)) ggX6_takeWord_X6_add
theorem dX6_takeWord_0 : decode cX6_takeWord 0 = .ok (.iconst 0, 1) := by decide +kernel
theorem dX6_takeWord_1 : decode cX6_takeWord 1 = .ok (.istore_n 3, 1) := by decide +kernel
theorem dX6_takeWord_2 : decode cX6_takeWord 2 = .ok (.iload_n 3, 1) := by decide +kernel
theorem dX6_takeWord_3 : decode cX6_takeWord 3 = .ok (.iconst 5, 1) := by decide +kernel
theorem dX6_takeWord_4 : decode cX6_takeWord 4 = .ok (.iadd, 1) := by decide +kernel
theorem dX6_takeWord_5 : decode cX6_takeWord 5 = .ok (.ldc 76, 2) := by decide +kernel
theorem dX6_takeWord_7 : decode cX6_takeWord 7 = .ok (.invokevirtual 78, 3) := by decide +kernel
theorem dX6_takeWord_10 : decode cX6_takeWord 10 = .ok (.if_icmp .gt 44, 3) := by decide +kernel
theorem dX6_takeWord_13 : decode cX6_takeWord 13 = .ok (.aload_n 0, 1) := by decide +kernel
theorem dX6_takeWord_14 : decode cX6_takeWord 14 = .ok (.iload_n 3, 1) := by decide +kernel
theorem dX6_takeWord_15 : decode cX6_takeWord 15 = .ok (.iload_n 1, 1) := by decide +kernel
theorem dX6_takeWord_16 : decode cX6_takeWord 16 = .ok (.invokevirtual 83, 3) := by decide +kernel
theorem dX6_takeWord_19 : decode cX6_takeWord 19 = .ok (.istore 4, 2) := by decide +kernel
theorem dX6_takeWord_21 : decode cX6_takeWord 21 = .ok (.iload 4, 2) := by decide +kernel
theorem dX6_takeWord_23 : decode cX6_takeWord 23 = .ok (.ifCond .le 25, 3) := by decide +kernel
theorem dX6_takeWord_26 : decode cX6_takeWord 26 = .ok (.aload_n 0, 1) := by decide +kernel
theorem dX6_takeWord_27 : decode cX6_takeWord 27 = .ok (.iload_n 1, 1) := by decide +kernel
theorem dX6_takeWord_28 : decode cX6_takeWord 28 = .ok (.iload 4, 2) := by decide +kernel
theorem dX6_takeWord_30 : decode cX6_takeWord 30 = .ok (.iadd, 1) := by decide +kernel
theorem dX6_takeWord_31 : decode cX6_takeWord 31 = .ok (.putfield 38, 3) := by decide +kernel
theorem dX6_takeWord_34 : decode cX6_takeWord 34 = .ok (.aload_n 0, 1) := by decide +kernel
theorem dX6_takeWord_35 : decode cX6_takeWord 35 = .ok (.sipush 300, 3) := by decide +kernel
theorem dX6_takeWord_38 : decode cX6_takeWord 38 = .ok (.iload_n 3, 1) := by decide +kernel
theorem dX6_takeWord_39 : decode cX6_takeWord 39 = .ok (.iconst 5, 1) := by decide +kernel
theorem dX6_takeWord_40 : decode cX6_takeWord 40 = .ok (.idiv, 1) := by decide +kernel
theorem dX6_takeWord_41 : decode cX6_takeWord 41 = .ok (.iadd, 1) := by decide +kernel
theorem dX6_takeWord_42 : decode cX6_takeWord 42 = .ok (.iload_n 1, 1) := by decide +kernel
theorem dX6_takeWord_43 : decode cX6_takeWord 43 = .ok (.iconst 0, 1) := by decide +kernel
theorem dX6_takeWord_44 : decode cX6_takeWord 44 = .ok (.invokevirtual 50, 3) := by decide +kernel
theorem dX6_takeWord_47 : decode cX6_takeWord 47 = .ok (.return_, 1) := by decide +kernel
theorem dX6_takeWord_48 : decode cX6_takeWord 48 = .ok (.iinc 3 5, 3) := by decide +kernel
theorem dX6_takeWord_51 : decode cX6_takeWord 51 = .ok (.goto (-49), 3) := by decide +kernel
theorem dX6_takeWord_54 : decode cX6_takeWord 54 = .ok (.aload_n 0, 1) := by decide +kernel
theorem dX6_takeWord_55 : decode cX6_takeWord 55 = .ok (.iload_n 2, 1) := by decide +kernel
theorem dX6_takeWord_56 : decode cX6_takeWord 56 = .ok (.iload_n 1, 1) := by decide +kernel
theorem dX6_takeWord_57 : decode cX6_takeWord 57 = .ok (.iconst 0, 1) := by decide +kernel
theorem dX6_takeWord_58 : decode cX6_takeWord 58 = .ok (.invokevirtual 50, 3) := by decide +kernel
theorem dX6_takeWord_61 : decode cX6_takeWord 61 = .ok (.return_, 1) := by decide +kernel
set_option maxRecDepth 20000 in
theorem ggX6_fittingLength_J0_charAt_5068e : GoodIn wsX6_fittingLength wsJ0_charAt_5068e := goodIn_r _ [6, 7, 8, 9, 10, 5, 11, 12, 13, 14, 15, 16, 17, 18, 19, 20, 21, 22, 23, 24, 25, 26, 27, 28, 29, 30, 31, 32, 33, 34, 35, 36, 37, 38, 39, 40, 41, 42] (by decide +kernel) (by decide +kernel)
set_option maxRecDepth 20000 in
theorem gX6_fittingLength_J0_charAt_5068e : GoodIn wsX6_fittingLength (wsV RX6 87 RJ0 yJ0_charAt_5068e wsJ0_charAt_5068e) := goodIn_app (goodIn_of _ (by decide +kernel)) ggX6_fittingLength_J0_charAt_5068e
set_option maxRecDepth 20000 in
theorem ggX6_fittingLength_X5_get : GoodIn wsX6_fittingLength wsX5_get := goodIn_r _ [47, 48, 49, 55, 56, 57] (by decide +kernel) (by decide +kernel)
set_option maxRecDepth 20000 in
theorem gX6_fittingLength_X5_get : GoodIn wsX6_fittingLength (wsV RX6 31 RX5 yX5_get wsX5_get) := goodIn_app (goodIn_of _ (by decide +kernel)) ggX6_fittingLength_X5_get
theorem dX6_fittingLength_0 : decode cX6_fittingLength 0 = .ok (.iconst 0, 1) := by decide +kernel
theorem dX6_fittingLength_1 : decode cX6_fittingLength 1 = .ok (.istore_n 3, 1) := by decide +kernel
theorem dX6_fittingLength_2 : decode cX6_fittingLength 2 = .ok (.iload_n 3, 1) := by decide +kernel
theorem dX6_fittingLength_3 : decode cX6_fittingLength 3 = .ok (.iconst 5, 1) := by decide +kernel
theorem dX6_fittingLength_4 : decode cX6_fittingLength 4 = .ok (.if_icmp .ge 45, 3) := by decide +kernel
theorem dX6_fittingLength_7 : decode cX6_fittingLength 7 = .ok (.ldc 76, 2) := by decide +kernel
theorem dX6_fittingLength_9 : decode cX6_fittingLength 9 = .ok (.iload_n 1, 1) := by decide +kernel
theorem dX6_fittingLength_10 : decode cX6_fittingLength 10 = .ok (.iload_n 3, 1) := by decide +kernel
theorem dX6_fittingLength_11 : decode cX6_fittingLength 11 = .ok (.iadd, 1) := by decide +kernel
theorem dX6_fittingLength_12 : decode cX6_fittingLength 12 = .ok (.invokevirtual 87, 3) := by decide +kernel
theorem dX6_fittingLength_15 : decode cX6_fittingLength 15 = .ok (.istore 4, 2) := by decide +kernel
theorem dX6_fittingLength_17 : decode cX6_fittingLength 17 = .ok (.iload 4, 2) := by decide +kernel
theorem dX6_fittingLength_19 : decode cX6_fittingLength 19 = .ok (.bipush 32, 2) := by decide +kernel
theorem dX6_fittingLength_21 : decode cX6_fittingLength 21 = .ok (.if_icmp .ne 5, 3) := by decide +kernel
theorem dX6_fittingLength_24 : decode cX6_fittingLength 24 = .ok (.iload_n 3, 1) := by decide +kernel
theorem dX6_fittingLength_25 : decode cX6_fittingLength 25 = .ok (.ireturn, 1) := by decide +kernel
theorem dX6_fittingLength_26 : decode cX6_fittingLength 26 = .ok (.aload_n 0, 1) := by decide +kernel
theorem dX6_fittingLength_27 : decode cX6_fittingLength 27 = .ok (.getfield 24, 3) := by decide +kernel
theorem dX6_fittingLength_30 : decode cX6_fittingLength 30 = .ok (.iload_n 2, 1) := by decide +kernel
theorem dX6_fittingLength_31 : decode cX6_fittingLength 31 = .ok (.iload_n 3, 1) := by decide +kernel
theorem dX6_fittingLength_32 : decode cX6_fittingLength 32 = .ok (.iadd, 1) := by decide +kernel
theorem dX6_fittingLength_33 : decode cX6_fittingLength 33 = .ok (.invokevirtual 31, 3) := by decide +kernel
theorem dX6_fittingLength_36 : decode cX6_fittingLength 36 = .ok (.iload 4, 2) := by decide +kernel
theorem dX6_fittingLength_38 : decode cX6_fittingLength 38 = .ok (.if_icmp .eq 5, 3) := by decide +kernel
theorem dX6_fittingLength_41 : decode cX6_fittingLength 41 = .ok (.iconst 0, 1) := by decide +kernel
theorem dX6_fittingLength_42 : decode cX6_fittingLength 42 = .ok (.ireturn, 1) := by decide +kernel
theorem dX6_fittingLength_43 : decode cX6_fittingLength 43 = .ok (.iinc 3 1, 3) := by decide +kernel
theorem dX6_fittingLength_46 : decode cX6_fittingLength 46 = .ok (.goto (-44), 3) := by decide +kernel
theorem dX6_fittingLength_49 : decode cX6_fittingLength 49 = .ok (.iconst 5, 1) := by decide +kernel
theorem dX6_fittingLength_50 : decode cX6_fittingLength 50 = .ok (.ireturn, 1) := by decide +kernel
set_option maxRecDepth 20000 in
theorem ggX6_pastDigits_X5_size : GoodIn wsX6_pastDigits wsX5_size := goodIn_r _ [6, 7, 22, 23, 24] (by decide +kernel) (by decide +kernel)
set_option maxRecDepth 20000 in
theorem gX6_pastDigits_X5_size : GoodIn wsX6_pastDigits (wsV RX6 27 RX5 yX5_size wsX5_size) := goodIn_app (goodIn_of _ (by decide +kernel)) ggX6_pastDigits_X5_size
set_option maxRecDepth 20000 in
theorem ggX6_pastDigits_X5_get : GoodIn wsX6_pastDigits wsX5_get := goodIn_r _ [11, 7, 12, 22, 23, 24] (by decide +kernel) (by decide +kernel)
set_option maxRecDepth 20000 in
theorem gX6_pastDigits_X5_get : GoodIn wsX6_pastDigits (wsV RX6 31 RX5 yX5_get wsX5_get) := goodIn_app (goodIn_of _ (by decide +kernel)) ggX6_pastDigits_X5_get
set_option maxRecDepth 20000 in
theorem ggX6_pastDigits_X6_isDigit : GoodIn wsX6_pastDigits wsX6_isDigit := goodIn_r _ [16] (by decide +kernel) (by decide +kernel)
set_option maxRecDepth 20000 in
theorem gX6_pastDigits_X6_isDigit : GoodIn wsX6_pastDigits (va_wsS RX6 59 yX6_isDigit wsX6_isDigit) := goodIn_app (goodIn_of _ (by decide +kernel)) ggX6_pastDigits_X6_isDigit
theorem dX6_pastDigits_0 : decode cX6_pastDigits 0 = .ok (.iload_n 1, 1) := by decide +kernel
theorem dX6_pastDigits_1 : decode cX6_pastDigits 1 = .ok (.istore_n 2, 1) := by decide +kernel
theorem dX6_pastDigits_2 : decode cX6_pastDigits 2 = .ok (.iload_n 2, 1) := by decide +kernel
theorem dX6_pastDigits_3 : decode cX6_pastDigits 3 = .ok (.aload_n 0, 1) := by decide +kernel
theorem dX6_pastDigits_4 : decode cX6_pastDigits 4 = .ok (.getfield 24, 3) := by decide +kernel
theorem dX6_pastDigits_7 : decode cX6_pastDigits 7 = .ok (.invokevirtual 27, 3) := by decide +kernel
theorem dX6_pastDigits_10 : decode cX6_pastDigits 10 = .ok (.if_icmp .ge 25, 3) := by decide +kernel
theorem dX6_pastDigits_13 : decode cX6_pastDigits 13 = .ok (.aload_n 0, 1) := by decide +kernel
theorem dX6_pastDigits_14 : decode cX6_pastDigits 14 = .ok (.getfield 24, 3) := by decide +kernel
theorem dX6_pastDigits_17 : decode cX6_pastDigits 17 = .ok (.iload_n 2, 1) := by decide +kernel
theorem dX6_pastDigits_18 : decode cX6_pastDigits 18 = .ok (.invokevirtual 31, 3) := by decide +kernel
theorem dX6_pastDigits_21 : decode cX6_pastDigits 21 = .ok (.invokestatic 59, 3) := by decide +kernel
theorem dX6_pastDigits_24 : decode cX6_pastDigits 24 = .ok (.ifCond .ne 5, 3) := by decide +kernel
theorem dX6_pastDigits_27 : decode cX6_pastDigits 27 = .ok (.iload_n 2, 1) := by decide +kernel
theorem dX6_pastDigits_28 : decode cX6_pastDigits 28 = .ok (.ireturn, 1) := by decide +kernel
theorem dX6_pastDigits_29 : decode cX6_pastDigits 29 = .ok (.iinc 2 1, 3) := by decide +kernel
theorem dX6_pastDigits_32 : decode cX6_pastDigits 32 = .ok (.goto (-30), 3) := by decide +kernel
theorem dX6_pastDigits_35 : decode cX6_pastDigits 35 = .ok (.aload_n 0, 1) := by decide +kernel
theorem dX6_pastDigits_36 : decode cX6_pastDigits 36 = .ok (.getfield 24, 3) := by decide +kernel
theorem dX6_pastDigits_39 : decode cX6_pastDigits 39 = .ok (.invokevirtual 27, 3) := by decide +kernel
theorem dX6_pastDigits_42 : decode cX6_pastDigits 42 = .ok (.ireturn, 1) := by decide +kernel
set_option maxRecDepth 20000 in
theorem ggX6_pastBlanks_X5_size : GoodIn wsX6_pastBlanks wsX5_size := goodIn_r _ [6, 7, 23, 24, 25] (by decide +kernel) (by decide +kernel)
set_option maxRecDepth 20000 in
theorem gX6_pastBlanks_X5_size : GoodIn wsX6_pastBlanks (wsV RX6 27 RX5 yX5_size wsX5_size) := goodIn_app (goodIn_of _ (by decide +kernel)) ggX6_pastBlanks_X5_size
set_option maxRecDepth 20000 in
theorem ggX6_pastBlanks_X5_get : GoodIn wsX6_pastBlanks wsX5_get := goodIn_r _ [11, 7, 12, 23, 24, 25] (by decide +kernel) (by decide +kernel)
set_option maxRecDepth 20000 in
theorem gX6_pastBlanks_X5_get : GoodIn wsX6_pastBlanks (wsV RX6 31 RX5 yX5_get wsX5_get) := goodIn_app (goodIn_of _ (by decide +kernel)) ggX6_pastBlanks_X5_get
set_option maxRecDepth 20000 in
theorem ggX6_pastBlanks_X6_closing : GoodIn wsX6_pastBlanks wsX6_closing := goodIn_r _ [17, 1, 2, 3, 4, 5, 6, 7, 8, 9, 10, 11, 12, 18, 19, 20, 21, 22, 23, 24, 25] (by decide +kernel) (by decide +kernel)
set_option maxRecDepth 20000 in
theorem gX6_pastBlanks_X6_closing : GoodIn wsX6_pastBlanks (wsV RX6 91 RX6 yX6_closing wsX6_closing) := goodIn_app (goodIn_of _ (by decide +kernel)) ggX6_pastBlanks_X6_closing
theorem dX6_pastBlanks_0 : decode cX6_pastBlanks 0 = .ok (.iload_n 1, 1) := by decide +kernel
theorem dX6_pastBlanks_1 : decode cX6_pastBlanks 1 = .ok (.istore_n 2, 1) := by decide +kernel
theorem dX6_pastBlanks_2 : decode cX6_pastBlanks 2 = .ok (.iload_n 2, 1) := by decide +kernel
theorem dX6_pastBlanks_3 : decode cX6_pastBlanks 3 = .ok (.aload_n 0, 1) := by decide +kernel
theorem dX6_pastBlanks_4 : decode cX6_pastBlanks 4 = .ok (.getfield 24, 3) := by decide +kernel
theorem dX6_pastBlanks_7 : decode cX6_pastBlanks 7 = .ok (.invokevirtual 27, 3) := by decide +kernel
theorem dX6_pastBlanks_10 : decode cX6_pastBlanks 10 = .ok (.if_icmp .ge 69, 3) := by decide +kernel
theorem dX6_pastBlanks_13 : decode cX6_pastBlanks 13 = .ok (.aload_n 0, 1) := by decide +kernel
theorem dX6_pastBlanks_14 : decode cX6_pastBlanks 14 = .ok (.getfield 24, 3) := by decide +kernel
theorem dX6_pastBlanks_17 : decode cX6_pastBlanks 17 = .ok (.iload_n 2, 1) := by decide +kernel
theorem dX6_pastBlanks_18 : decode cX6_pastBlanks 18 = .ok (.invokevirtual 31, 3) := by decide +kernel
theorem dX6_pastBlanks_21 : decode cX6_pastBlanks 21 = .ok (.istore_n 3, 1) := by decide +kernel
theorem dX6_pastBlanks_22 : decode cX6_pastBlanks 22 = .ok (.iload_n 3, 1) := by decide +kernel
theorem dX6_pastBlanks_23 : decode cX6_pastBlanks 23 = .ok (.bipush 40, 2) := by decide +kernel
theorem dX6_pastBlanks_25 : decode cX6_pastBlanks 25 = .ok (.if_icmp .ne 11, 3) := by decide +kernel
theorem dX6_pastBlanks_28 : decode cX6_pastBlanks 28 = .ok (.aload_n 0, 1) := by decide +kernel
theorem dX6_pastBlanks_29 : decode cX6_pastBlanks 29 = .ok (.iload_n 2, 1) := by decide +kernel
theorem dX6_pastBlanks_30 : decode cX6_pastBlanks 30 = .ok (.invokevirtual 91, 3) := by decide +kernel
theorem dX6_pastBlanks_33 : decode cX6_pastBlanks 33 = .ok (.goto 4, 3) := by decide +kernel
theorem dX6_pastBlanks_36 : decode cX6_pastBlanks 36 = .ok (.iload_n 2, 1) := by decide +kernel
theorem dX6_pastBlanks_37 : decode cX6_pastBlanks 37 = .ok (.istore 4, 2) := by decide +kernel
theorem dX6_pastBlanks_39 : decode cX6_pastBlanks 39 = .ok (.iload 4, 2) := by decide +kernel
theorem dX6_pastBlanks_41 : decode cX6_pastBlanks 41 = .ok (.ifCond .lt 27, 3) := by decide +kernel
theorem dX6_pastBlanks_44 : decode cX6_pastBlanks 44 = .ok (.iload_n 3, 1) := by decide +kernel
theorem dX6_pastBlanks_45 : decode cX6_pastBlanks 45 = .ok (.bipush 40, 2) := by decide +kernel
theorem dX6_pastBlanks_47 : decode cX6_pastBlanks 47 = .ok (.if_icmp .eq 23, 3) := by decide +kernel
theorem dX6_pastBlanks_50 : decode cX6_pastBlanks 50 = .ok (.iload_n 3, 1) := by decide +kernel
theorem dX6_pastBlanks_51 : decode cX6_pastBlanks 51 = .ok (.bipush 9, 2) := by decide +kernel
theorem dX6_pastBlanks_53 : decode cX6_pastBlanks 53 = .ok (.if_icmp .eq 17, 3) := by decide +kernel
theorem dX6_pastBlanks_56 : decode cX6_pastBlanks 56 = .ok (.iload_n 3, 1) := by decide +kernel
theorem dX6_pastBlanks_57 : decode cX6_pastBlanks 57 = .ok (.bipush 13, 2) := by decide +kernel
theorem dX6_pastBlanks_59 : decode cX6_pastBlanks 59 = .ok (.if_icmp .eq 11, 3) := by decide +kernel
theorem dX6_pastBlanks_62 : decode cX6_pastBlanks 62 = .ok (.iload_n 3, 1) := by decide +kernel
theorem dX6_pastBlanks_63 : decode cX6_pastBlanks 63 = .ok (.bipush 32, 2) := by decide +kernel
theorem dX6_pastBlanks_65 : decode cX6_pastBlanks 65 = .ok (.if_icmp .eq 5, 3) := by decide +kernel
theorem dX6_pastBlanks_68 : decode cX6_pastBlanks 68 = .ok (.iload_n 2, 1) := by decide +kernel
theorem dX6_pastBlanks_69 : decode cX6_pastBlanks 69 = .ok (.ireturn, 1) := by decide +kernel
theorem dX6_pastBlanks_70 : decode cX6_pastBlanks 70 = .ok (.iload 4, 2) := by decide +kernel
theorem dX6_pastBlanks_72 : decode cX6_pastBlanks 72 = .ok (.istore_n 2, 1) := by decide +kernel
theorem dX6_pastBlanks_73 : decode cX6_pastBlanks 73 = .ok (.iinc 2 1, 3) := by decide +kernel
theorem dX6_pastBlanks_76 : decode cX6_pastBlanks 76 = .ok (.goto (-74), 3) := by decide +kernel
theorem dX6_pastBlanks_79 : decode cX6_pastBlanks 79 = .ok (.aload_n 0, 1) := by decide +kernel
theorem dX6_pastBlanks_80 : decode cX6_pastBlanks 80 = .ok (.getfield 24, 3) := by decide +kernel
theorem dX6_pastBlanks_83 : decode cX6_pastBlanks 83 = .ok (.invokevirtual 27, 3) := by decide +kernel
theorem dX6_pastBlanks_86 : decode cX6_pastBlanks 86 = .ok (.ireturn, 1) := by decide +kernel
set_option maxRecDepth 20000 in
theorem ggX6_closing_X5_size : GoodIn wsX6_closing wsX5_size := goodIn_r _ [6, 7, 18, 19, 20] (by decide +kernel) (by decide +kernel)
set_option maxRecDepth 20000 in
theorem gX6_closing_X5_size : GoodIn wsX6_closing (wsV RX6 27 RX5 yX5_size wsX5_size) := goodIn_app (goodIn_of _ (by decide +kernel)) ggX6_closing_X5_size
set_option maxRecDepth 20000 in
theorem ggX6_closing_X5_get : GoodIn wsX6_closing wsX5_get := goodIn_r _ [11, 7, 12, 18, 19, 20] (by decide +kernel) (by decide +kernel)
set_option maxRecDepth 20000 in
theorem gX6_closing_X5_get : GoodIn wsX6_closing (wsV RX6 31 RX5 yX5_get wsX5_get) := goodIn_app (goodIn_of _ (by decide +kernel)) ggX6_closing_X5_get
theorem dX6_closing_0 : decode cX6_closing 0 = .ok (.iload_n 1, 1) := by decide +kernel
theorem dX6_closing_1 : decode cX6_closing 1 = .ok (.iconst 1, 1) := by decide +kernel
theorem dX6_closing_2 : decode cX6_closing 2 = .ok (.iadd, 1) := by decide +kernel
theorem dX6_closing_3 : decode cX6_closing 3 = .ok (.istore_n 2, 1) := by decide +kernel
theorem dX6_closing_4 : decode cX6_closing 4 = .ok (.iload_n 2, 1) := by decide +kernel
theorem dX6_closing_5 : decode cX6_closing 5 = .ok (.aload_n 0, 1) := by decide +kernel
theorem dX6_closing_6 : decode cX6_closing 6 = .ok (.getfield 24, 3) := by decide +kernel
theorem dX6_closing_9 : decode cX6_closing 9 = .ok (.invokevirtual 27, 3) := by decide +kernel
theorem dX6_closing_12 : decode cX6_closing 12 = .ok (.if_icmp .ge 40, 3) := by decide +kernel
theorem dX6_closing_15 : decode cX6_closing 15 = .ok (.aload_n 0, 1) := by decide +kernel
theorem dX6_closing_16 : decode cX6_closing 16 = .ok (.getfield 24, 3) := by decide +kernel
theorem dX6_closing_19 : decode cX6_closing 19 = .ok (.iload_n 2, 1) := by decide +kernel
theorem dX6_closing_20 : decode cX6_closing 20 = .ok (.invokevirtual 31, 3) := by decide +kernel
theorem dX6_closing_23 : decode cX6_closing 23 = .ok (.istore_n 3, 1) := by decide +kernel
theorem dX6_closing_24 : decode cX6_closing 24 = .ok (.iload_n 3, 1) := by decide +kernel
theorem dX6_closing_25 : decode cX6_closing 25 = .ok (.bipush 41, 2) := by decide +kernel
theorem dX6_closing_27 : decode cX6_closing 27 = .ok (.if_icmp .ne 5, 3) := by decide +kernel
theorem dX6_closing_30 : decode cX6_closing 30 = .ok (.iload_n 2, 1) := by decide +kernel
theorem dX6_closing_31 : decode cX6_closing 31 = .ok (.ireturn, 1) := by decide +kernel
theorem dX6_closing_32 : decode cX6_closing 32 = .ok (.iload_n 3, 1) := by decide +kernel
theorem dX6_closing_33 : decode cX6_closing 33 = .ok (.bipush 32, 2) := by decide +kernel
theorem dX6_closing_35 : decode cX6_closing 35 = .ok (.if_icmp .lt 9, 3) := by decide +kernel
theorem dX6_closing_38 : decode cX6_closing 38 = .ok (.iload_n 3, 1) := by decide +kernel
theorem dX6_closing_39 : decode cX6_closing 39 = .ok (.bipush 126, 2) := by decide +kernel
theorem dX6_closing_41 : decode cX6_closing 41 = .ok (.if_icmp .le 5, 3) := by decide +kernel
theorem dX6_closing_44 : decode cX6_closing 44 = .ok (.iconst (-1), 1) := by decide +kernel
theorem dX6_closing_45 : decode cX6_closing 45 = .ok (.ireturn, 1) := by decide +kernel
theorem dX6_closing_46 : decode cX6_closing 46 = .ok (.iinc 2 1, 3) := by decide +kernel
theorem dX6_closing_49 : decode cX6_closing 49 = .ok (.goto (-45), 3) := by decide +kernel
theorem dX6_closing_52 : decode cX6_closing 52 = .ok (.iconst (-1), 1) := by decide +kernel
theorem dX6_closing_53 : decode cX6_closing 53 = .ok (.ireturn, 1) := by decide +kernel
theorem dX6_isDigit_0 : decode cX6_isDigit 0 = .ok (.iload_n 0, 1) := by decide +kernel
theorem dX6_isDigit_1 : decode cX6_isDigit 1 = .ok (.bipush 48, 2) := by decide +kernel
theorem dX6_isDigit_3 : decode cX6_isDigit 3 = .ok (.if_icmp .lt 13, 3) := by decide +kernel
theorem dX6_isDigit_6 : decode cX6_isDigit 6 = .ok (.iload_n 0, 1) := by decide +kernel
theorem dX6_isDigit_7 : decode cX6_isDigit 7 = .ok (.bipush 57, 2) := by decide +kernel
theorem dX6_isDigit_9 : decode cX6_isDigit 9 = .ok (.if_icmp .gt 7, 3) := by decide +kernel
theorem dX6_isDigit_12 : decode cX6_isDigit 12 = .ok (.iconst 1, 1) := by decide +kernel
theorem dX6_isDigit_13 : decode cX6_isDigit 13 = .ok (.goto 4, 3) := by decide +kernel
theorem dX6_isDigit_16 : decode cX6_isDigit 16 = .ok (.iconst 0, 1) := by decide +kernel
theorem dX6_isDigit_17 : decode cX6_isDigit 17 = .ok (.ireturn, 1) := by decide +kernel
theorem dX6_isSign_0 : decode cX6_isSign 0 = .ok (.iload_n 0, 1) := by decide +kernel
theorem dX6_isSign_1 : decode cX6_isSign 1 = .ok (.lookupswitch 85 #[(10, 83), (35, 83), (42, 83), (43, 83), (45, 83), (47, 83), (61, 83), (91, 83), (93, 83)], 83) := by decide +kernel
theorem dX6_isSign_84 : decode cX6_isSign 84 = .ok (.iconst 1, 1) := by decide +kernel
theorem dX6_isSign_85 : decode cX6_isSign 85 = .ok (.ireturn, 1) := by decide +kernel
theorem dX6_isSign_86 : decode cX6_isSign 86 = .ok (.iconst 0, 1) := by decide +kernel
theorem dX6_isSign_87 : decode cX6_isSign 87 = .ok (.ireturn, 1) := by decide +kernel
