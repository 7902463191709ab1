set_option maxRecDepth 20000 in
theorem ggX4_init_X3_init : GoodIn wsX4_init wsX3_init := goodIn_r _ [23, 24, 2, 3, 25, 26, 27, 28, 29, 30, 31, 32, 33, 34, 35, 36, 37, 38, 39, 40, 41, 18, 19, 42, 43, 44, 45, 46, 47, 48, 49, 50, 51, 52, 53, 64, 65, 66, 67, 68, 69, 70, 92, 93, 94, 95, 96, 84, 85, 86, 87, 88, 89, 90, 91] (by decide +kernel) (by decide +kernel)
set_option maxRecDepth 20000 in
theorem gX4_init_X3_init : GoodIn wsX4_init (wsX3_init) := ggX4_init_X3_init
set_option maxRecDepth 20000 in
theorem ggX4_init_X2_init : GoodIn wsX4_init wsX2_init := goodIn_r _ [55, 56, 2, 3, 57, 58, 59, 60, 61, 62, 63, 78, 79, 80, 81, 82, 83] (by decide +kernel) (by decide +kernel)
set_option maxRecDepth 20000 in
theorem gX4_init_X2_init_n33 : GoodIn wsX4_init (wsX2_init) := ggX4_init_X2_init
set_option maxRecDepth 20000 in
theorem ggX4_init_X1_init : GoodIn wsX4_init wsX1_init := goodIn_r _ [52, 53, 2, 3] (by decide +kernel) (by decide +kernel)
set_option maxRecDepth 20000 in
theorem gX4_init_X1_init_n40 : GoodIn wsX4_init (wsX1_init) := ggX4_init_X1_init
theorem dX4_init_0 : decode cX4_init 0 = .ok (.aload_n 0, 1) := by decide +kernel
theorem dX4_init_1 : decode cX4_init 1 = .ok (.invokespecial 1, 3) := by decide +kernel
theorem dX4_init_4 : decode cX4_init 4 = .ok (.aload_n 0, 1) := by decide +kernel
theorem dX4_init_5 : decode cX4_init 5 = .ok (.new 7, 3) := by decide +kernel
theorem dX4_init_8 : decode cX4_init 8 = .ok (.dup, 1) := by decide +kernel
theorem dX4_init_9 : decode cX4_init 9 = .ok (.invokespecial 9, 3) := by decide +kernel
theorem dX4_init_12 : decode cX4_init 12 = .ok (.putfield 10, 3) := by decide +kernel
theorem dX4_init_15 : decode cX4_init 15 = .ok (.aload_n 0, 1) := by decide +kernel
theorem dX4_init_16 : decode cX4_init 16 = .ok (.bipush 7, 2) := by decide +kernel
theorem dX4_init_18 : decode cX4_init 18 = .ok (.anewarray 7, 3) := by decide +kernel
theorem dX4_init_21 : decode cX4_init 21 = .ok (.putfield 16, 3) := by decide +kernel
theorem dX4_init_24 : decode cX4_init 24 = .ok (.aload_n 0, 1) := by decide +kernel
theorem dX4_init_25 : decode cX4_init 25 = .ok (.iconst 0, 1) := by decide +kernel
theorem dX4_init_26 : decode cX4_init 26 = .ok (.putfield 20, 3) := by decide +kernel
theorem dX4_init_29 : decode cX4_init 29 = .ok (.aload_n 0, 1) := by decide +kernel
theorem dX4_init_30 : decode cX4_init 30 = .ok (.iconst 2, 1) := by decide +kernel
theorem dX4_init_31 : decode cX4_init 31 = .ok (.anewarray 7, 3) := by decide +kernel
theorem dX4_init_34 : decode cX4_init 34 = .ok (.putfield 24, 3) := by decide +kernel
theorem dX4_init_37 : decode cX4_init 37 = .ok (.aload_n 0, 1) := by decide +kernel
theorem dX4_init_38 : decode cX4_init 38 = .ok (.iconst 2, 1) := by decide +kernel
theorem dX4_init_39 : decode cX4_init 39 = .ok (.newarray .boolean, 2) := by decide +kernel
theorem dX4_init_41 : decode cX4_init 41 = .ok (.putfield 27, 3) := by decide +kernel
theorem dX4_init_44 : decode cX4_init 44 = .ok (.aload_n 0, 1) := by decide +kernel
theorem dX4_init_45 : decode cX4_init 45 = .ok (.new 31, 3) := by decide +kernel
theorem dX4_init_48 : decode cX4_init 48 = .ok (.dup, 1) := by decide +kernel
theorem dX4_init_49 : decode cX4_init 49 = .ok (.invokespecial 33, 3) := by decide +kernel
theorem dX4_init_52 : decode cX4_init 52 = .ok (.putfield 34, 3) := by decide +kernel
theorem dX4_init_55 : decode cX4_init 55 = .ok (.aload_n 0, 1) := by decide +kernel
theorem dX4_init_56 : decode cX4_init 56 = .ok (.new 38, 3) := by decide +kernel
theorem dX4_init_59 : decode cX4_init 59 = .ok (.dup, 1) := by decide +kernel
theorem dX4_init_60 : decode cX4_init 60 = .ok (.invokespecial 40, 3) := by decide +kernel
theorem dX4_init_63 : decode cX4_init 63 = .ok (.putfield 41, 3) := by decide +kernel
theorem dX4_init_66 : decode cX4_init 66 = .ok (.iconst 0, 1) := by decide +kernel
theorem dX4_init_67 : decode cX4_init 67 = .ok (.istore_n 1, 1) := by decide +kernel
theorem dX4_init_68 : decode cX4_init 68 = .ok (.iload_n 1, 1) := by decide +kernel
theorem dX4_init_69 : decode cX4_init 69 = .ok (.aload_n 0, 1) := by decide +kernel
theorem dX4_init_70 : decode cX4_init 70 = .ok (.getfield 16, 3) := by decide +kernel
theorem dX4_init_73 : decode cX4_init 73 = .ok (.arraylength, 1) := by decide +kernel
theorem dX4_init_74 : decode cX4_init 74 = .ok (.if_icmp .ge 22, 3) := by decide +kernel
theorem dX4_init_77 : decode cX4_init 77 = .ok (.aload_n 0, 1) := by decide +kernel
theorem dX4_init_78 : decode cX4_init 78 = .ok (.getfield 16, 3) := by decide +kernel
theorem dX4_init_81 : decode cX4_init 81 = .ok (.iload_n 1, 1) := by decide +kernel
theorem dX4_init_82 : decode cX4_init 82 = .ok (.new 7, 3) := by decide +kernel
theorem dX4_init_85 : decode cX4_init 85 = .ok (.dup, 1) := by decide +kernel
theorem dX4_init_86 : decode cX4_init 86 = .ok (.invokespecial 9, 3) := by decide +kernel
theorem dX4_init_89 : decode cX4_init 89 = .ok (.aastore, 1) := by decide +kernel
theorem dX4_init_90 : decode cX4_init 90 = .ok (.iinc 1 1, 3) := by decide +kernel
theorem dX4_init_93 : decode cX4_init 93 = .ok (.goto (-25), 3) := by decide +kernel
theorem dX4_init_96 : decode cX4_init 96 = .ok (.iconst 0, 1) := by decide +kernel
theorem dX4_init_97 : decode cX4_init 97 = .ok (.istore_n 1, 1) := by decide +kernel
theorem dX4_init_98 : decode cX4_init 98 = .ok (.iload_n 1, 1) := by decide +kernel
theorem dX4_init_99 : decode cX4_init 99 = .ok (.aload_n 0, 1) := by decide +kernel
theorem dX4_init_100 : decode cX4_init 100 = .ok (.getfield 24, 3) := by decide +kernel
theorem dX4_init_103 : decode cX4_init 103 = .ok (.arraylength, 1) := by decide +kernel
theorem dX4_init_104 : decode cX4_init 104 = .ok (.if_icmp .ge 22, 3) := by decide +kernel
theorem dX4_init_107 : decode cX4_init 107 = .ok (.aload_n 0, 1) := by decide +kernel
theorem dX4_init_108 : decode cX4_init 108 = .ok (.getfield 24, 3) := by decide +kernel
theorem dX4_init_111 : decode cX4_init 111 = .ok (.iload_n 1, 1) := by decide +kernel
theorem dX4_init_112 : decode cX4_init 112 = .ok (.new 7, 3) := by decide +kernel
theorem dX4_init_115 : decode cX4_init 115 = .ok (.dup, 1) := by decide +kernel
theorem dX4_init_116 : decode cX4_init 116 = .ok (.invokespecial 9, 3) := by decide +kernel
theorem dX4_init_119 : decode cX4_init 119 = .ok (.aastore, 1) := by decide +kernel
theorem dX4_init_120 : decode cX4_init 120 = .ok (.iinc 1 1, 3) := by decide +kernel
theorem dX4_init_123 : decode cX4_init 123 = .ok (.goto (-25), 3) := by decide +kernel
theorem dX4_init_126 : decode cX4_init 126 = .ok (.return_, 1) := by decide +kernel
set_option maxRecDepth 20000 in
theorem ggX4_set_X4_keepState : GoodIn wsX4_set wsX4_keepState := goodIn_r _ [6, 7, 8, 1, 9, 10, 11, 12, 13, 14, 15, 16, 17, 18, 19, 20, 21, 22, 23, 24, 25, 26, 27, 28, 29, 30, 31, 32, 33, 34, 35, 36, 37, 38, 39, 40, 41, 42, 43, 44, 45, 46, 47, 48, 61, 62, 63, 64, 65, 66, 67, 68, 69, 70, 71, 72, 73, 74, 75, 76, 77, 78, 79, 80, 81, 82, 83, 84, 85, 86, 87] (by decide +kernel) (by decide +kernel)
set_option maxRecDepth 20000 in
theorem gX4_set_X4_keepState : GoodIn wsX4_set (wsV RX4 45 RX4 yX4_keepState wsX4_keepState) := goodIn_app (goodIn_of _ (by decide +kernel)) ggX4_set_X4_keepState
set_option maxRecDepth 20000 in
theorem ggX4_set_X3_changeSetting : GoodIn wsX4_set wsX3_changeSetting := goodIn_r _ [52, 14, 68, 69, 70, 71, 72, 73, 74] (by decide +kernel) (by decide +kernel)
set_option maxRecDepth 20000 in
theorem gX4_set_X3_changeSetting : GoodIn wsX4_set (wsV RX4 48 RX3 yX3_changeSetting wsX3_changeSetting) := goodIn_app (goodIn_of _ (by decide +kernel)) ggX4_set_X3_changeSetting
set_option maxRecDepth 20000 in
theorem ggX4_set_X4_recordUnlessError : GoodIn wsX4_set wsX4_recordUnlessError := goodIn_r _ [56, 8, 57, 58, 59, 5, 60, 7, 61, 62, 63, 64, 65, 66, 67] (by decide +kernel) (by decide +kernel)
set_option maxRecDepth 20000 in
theorem gX4_set_X4_recordUnlessError : GoodIn wsX4_set (wsV RX4 52 RX4 yX4_recordUnlessError wsX4_recordUnlessError) := goodIn_app (goodIn_of _ (by decide +kernel)) ggX4_set_X4_recordUnlessError
theorem dX4_set_0 : decode cX4_set 0 = .ok (.aload_n 0, 1) := by decide +kernel
theorem dX4_set_1 : decode cX4_set 1 = .ok (.invokevirtual 45, 3) := by decide +kernel
theorem dX4_set_4 : decode cX4_set 4 = .ok (.aload_n 0, 1) := by decide +kernel
theorem dX4_set_5 : decode cX4_set 5 = .ok (.aload_n 0, 1) := by decide +kernel
theorem dX4_set_6 : decode cX4_set 6 = .ok (.getfield 10, 3) := by decide +kernel
theorem dX4_set_9 : decode cX4_set 9 = .ok (.iload_n 1, 1) := by decide +kernel
theorem dX4_set_10 : decode cX4_set 10 = .ok (.iload_n 2, 1) := by decide +kernel
theorem dX4_set_11 : decode cX4_set 11 = .ok (.invokevirtual 48, 3) := by decide +kernel
theorem dX4_set_14 : decode cX4_set 14 = .ok (.invokevirtual 52, 3) := by decide +kernel
theorem dX4_set_17 : decode cX4_set 17 = .ok (.ireturn, 1) := by decide +kernel
set_option maxRecDepth 20000 in
theorem ggX4_landing_X4_keepState : GoodIn wsX4_landing wsX4_keepState := goodIn_r _ [6, 7, 8, 1, 9, 10, 11, 12, 13, 14, 15, 16, 17, 18, 19, 20, 21, 22, 23, 24, 25, 26, 27, 28, 29, 30, 31, 32, 33, 34, 35, 36, 37, 38, 39, 40, 41, 42, 43, 44, 45, 46, 47, 48, 74, 75, 76, 77, 78, 79, 80, 81, 82, 83, 84, 85, 86, 87, 88, 89, 90, 91, 92, 93, 94, 95, 96, 97, 98, 99, 100] (by decide +kernel) (by decide +kernel)
set_option maxRecDepth 20000 in
theorem gX4_landing_X4_keepState : GoodIn wsX4_landing (wsV RX4 45 RX4 yX4_keepState wsX4_keepState) := goodIn_app (goodIn_of _ (by decide +kernel)) ggX4_landing_X4_keepState
set_option maxRecDepth 20000 in
theorem ggX4_landing_X3_addLanding : GoodIn wsX4_landing wsX3_addLanding := goodIn_r _ [52, 20, 19, 53, 54, 55, 28, 56, 30, 31, 32, 33, 34, 35, 36, 37, 57, 58, 59, 12, 60, 61, 22, 23, 62, 63, 64, 65, 81, 82, 83, 84, 85, 86, 87, 88, 89, 90, 91, 92, 93, 94, 95] (by decide +kernel) (by decide +kernel)
set_option maxRecDepth 20000 in
theorem gX4_landing_X3_addLanding : GoodIn wsX4_landing (wsV RX4 56 RX3 yX3_addLanding wsX3_addLanding) := goodIn_app (goodIn_of _ (by decide +kernel)) ggX4_landing_X3_addLanding
set_option maxRecDepth 20000 in
theorem ggX4_landing_X4_recordUnlessError : GoodIn wsX4_landing wsX4_recordUnlessError := goodIn_r _ [69, 8, 70, 71, 72, 5, 73, 7, 74, 75, 76, 77, 78, 79, 80] (by decide +kernel) (by decide +kernel)
set_option maxRecDepth 20000 in
theorem gX4_landing_X4_recordUnlessError : GoodIn wsX4_landing (wsV RX4 52 RX4 yX4_recordUnlessError wsX4_recordUnlessError) := goodIn_app (goodIn_of _ (by decide +kernel)) ggX4_landing_X4_recordUnlessError
theorem dX4_landing_0 : decode cX4_landing 0 = .ok (.aload_n 0, 1) := by decide +kernel
theorem dX4_landing_1 : decode cX4_landing 1 = .ok (.invokevirtual 45, 3) := by decide +kernel
theorem dX4_landing_4 : decode cX4_landing 4 = .ok (.aload_n 0, 1) := by decide +kernel
theorem dX4_landing_5 : decode cX4_landing 5 = .ok (.aload_n 0, 1) := by decide +kernel
theorem dX4_landing_6 : decode cX4_landing 6 = .ok (.getfield 10, 3) := by decide +kernel
theorem dX4_landing_9 : decode cX4_landing 9 = .ok (.iload_n 1, 1) := by decide +kernel
theorem dX4_landing_10 : decode cX4_landing 10 = .ok (.invokevirtual 56, 3) := by decide +kernel
theorem dX4_landing_13 : decode cX4_landing 13 = .ok (.invokevirtual 52, 3) := by decide +kernel
theorem dX4_landing_16 : decode cX4_landing 16 = .ok (.ireturn, 1) := by decide +kernel
set_option maxRecDepth 20000 in
theorem ggX4_open_X4_keepState : GoodIn wsX4_open wsX4_keepState := goodIn_r _ [6, 7, 8, 1, 9, 10, 11, 12, 13, 14, 15, 16, 17, 18, 19, 20, 21, 22, 23, 24, 25, 26, 27, 28, 29, 30, 31, 32, 33, 34, 35, 36, 37, 38, 39, 40, 41, 42, 43, 44, 45, 46, 47, 48, 98, 99, 100, 101, 102, 103, 104, 105, 106, 107, 108, 109, 110, 111, 112, 113, 114, 115, 116, 117, 118, 119, 120, 121, 122, 123, 124] (by decide +kernel) (by decide +kernel)
set_option maxRecDepth 20000 in
theorem gX4_open_X4_keepState : GoodIn wsX4_open (wsV RX4 45 RX4 yX4_keepState wsX4_keepState) := goodIn_app (goodIn_of _ (by decide +kernel)) ggX4_open_X4_keepState
set_option maxRecDepth 20000 in
theorem ggX4_open_X3_openLanding : GoodIn wsX4_open wsX3_openLanding := goodIn_r _ [52, 53, 54, 55, 56, 12, 57, 20, 19, 58, 59, 60, 61, 24, 21, 62, 63, 64, 65, 41, 66, 43, 48, 45, 46, 47, 67, 68, 69, 70, 71, 72, 73, 74, 14, 75, 76, 77, 28, 78, 36, 32, 79, 80, 33, 34, 37, 81, 82, 83, 84, 85, 22, 23, 86, 87, 88, 89, 30, 112, 113, 114, 115, 116, 117, 118, 119, 105, 106, 107, 108, 109, 110, 111, 120, 121, 122, 123, 124] (by decide +kernel) (by decide +kernel)
set_option maxRecDepth 20000 in
theorem gX4_open_X3_openLanding : GoodIn wsX4_open (wsV RX4 59 RX3 yX3_openLanding wsX3_openLanding) := goodIn_app (goodIn_of _ (by decide +kernel)) ggX4_open_X3_openLanding
set_option maxRecDepth 20000 in
theorem ggX4_open_X4_recordUnlessError : GoodIn wsX4_open wsX4_recordUnlessError := goodIn_r _ [93, 8, 94, 95, 96, 5, 97, 7, 98, 99, 100, 101, 102, 103, 104] (by decide +kernel) (by decide +kernel)
set_option maxRecDepth 20000 in
theorem gX4_open_X4_recordUnlessError : GoodIn wsX4_open (wsV RX4 52 RX4 yX4_recordUnlessError wsX4_recordUnlessError) := goodIn_app (goodIn_of _ (by decide +kernel)) ggX4_open_X4_recordUnlessError
theorem dX4_open_0 : decode cX4_open 0 = .ok (.aload_n 0, 1) := by decide +kernel
theorem dX4_open_1 : decode cX4_open 1 = .ok (.invokevirtual 45, 3) := by decide +kernel
theorem dX4_open_4 : decode cX4_open 4 = .ok (.aload_n 0, 1) := by decide +kernel
theorem dX4_open_5 : decode cX4_open 5 = .ok (.aload_n 0, 1) := by decide +kernel
theorem dX4_open_6 : decode cX4_open 6 = .ok (.getfield 10, 3) := by decide +kernel
theorem dX4_open_9 : decode cX4_open 9 = .ok (.iload_n 1, 1) := by decide +kernel
theorem dX4_open_10 : decode cX4_open 10 = .ok (.invokevirtual 59, 3) := by decide +kernel
theorem dX4_open_13 : decode cX4_open 13 = .ok (.invokevirtual 52, 3) := by decide +kernel
theorem dX4_open_16 : decode cX4_open 16 = .ok (.ireturn, 1) := by decide +kernel
set_option maxRecDepth 20000 in
theorem ggX4_close_X4_keepState : GoodIn wsX4_close wsX4_keepState := goodIn_r _ [6, 7, 8, 1, 9, 10, 11, 12, 13, 14, 15, 16, 17, 18, 19, 20, 21, 22, 23, 24, 25, 26, 27, 28, 29, 30, 31, 32, 33, 34, 35, 36, 37, 38, 39, 40, 41, 42, 43, 44, 45, 46, 47, 48, 98, 99, 100, 101, 102, 103, 104, 105, 106, 107, 108, 109, 110, 111, 112, 113, 114, 115, 116, 117, 118, 119, 120, 121, 122, 123, 124] (by decide +kernel) (by decide +kernel)
set_option maxRecDepth 20000 in
theorem gX4_close_X4_keepState : GoodIn wsX4_close (wsV RX4 45 RX4 yX4_keepState wsX4_keepState) := goodIn_app (goodIn_of _ (by decide +kernel)) ggX4_close_X4_keepState
set_option maxRecDepth 20000 in
theorem ggX4_close_X3_closeLanding : GoodIn wsX4_close wsX3_closeLanding := goodIn_r _ [52, 53, 54, 55, 56, 12, 57, 20, 19, 58, 59, 60, 61, 24, 21, 62, 63, 64, 65, 41, 66, 43, 48, 45, 46, 47, 67, 68, 69, 70, 71, 72, 73, 74, 14, 75, 76, 77, 28, 78, 36, 32, 79, 80, 33, 34, 37, 81, 82, 83, 84, 85, 22, 23, 86, 87, 88, 89, 30, 112, 113, 114, 115, 116, 117, 118, 119, 105, 106, 107, 108, 109, 110, 111, 120, 121, 122, 123, 124] (by decide +kernel) (by decide +kernel)
set_option maxRecDepth 20000 in
theorem gX4_close_X3_closeLanding : GoodIn wsX4_close (wsV RX4 62 RX3 yX3_closeLanding wsX3_closeLanding) := goodIn_app (goodIn_of _ (by decide +kernel)) ggX4_close_X3_closeLanding
set_option maxRecDepth 20000 in
theorem ggX4_close_X4_recordUnlessError : GoodIn wsX4_close wsX4_recordUnlessError := goodIn_r _ [93, 8, 94, 95, 96, 5, 97, 7, 98, 99, 100, 101, 102, 103, 104] (by decide +kernel) (by decide +kernel)
set_option maxRecDepth 20000 in
theorem gX4_close_X4_recordUnlessError : GoodIn wsX4_close (wsV RX4 52 RX4 yX4_recordUnlessError wsX4_recordUnlessError) := goodIn_app (goodIn_of _ (by decide +kernel)) ggX4_close_X4_recordUnlessError
theorem dX4_close_0 : decode cX4_close 0 = .ok (.aload_n 0, 1) := by decide +kernel
theorem dX4_close_1 : decode cX4_close 1 = .ok (.invokevirtual 45, 3) := by decide +kernel
theorem dX4_close_4 : decode cX4_close 4 = .ok (.aload_n 0, 1) := by decide +kernel
theorem dX4_close_5 : decode cX4_close 5 = .ok (.aload_n 0, 1) := by decide +kernel
theorem dX4_close_6 : decode cX4_close 6 = .ok (.getfield 10, 3) := by decide +kernel
theorem dX4_close_9 : decode cX4_close 9 = .ok (.iload_n 1, 1) := by decide +kernel
theorem dX4_close_10 : decode cX4_close 10 = .ok (.invokevirtual 62, 3) := by decide +kernel
theorem dX4_close_13 : decode cX4_close 13 = .ok (.invokevirtual 52, 3) := by decide +kernel
theorem dX4_close_16 : decode cX4_close 16 = .ok (.ireturn, 1) := by decide +kernel
set_option maxRecDepth 20000 in
theorem ggX4_price_X4_keepState : GoodIn wsX4_price wsX4_keepState := goodIn_r _ [6, 7, 8, 1, 9, 10, 11, 12, 13, 14, 15, 16, 17, 18, 19, 20, 21, 22, 23, 24, 25, 26, 27, 28, 29, 30, 31, 32, 33, 34, 35, 36, 37, 38, 39, 40, 41, 42, 43, 44, 45, 46, 47, 48, 97, 98, 99, 100, 101, 102, 103, 104, 105, 106, 107, 108, 109, 110, 111, 112, 113, 114, 115, 116, 117, 118, 119, 120, 121, 122, 123] (by decide +kernel) (by decide +kernel)
set_option maxRecDepth 20000 in
theorem gX4_price_X4_keepState : GoodIn wsX4_price (wsV RX4 45 RX4 yX4_keepState wsX4_keepState) := goodIn_app (goodIn_of _ (by decide +kernel)) ggX4_price_X4_keepState
set_option maxRecDepth 20000 in
theorem ggX4_price_X3_changePrice : GoodIn wsX4_price wsX3_changePrice := goodIn_r _ [52, 53, 54, 55, 56, 12, 57, 20, 19, 58, 59, 60, 61, 24, 21, 62, 63, 64, 65, 41, 66, 43, 48, 45, 46, 47, 67, 68, 69, 70, 71, 72, 73, 74, 14, 75, 76, 77, 28, 78, 36, 32, 79, 80, 33, 34, 37, 81, 82, 83, 84, 22, 23, 85, 86, 87, 88, 30, 111, 112, 113, 114, 115, 116, 117, 118, 104, 105, 106, 107, 108, 109, 110, 119, 120, 121, 122, 123] (by decide +kernel) (by decide +kernel)
set_option maxRecDepth 20000 in
theorem gX4_price_X3_changePrice : GoodIn wsX4_price (wsV RX4 65 RX3 yX3_changePrice wsX3_changePrice) := goodIn_app (goodIn_of _ (by decide +kernel)) ggX4_price_X3_changePrice
set_option maxRecDepth 20000 in
theorem ggX4_price_X4_recordUnlessError : GoodIn wsX4_price wsX4_recordUnlessError := goodIn_r _ [92, 8, 93, 94, 95, 5, 96, 7, 97, 98, 99, 100, 101, 102, 103] (by decide +kernel) (by decide +kernel)
set_option maxRecDepth 20000 in
theorem gX4_price_X4_recordUnlessError : GoodIn wsX4_price (wsV RX4 52 RX4 yX4_recordUnlessError wsX4_recordUnlessError) := goodIn_app (goodIn_of _ (by decide +kernel)) ggX4_price_X4_recordUnlessError
theorem dX4_price_0 : decode cX4_price 0 = .ok (.aload_n 0, 1) := by decide +kernel
theorem dX4_price_1 : decode cX4_price 1 = .ok (.invokevirtual 45, 3) := by decide +kernel
theorem dX4_price_4 : decode cX4_price 4 = .ok (.aload_n 0, 1) := by decide +kernel
theorem dX4_price_5 : decode cX4_price 5 = .ok (.aload_n 0, 1) := by decide +kernel
theorem dX4_price_6 : decode cX4_price 6 = .ok (.getfield 10, 3) := by decide +kernel
theorem dX4_price_9 : decode cX4_price 9 = .ok (.iload_n 1, 1) := by decide +kernel
theorem dX4_price_10 : decode cX4_price 10 = .ok (.iload_n 2, 1) := by decide +kernel
theorem dX4_price_11 : decode cX4_price 11 = .ok (.invokevirtual 65, 3) := by decide +kernel
theorem dX4_price_14 : decode cX4_price 14 = .ok (.invokevirtual 52, 3) := by decide +kernel
theorem dX4_price_17 : decode cX4_price 17 = .ok (.ireturn, 1) := by decide +kernel
set_option maxRecDepth 20000 in
theorem ggX4_pass_X4_keepState : GoodIn wsX4_pass wsX4_keepState := goodIn_r _ [6, 7, 8, 1, 9, 10, 11, 12, 13, 14, 15, 16, 17, 18, 19, 20, 21, 22, 23, 24, 25, 26, 27, 28, 29, 30, 31, 32, 33, 34, 35, 36, 37, 38, 39, 40, 41, 42, 43, 44, 45, 46, 47, 48, 92, 93, 94, 95, 96, 97, 98, 99, 100, 101, 102, 103, 104, 105, 106, 107, 108, 109, 110, 111, 112, 113, 114, 115, 116, 117, 118] (by decide +kernel) (by decide +kernel)
set_option maxRecDepth 20000 in
theorem gX4_pass_X4_keepState : GoodIn wsX4_pass (wsV RX4 45 RX4 yX4_keepState wsX4_keepState) := goodIn_app (goodIn_of _ (by decide +kernel)) ggX4_pass_X4_keepState
set_option maxRecDepth 20000 in
theorem ggX4_pass_X3_passMinutes : GoodIn wsX4_pass wsX3_passMinutes := goodIn_r _ [52, 21, 53, 54, 55, 56, 12, 57, 20, 19, 24, 58, 59, 60, 61, 14, 62, 63, 64, 28, 65, 35, 32, 33, 34, 66, 67, 68, 69, 70, 71, 72, 41, 73, 43, 48, 45, 46, 47, 74, 75, 76, 77, 78, 79, 22, 23, 80, 81, 82, 83, 30, 99, 100, 101, 102, 103, 104, 105, 106, 107, 108, 109, 110, 111, 112, 113, 114, 115, 116, 117, 118] (by decide +kernel) (by decide +kernel)
set_option maxRecDepth 20000 in
theorem gX4_pass_X3_passMinutes : GoodIn wsX4_pass (wsV RX4 68 RX3 yX3_passMinutes wsX3_passMinutes) := goodIn_app (goodIn_of _ (by decide +kernel)) ggX4_pass_X3_passMinutes
set_option maxRecDepth 20000 in
theorem ggX4_pass_X4_recordUnlessError : GoodIn wsX4_pass wsX4_recordUnlessError := goodIn_r _ [87, 8, 88, 89, 90, 5, 91, 7, 92, 93, 94, 95, 96, 97, 98] (by decide +kernel) (by decide +kernel)
set_option maxRecDepth 20000 in
theorem gX4_pass_X4_recordUnlessError : GoodIn wsX4_pass (wsV RX4 52 RX4 yX4_recordUnlessError wsX4_recordUnlessError) := goodIn_app (goodIn_of _ (by decide +kernel)) ggX4_pass_X4_recordUnlessError
theorem dX4_pass_0 : decode cX4_pass 0 = .ok (.aload_n 0, 1) := by decide +kernel
theorem dX4_pass_1 : decode cX4_pass 1 = .ok (.invokevirtual 45, 3) := by decide +kernel
theorem dX4_pass_4 : decode cX4_pass 4 = .ok (.aload_n 0, 1) := by decide +kernel
theorem dX4_pass_5 : decode cX4_pass 5 = .ok (.aload_n 0, 1) := by decide +kernel
theorem dX4_pass_6 : decode cX4_pass 6 = .ok (.getfield 10, 3) := by decide +kernel
theorem dX4_pass_9 : decode cX4_pass 9 = .ok (.iload_n 1, 1) := by decide +kernel
theorem dX4_pass_10 : decode cX4_pass 10 = .ok (.invokevirtual 68, 3) := by decide +kernel
theorem dX4_pass_13 : decode cX4_pass 13 = .ok (.invokevirtual 52, 3) := by decide +kernel
theorem dX4_pass_16 : decode cX4_pass 16 = .ok (.ireturn, 1) := by decide +kernel
set_option maxRecDepth 20000 in
theorem ggX4_of_X3_find : GoodIn wsX4_of wsX3_find := goodIn_r _ [6, 7, 8, 29, 30, 31, 32, 33, 34, 35] (by decide +kernel) (by decide +kernel)
set_option maxRecDepth 20000 in
theorem gX4_of_X3_find : GoodIn wsX4_of (wsV RX4 71 RX3 yX3_find wsX3_find) := goodIn_app (goodIn_of _ (by decide +kernel)) ggX4_of_X3_find
set_option maxRecDepth 20000 in
theorem ggX4_of_X1_tell : GoodIn wsX4_of wsX1_tell := goodIn_r _ [13, 14, 15, 16, 17, 18, 19, 20, 21, 36, 37, 38, 39, 40, 41, 42, 43] (by decide +kernel) (by decide +kernel)
set_option maxRecDepth 20000 in
theorem gX4_of_X1_tell : GoodIn wsX4_of (wsV RX4 75 RX1 yX1_tell wsX1_tell) := goodIn_app (goodIn_of _ (by decide +kernel)) ggX4_of_X1_tell
theorem dX4_of_0 : decode cX4_of 0 = .ok (.aload_n 0, 1) := by decide +kernel
theorem dX4_of_1 : decode cX4_of 1 = .ok (.getfield 10, 3) := by decide +kernel
theorem dX4_of_4 : decode cX4_of 4 = .ok (.iload_n 1, 1) := by decide +kernel
theorem dX4_of_5 : decode cX4_of 5 = .ok (.invokevirtual 71, 3) := by decide +kernel
theorem dX4_of_8 : decode cX4_of 8 = .ok (.astore_n 3, 1) := by decide +kernel
theorem dX4_of_9 : decode cX4_of 9 = .ok (.aload_n 3, 1) := by decide +kernel
theorem dX4_of_10 : decode cX4_of 10 = .ok (.ifnonnull 7, 3) := by decide +kernel
theorem dX4_of_13 : decode cX4_of 13 = .ok (.iconst (-1), 1) := by decide +kernel
theorem dX4_of_14 : decode cX4_of 14 = .ok (.goto 8, 3) := by decide +kernel
theorem dX4_of_17 : decode cX4_of 17 = .ok (.aload_n 3, 1) := by decide +kernel
theorem dX4_of_18 : decode cX4_of 18 = .ok (.iload_n 2, 1) := by decide +kernel
theorem dX4_of_19 : decode cX4_of 19 = .ok (.invokevirtual 75, 3) := by decide +kernel
theorem dX4_of_22 : decode cX4_of 22 = .ok (.ireturn, 1) := by decide +kernel
set_option maxRecDepth 20000 in
theorem ggX4_count_X3_tell : GoodIn wsX4_count wsX3_tell := goodIn_r _ [9, 10, 11, 12, 13, 14, 15, 16, 17, 18, 19, 8, 20, 21, 22, 23, 24, 25, 26, 27, 41, 42, 43, 44, 45, 46, 47, 48, 49, 50, 51, 52, 53, 54, 55, 56, 57, 58, 59, 60] (by decide +kernel) (by decide +kernel)
set_option maxRecDepth 20000 in
theorem gX4_count_X3_tell : GoodIn wsX4_count (wsV RX4 81 RX3 yX3_tell wsX3_tell) := goodIn_app (goodIn_of _ (by decide +kernel)) ggX4_count_X3_tell
theorem dX4_count_0 : decode cX4_count 0 = .ok (.iload_n 1, 1) := by decide +kernel
theorem dX4_count_1 : decode cX4_count 1 = .ok (.bipush 14, 2) := by decide +kernel
theorem dX4_count_3 : decode cX4_count 3 = .ok (.if_icmp .ne 11, 3) := by decide +kernel
theorem dX4_count_6 : decode cX4_count 6 = .ok (.aload_n 0, 1) := by decide +kernel
theorem dX4_count_7 : decode cX4_count 7 = .ok (.getfield 34, 3) := by decide +kernel
theorem dX4_count_10 : decode cX4_count 10 = .ok (.getfield 78, 3) := by decide +kernel
theorem dX4_count_13 : decode cX4_count 13 = .ok (.ireturn, 1) := by decide +kernel
theorem dX4_count_14 : decode cX4_count 14 = .ok (.iload_n 1, 1) := by decide +kernel
theorem dX4_count_15 : decode cX4_count 15 = .ok (.bipush 15, 2) := by decide +kernel
theorem dX4_count_17 : decode cX4_count 17 = .ok (.if_icmp .ne 8, 3) := by decide +kernel
theorem dX4_count_20 : decode cX4_count 20 = .ok (.aload_n 0, 1) := by decide +kernel
theorem dX4_count_21 : decode cX4_count 21 = .ok (.getfield 20, 3) := by decide +kernel
theorem dX4_count_24 : decode cX4_count 24 = .ok (.ireturn, 1) := by decide +kernel
theorem dX4_count_25 : decode cX4_count 25 = .ok (.aload_n 0, 1) := by decide +kernel
theorem dX4_count_26 : decode cX4_count 26 = .ok (.getfield 10, 3) := by decide +kernel
theorem dX4_count_29 : decode cX4_count 29 = .ok (.iload_n 1, 1) := by decide +kernel
theorem dX4_count_30 : decode cX4_count 30 = .ok (.invokevirtual 81, 3) := by decide +kernel
theorem dX4_count_33 : decode cX4_count 33 = .ok (.ireturn, 1) := by decide +kernel
set_option maxRecDepth 20000 in
theorem ggX4_choice_X3_chosen : GoodIn wsX4_choice wsX3_chosen := goodIn_r _ [6, 7, 8, 9, 10, 11, 12, 13, 14, 15, 16, 17, 18, 5, 19, 20, 28, 29, 30, 31, 32, 33, 34, 35, 36, 37, 38, 39, 40, 41, 42] (by decide +kernel) (by decide +kernel)
set_option maxRecDepth 20000 in
theorem gX4_choice_X3_chosen : GoodIn wsX4_choice (wsV RX4 82 RX3 yX3_chosen wsX3_chosen) := goodIn_app (goodIn_of _ (by decide +kernel)) ggX4_choice_X3_chosen
theorem dX4_choice_0 : decode cX4_choice 0 = .ok (.aload_n 0, 1) := by decide +kernel
theorem dX4_choice_1 : decode cX4_choice 1 = .ok (.getfield 10, 3) := by decide +kernel
theorem dX4_choice_4 : decode cX4_choice 4 = .ok (.iload_n 1, 1) := by decide +kernel
theorem dX4_choice_5 : decode cX4_choice 5 = .ok (.invokevirtual 82, 3) := by decide +kernel
theorem dX4_choice_8 : decode cX4_choice 8 = .ok (.ireturn, 1) := by decide +kernel
set_option maxRecDepth 20000 in
theorem ggX4_log_X0_tell : GoodIn wsX4_log wsX0_tell := goodIn_r _ [7, 8, 9, 10, 11, 12, 27, 28, 29, 30, 31] (by decide +kernel) (by decide +kernel)
set_option maxRecDepth 20000 in
theorem gX4_log_X0_tell : GoodIn wsX4_log (wsV RX4 89 RX0 yX0_tell wsX0_tell) := goodIn_app (goodIn_of _ (by decide +kernel)) ggX4_log_X0_tell
theorem dX4_log_0 : decode cX4_log 0 = .ok (.aload_n 0, 1) := by decide +kernel
theorem dX4_log_1 : decode cX4_log 1 = .ok (.getfield 10, 3) := by decide +kernel
theorem dX4_log_4 : decode cX4_log 4 = .ok (.getfield 85, 3) := by decide +kernel
theorem dX4_log_7 : decode cX4_log 7 = .ok (.iload_n 1, 1) := by decide +kernel
theorem dX4_log_8 : decode cX4_log 8 = .ok (.iload_n 2, 1) := by decide +kernel
theorem dX4_log_9 : decode cX4_log 9 = .ok (.invokevirtual 89, 3) := by decide +kernel
theorem dX4_log_12 : decode cX4_log 12 = .ok (.ireturn, 1) := by decide +kernel
set_option maxRecDepth 20000 in
theorem ggX4_why_X3_find : GoodIn wsX4_why wsX3_find := goodIn_r _ [9, 10, 11, 19, 20, 21, 22, 23, 24, 25] (by decide +kernel) (by decide +kernel)
set_option maxRecDepth 20000 in
theorem gX4_why_X3_find : GoodIn wsX4_why (wsV RX4 71 RX3 yX3_find wsX3_find) := goodIn_app (goodIn_of _ (by decide +kernel)) ggX4_why_X3_find
theorem dX4_why_0 : decode cX4_why 0 = .ok (.aload_n 0, 1) := by decide +kernel
theorem dX4_why_1 : decode cX4_why 1 = .ok (.getfield 10, 3) := by decide +kernel
theorem dX4_why_4 : decode cX4_why 4 = .ok (.iload_n 1, 1) := by decide +kernel
theorem dX4_why_5 : decode cX4_why 5 = .ok (.invokevirtual 71, 3) := by decide +kernel
theorem dX4_why_8 : decode cX4_why 8 = .ok (.astore_n 2, 1) := by decide +kernel
theorem dX4_why_9 : decode cX4_why 9 = .ok (.aload_n 2, 1) := by decide +kernel
theorem dX4_why_10 : decode cX4_why 10 = .ok (.ifnonnull 5, 3) := by decide +kernel
theorem dX4_why_13 : decode cX4_why 13 = .ok (.iconst (-1), 1) := by decide +kernel
theorem dX4_why_14 : decode cX4_why 14 = .ok (.ireturn, 1) := by decide +kernel
theorem dX4_why_15 : decode cX4_why 15 = .ok (.iload_n 1, 1) := by decide +kernel
theorem dX4_why_16 : decode cX4_why 16 = .ok (.aload_n 0, 1) := by decide +kernel
theorem dX4_why_17 : decode cX4_why 17 = .ok (.getfield 10, 3) := by decide +kernel
theorem dX4_why_20 : decode cX4_why 20 = .ok (.getfield 93, 3) := by decide +kernel
theorem dX4_why_23 : decode cX4_why 23 = .ok (.if_icmp .ne 5, 3) := by decide +kernel
theorem dX4_why_26 : decode cX4_why 26 = .ok (.iconst 0, 1) := by decide +kernel
theorem dX4_why_27 : decode cX4_why 27 = .ok (.ireturn, 1) := by decide +kernel
theorem dX4_why_28 : decode cX4_why 28 = .ok (.aload_n 2, 1) := by decide +kernel
theorem dX4_why_29 : decode cX4_why 29 = .ok (.getfield 96, 3) := by decide +kernel
theorem dX4_why_32 : decode cX4_why 32 = .ok (.ifCond .ne 5, 3) := by decide +kernel
theorem dX4_why_35 : decode cX4_why 35 = .ok (.iconst 1, 1) := by decide +kernel
theorem dX4_why_36 : decode cX4_why 36 = .ok (.ireturn, 1) := by decide +kernel
theorem dX4_why_37 : decode cX4_why 37 = .ok (.aload_n 2, 1) := by decide +kernel
theorem dX4_why_38 : decode cX4_why 38 = .ok (.getfield 100, 3) := by decide +kernel
theorem dX4_why_41 : decode cX4_why 41 = .ok (.ifCond .eq 7, 3) := by decide +kernel
theorem dX4_why_44 : decode cX4_why 44 = .ok (.iconst 2, 1) := by decide +kernel
theorem dX4_why_45 : decode cX4_why 45 = .ok (.goto 4, 3) := by decide +kernel
theorem dX4_why_48 : decode cX4_why 48 = .ok (.iconst 3, 1) := by decide +kernel
theorem dX4_why_49 : decode cX4_why 49 = .ok (.ireturn, 1) := by decide +kernel
set_option maxRecDepth 20000 in
theorem ggX4_keepState_X3_copyFrom : GoodIn wsX4_keepState wsX3_copyFrom := goodIn_r _ [8, 9, 10, 11, 12, 13, 14, 15, 16, 17, 18, 19, 20, 21, 22, 23, 24, 25, 26, 27, 28, 29, 30, 31, 32, 33, 34, 35, 36, 37, 38, 39, 40, 41, 42, 43, 51, 52, 53, 54, 55, 56, 57, 58, 59, 60, 61, 62, 63, 64, 65, 66, 67, 68, 69, 70] (by decide +kernel) (by decide +kernel)
set_option maxRecDepth 20000 in
theorem gX4_keepState_X3_copyFrom : GoodIn wsX4_keepState (wsV RX4 171 RX3 yX3_copyFrom wsX3_copyFrom) := goodIn_app (goodIn_of _ (by decide +kernel)) ggX4_keepState_X3_copyFrom
theorem dX4_keepState_0 : decode cX4_keepState 0 = .ok (.aload_n 0, 1) := by decide +kernel
theorem dX4_keepState_1 : decode cX4_keepState 1 = .ok (.getfield 16, 3) := by decide +kernel
theorem dX4_keepState_4 : decode cX4_keepState 4 = .ok (.aload_n 0, 1) := by decide +kernel
theorem dX4_keepState_5 : decode cX4_keepState 5 = .ok (.getfield 20, 3) := by decide +kernel
theorem dX4_keepState_8 : decode cX4_keepState 8 = .ok (.aaload, 1) := by decide +kernel
theorem dX4_keepState_9 : decode cX4_keepState 9 = .ok (.aload_n 0, 1) := by decide +kernel
theorem dX4_keepState_10 : decode cX4_keepState 10 = .ok (.getfield 10, 3) := by decide +kernel
theorem dX4_keepState_13 : decode cX4_keepState 13 = .ok (.invokevirtual 171, 3) := by decide +kernel
theorem dX4_keepState_16 : decode cX4_keepState 16 = .ok (.return_, 1) := by decide +kernel
set_option maxRecDepth 20000 in
theorem ggX4_recordUnlessError_X4_dropOldest : GoodIn wsX4_recordUnlessError wsX4_dropOldest := goodIn_r _ [6, 7, 8, 9, 10, 11, 12, 13, 14] (by decide +kernel) (by decide +kernel)
set_option maxRecDepth 20000 in
theorem gX4_recordUnlessError_X4_dropOldest : GoodIn wsX4_recordUnlessError (wsV RX4 177 RX4 yX4_dropOldest wsX4_dropOldest) := goodIn_app (goodIn_of _ (by decide +kernel)) ggX4_recordUnlessError_X4_dropOldest
theorem dX4_recordUnlessError_0 : decode cX4_recordUnlessError 0 = .ok (.iload_n 1, 1) := by decide +kernel
theorem dX4_recordUnlessError_1 : decode cX4_recordUnlessError 1 = .ok (.ifCond .ge 5, 3) := by decide +kernel
theorem dX4_recordUnlessError_4 : decode cX4_recordUnlessError 4 = .ok (.iload_n 1, 1) := by decide +kernel
theorem dX4_recordUnlessError_5 : decode cX4_recordUnlessError 5 = .ok (.ireturn, 1) := by decide +kernel
theorem dX4_recordUnlessError_6 : decode cX4_recordUnlessError 6 = .ok (.aload_n 0, 1) := by decide +kernel
theorem dX4_recordUnlessError_7 : decode cX4_recordUnlessError 7 = .ok (.getfield 20, 3) := by decide +kernel
theorem dX4_recordUnlessError_10 : decode cX4_recordUnlessError 10 = .ok (.bipush 6, 2) := by decide +kernel
theorem dX4_recordUnlessError_12 : decode cX4_recordUnlessError 12 = .ok (.if_icmp .ge 16, 3) := by decide +kernel
theorem dX4_recordUnlessError_15 : decode cX4_recordUnlessError 15 = .ok (.aload_n 0, 1) := by decide +kernel
theorem dX4_recordUnlessError_16 : decode cX4_recordUnlessError 16 = .ok (.dup, 1) := by decide +kernel
theorem dX4_recordUnlessError_17 : decode cX4_recordUnlessError 17 = .ok (.getfield 20, 3) := by decide +kernel
theorem dX4_recordUnlessError_20 : decode cX4_recordUnlessError 20 = .ok (.iconst 1, 1) := by decide +kernel
theorem dX4_recordUnlessError_21 : decode cX4_recordUnlessError 21 = .ok (.iadd, 1) := by decide +kernel
theorem dX4_recordUnlessError_22 : decode cX4_recordUnlessError 22 = .ok (.putfield 20, 3) := by decide +kernel
theorem dX4_recordUnlessError_25 : decode cX4_recordUnlessError 25 = .ok (.goto 7, 3) := by decide +kernel
theorem dX4_recordUnlessError_28 : decode cX4_recordUnlessError 28 = .ok (.aload_n 0, 1) := by decide +kernel
theorem dX4_recordUnlessError_29 : decode cX4_recordUnlessError 29 = .ok (.invokevirtual 177, 3) := by decide +kernel
theorem dX4_recordUnlessError_32 : decode cX4_recordUnlessError 32 = .ok (.iload_n 1, 1) := by decide +kernel
theorem dX4_recordUnlessError_33 : decode cX4_recordUnlessError 33 = .ok (.ireturn, 1) := by decide +kernel
theorem dX4_dropOldest_0 : decode cX4_dropOldest 0 = .ok (.aload_n 0, 1) := by decide +kernel
theorem dX4_dropOldest_1 : decode cX4_dropOldest 1 = .ok (.getfield 16, 3) := by decide +kernel
theorem dX4_dropOldest_4 : decode cX4_dropOldest 4 = .ok (.iconst 0, 1) := by decide +kernel
theorem dX4_dropOldest_5 : decode cX4_dropOldest 5 = .ok (.aaload, 1) := by decide +kernel
theorem dX4_dropOldest_6 : decode cX4_dropOldest 6 = .ok (.astore_n 1, 1) := by decide +kernel
theorem dX4_dropOldest_7 : decode cX4_dropOldest 7 = .ok (.iconst 0, 1) := by decide +kernel
theorem dX4_dropOldest_8 : decode cX4_dropOldest 8 = .ok (.istore_n 2, 1) := by decide +kernel
theorem dX4_dropOldest_9 : decode cX4_dropOldest 9 = .ok (.iload_n 2, 1) := by decide +kernel
theorem dX4_dropOldest_10 : decode cX4_dropOldest 10 = .ok (.bipush 6, 2) := by decide +kernel
theorem dX4_dropOldest_12 : decode cX4_dropOldest 12 = .ok (.if_icmp .ge 23, 3) := by decide +kernel
theorem dX4_dropOldest_15 : decode cX4_dropOldest 15 = .ok (.aload_n 0, 1) := by decide +kernel
theorem dX4_dropOldest_16 : decode cX4_dropOldest 16 = .ok (.getfield 16, 3) := by decide +kernel
theorem dX4_dropOldest_19 : decode cX4_dropOldest 19 = .ok (.iload_n 2, 1) := by decide +kernel
theorem dX4_dropOldest_20 : decode cX4_dropOldest 20 = .ok (.aload_n 0, 1) := by decide +kernel
theorem dX4_dropOldest_21 : decode cX4_dropOldest 21 = .ok (.getfield 16, 3) := by decide +kernel
theorem dX4_dropOldest_24 : decode cX4_dropOldest 24 = .ok (.iload_n 2, 1) := by decide +kernel
theorem dX4_dropOldest_25 : decode cX4_dropOldest 25 = .ok (.iconst 1, 1) := by decide +kernel
theorem dX4_dropOldest_26 : decode cX4_dropOldest 26 = .ok (.iadd, 1) := by decide +kernel
theorem dX4_dropOldest_27 : decode cX4_dropOldest 27 = .ok (.aaload, 1) := by decide +kernel
theorem dX4_dropOldest_28 : decode cX4_dropOldest 28 = .ok (.aastore, 1) := by decide +kernel
theorem dX4_dropOldest_29 : decode cX4_dropOldest 29 = .ok (.iinc 2 1, 3) := by decide +kernel
theorem dX4_dropOldest_32 : decode cX4_dropOldest 32 = .ok (.goto (-23), 3) := by decide +kernel
theorem dX4_dropOldest_35 : decode cX4_dropOldest 35 = .ok (.aload_n 0, 1) := by decide +kernel
theorem dX4_dropOldest_36 : decode cX4_dropOldest 36 = .ok (.getfield 16, 3) := by decide +kernel
theorem dX4_dropOldest_39 : decode cX4_dropOldest 39 = .ok (.bipush 6, 2) := by decide +kernel
theorem dX4_dropOldest_41 : decode cX4_dropOldest 41 = .ok (.aload_n 1, 1) := by decide +kernel
theorem dX4_dropOldest_42 : decode cX4_dropOldest 42 = .ok (.aastore, 1) := by decide +kernel
theorem dX4_dropOldest_43 : decode cX4_dropOldest 43 = .ok (.return_, 1) := by decide +kernel
