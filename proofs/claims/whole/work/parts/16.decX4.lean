set_option maxRecDepth 20000 in
theorem ggX4_init_X3_init : GoodIn wsX4_init wsX3_init := goodIn_r _ [23, 24, 2, 3, 25, 26, 27, 28, 29, 30, 31, 32, 33, 34, 35, 36, 37, 38, 39, 40, 41, 18, 19, 42, 43, 44, 45, 46, 47, 48, 49, 50, 51, 52, 53, 64, 65, 66, 67, 68, 69, 70, 92, 93, 94, 95, 96, 84, 85, 86, 87, 88, 89, 90, 91] (by decide +kernel) (by decide +kernel)
set_option maxRecDepth 20000 in
theorem gX4_init_X3_init : GoodIn wsX4_init (wsX3_init) := ggX4_init_X3_init
set_option maxRecDepth 20000 in
theorem ggX4_init_X2_init : GoodIn wsX4_init wsX2_init := goodIn_r _ [55, 56, 2, 3, 57, 58, 59, 60, 61, 62, 63, 78, 79, 80, 81, 82, 83] (by decide +kernel) (by decide +kernel)
set_option maxRecDepth 20000 in
theorem gX4_init_X2_init_n33 : GoodIn wsX4_init (wsX2_init) := ggX4_init_X2_init
set_option maxRecDepth 20000 in
theorem ggX4_init_X1_init : GoodIn wsX4_init wsX1_init := goodIn_r _ [52, 53, 2, 3] (by decide +kernel) (by decide +kernel)
set_option maxRecDepth 20000 in
theorem gX4_init_X1_init_n40 : GoodIn wsX4_init (wsX1_init) := ggX4_init_X1_init
theorem dX4_init_0 : decode cX4_init 0 = .ok (.aload_n 0, 1) := by decide +kernel
theorem dX4_init_1 : decode cX4_init 1 = .ok (.invokespecial 1, 3) := by decide +kernel
theorem dX4_init_4 : decode cX4_init 4 = .ok (.aload_n 0, 1) := by decide +kernel
theorem dX4_init_5 : decode cX4_init 5 = .ok (.new 7, 3) := by decide +kernel
theorem dX4_init_8 : decode cX4_init 8 = .ok (.dup, 1) := by decide +kernel
theorem dX4_init_9 : decode cX4_init 9 = .ok (.invokespecial 9, 3) := by decide +kernel
theorem dX4_init_12 : decode cX4_init 12 = .ok (.putfield 10, 3) := by decide +kernel
theorem dX4_init_15 : decode cX4_init 15 = .ok (.aload_n 0, 1) := by decide +kernel
theorem dX4_init_16 : decode cX4_init 16 = .ok (.bipush 7, 2) := by decide +kernel
theorem dX4_init_18 : decode cX4_init 18 = .ok (.anewarray 7, 3) := by decide +kernel
theorem dX4_init_21 : decode cX4_init 21 = .ok (.putfield 16, 3) := by decide +kernel
theorem dX4_init_24 : decode cX4_init 24 = .ok (.aload_n 0, 1) := by decide +kernel
theorem dX4_init_25 : decode cX4_init 25 = .ok (.iconst 0, 1) := by decide +kernel
theorem dX4_init_26 : decode cX4_init 26 = .ok (.putfield 20, 3) := by decide +kernel
theorem dX4_init_29 : decode cX4_init 29 = .ok (.aload_n 0, 1) := by decide +kernel
theorem dX4_init_30 : decode cX4_init 30 = .ok (.iconst 2, 1) := by decide +kernel
theorem dX4_init_31 : decode cX4_init 31 = .ok (.anewarray 7, 3) := by decide +kernel
theorem dX4_init_34 : decode cX4_init 34 = .ok (.putfield 24, 3) := by decide +kernel
theorem dX4_init_37 : decode cX4_init 37 = .ok (.aload_n 0, 1) := by decide +kernel
theorem dX4_init_38 : decode cX4_init 38 = .ok (.iconst 2, 1) := by decide +kernel
theorem dX4_init_39 : decode cX4_init 39 = .ok (.newarray .boolean, 2) := by decide +kernel
theorem dX4_init_41 : decode cX4_init 41 = .ok (.putfield 27, 3) := by decide +kernel
theorem dX4_init_44 : decode cX4_init 44 = .ok (.aload_n 0, 1) := by decide +kernel
theorem dX4_init_45 : decode cX4_init 45 = .ok (.new 31, 3) := by decide +kernel
theorem dX4_init_48 : decode cX4_init 48 = .ok (.dup, 1) := by decide +kernel
theorem dX4_init_49 : decode cX4_init 49 = .ok (.invokespecial 33, 3) := by decide +kernel
theorem dX4_init_52 : decode cX4_init 52 = .ok (.putfield 34, 3) := by decide +kernel
theorem dX4_init_55 : decode cX4_init 55 = .ok (.aload_n 0, 1) := by decide +kernel
theorem dX4_init_56 : decode cX4_init 56 = .ok (.new 38, 3) := by decide +kernel
theorem dX4_init_59 : decode cX4_init 59 = .ok (.dup, 1) := by decide +kernel
theorem dX4_init_60 : decode cX4_init 60 = .ok (.invokespecial 40, 3) := by decide +kernel
theorem dX4_init_63 : decode cX4_init 63 = .ok (.putfield 41, 3) := by decide +kernel
theorem dX4_init_66 : decode cX4_init 66 = .ok (.iconst 0, 1) := by decide +kernel
theorem dX4_init_67 : decode cX4_init 67 = .ok (.istore_n 1, 1) := by decide +kernel
theorem dX4_init_68 : decode cX4_init 68 = .ok (.iload_n 1, 1) := by decide +kernel
theorem dX4_init_69 : decode cX4_init 69 = .ok (.aload_n 0, 1) := by decide +kernel
theorem dX4_init_70 : decode cX4_init 70 = .ok (.getfield 16, 3) := by decide +kernel
theorem dX4_init_73 : decode cX4_init 73 = .ok (.arraylength, 1) := by decide +kernel
theorem dX4_init_74 : decode cX4_init 74 = .ok (.if_icmp .ge 22, 3) := by decide +kernel
theorem dX4_init_77 : decode cX4_init 77 = .ok (.aload_n 0, 1) := by decide +kernel
theorem dX4_init_78 : decode cX4_init 78 = .ok (.getfield 16, 3) := by decide +kernel
theorem dX4_init_81 : decode cX4_init 81 = .ok (.iload_n 1, 1) := by decide +kernel
theorem dX4_init_82 : decode cX4_init 82 = .ok (.new 7, 3) := by decide +kernel
theorem dX4_init_85 : decode cX4_init 85 = .ok (.dup, 1) := by decide +kernel
theorem dX4_init_86 : decode cX4_init 86 = .ok (.invokespecial 9, 3) := by decide +kernel
theorem dX4_init_89 : decode cX4_init 89 = .ok (.aastore, 1) := by decide +kernel
theorem dX4_init_90 : decode cX4_init 90 = .ok (.iinc 1 1, 3) := by decide +kernel
theorem dX4_init_93 : decode cX4_init 93 = .ok (.goto (-25), 3) := by decide +kernel
theorem dX4_init_96 : decode cX4_init 96 = .ok (.iconst 0, 1) := by decide +kernel
theorem dX4_init_97 : decode cX4_init 97 = .ok (.istore_n 1, 1) := by decide +kernel
theorem dX4_init_98 : decode cX4_init 98 = .ok (.iload_n 1, 1) := by decide +kernel
theorem dX4_init_99 : decode cX4_init 99 = .ok (.aload_n 0, 1) := by decide +kernel
theorem dX4_init_100 : decode cX4_init 100 = .ok (.getfield 24, 3) := by decide +kernel
theorem dX4_init_103 : decode cX4_init 103 = .ok (.arraylength, 1) := by decide +kernel
theorem dX4_init_104 : decode cX4_init 104 = .ok (.if_icmp .ge 22, 3) := by decide +kernel
theorem dX4_init_107 : decode cX4_init 107 = .ok (.aload_n 0, 1) := by decide +kernel
theorem dX4_init_108 : decode cX4_init 108 = .ok (.getfield 24, 3) := by decide +kernel
theorem dX4_init_111 : decode cX4_init 111 = .ok (.iload_n 1, 1) := by decide +kernel
theorem dX4_init_112 : decode cX4_init 112 = .ok (.new 7, 3) := by decide +kernel
theorem dX4_init_115 : decode cX4_init 115 = .ok (.dup, 1) := by decide +kernel
theorem dX4_init_116 : decode cX4_init 116 = .ok (.invokespecial 9, 3) := by decide +kernel
theorem dX4_init_119 : decode cX4_init 119 = .ok (.aastore, 1) := by decide +kernel
theorem dX4_init_120 : decode cX4_init 120 = .ok (.iinc 1 1, 3) := by decide +kernel
theorem dX4_init_123 : decode cX4_init 123 = .ok (.goto (-25), 3) := by decide +kernel
theorem dX4_init_126 : decode cX4_init 126 = .ok (.return_, 1) := by decide +kernel
set_option maxRecDepth 20000 in
theorem ggX4_set_X4_keepState : GoodIn wsX4_set wsX4_keepState := goodIn_r _ [6, 7, 8, 1, 9, 10, 11, 12, 13, 14, 15, 16, 17, 18, 19, 20, 21, 22, 23, 24, 25, 26, 27, 28, 29, 30, 31, 32, 33, 34, 35, 36, 37, 38, 39, 40, 41, 42, 43, 44, 45, 46, 47, 48, 61, 62, 63, 64, 65, 66, 67, 68, 69, 70, 71, 72, 73, 74, 75, 76, 77, 78, 79, 80, 81, 82, 83, 84, 85, 86, 87] (by decide +kernel) (by decide +kernel)
set_option maxRecDepth 20000 in
theorem gX4_set_X4_keepState : GoodIn wsX4_set (wsV RX4 45 RX4 yX4_keepState wsX4_keepState) := goodIn_app (goodIn_of _ (by decide +kernel)) ggX4_set_X4_keepState
set_option maxRecDepth 20000 in
theorem ggX4_set_X3_changeSetting : GoodIn wsX4_set wsX3_changeSetting := goodIn_r _ [52, 14, 68, 69, 70, 71, 72, 73, 74] (by decide +kernel) (by decide +kernel)
set_option maxRecDepth 20000 in
theorem gX4_set_X3_changeSetting : GoodIn wsX4_set (wsV RX4 48 RX3 yX3_changeSetting wsX3_changeSetting) := goodIn_app (goodIn_of _ (by decide +kernel)) ggX4_set_X3_changeSetting
set_option maxRecDepth 20000 in
theorem ggX4_set_X4_recordUnlessError : GoodIn wsX4_set wsX4_recordUnlessError := goodIn_r _ [56, 8, 57, 58, 59, 5, 60, 7, 61, 62, 63, 64, 65, 66, 67] (by decide +kernel) (by decide +kernel)
set_option maxRecDepth 20000 in
theorem gX4_set_X4_recordUnlessError : GoodIn wsX4_set (wsV RX4 52 RX4 yX4_recordUnlessError wsX4_recordUnlessError) := goodIn_app (goodIn_of _ (by decide +kernel)) ggX4_set_X4_recordUnlessError
theorem dX4_set_0 : decode cX4_set 0 = .ok (.aload_n 0, 1) := by decide +kernel
theorem dX4_set_1 : decode cX4_set 1 = .ok (.invokevirtual 45, 3) := by decide +kernel
theorem dX4_set_4 : decode cX4_set 4 = .ok (.aload_n 0, 1) := by decide +kernel
theorem dX4_set_5 : decode cX4_set 5 = .ok (.aload_n 0, 1) := by decide +kernel
theorem dX4_set_6 : decode cX4_set 6 = .ok (.getfield 10, 3) := by decide +kernel
theorem dX4_set_9 : decode cX4_set 9 = .ok (.iload_n 1, 1) := by decide +kernel
theorem dX4_set_10 : decode cX4_set 10 = .ok (.iload_n 2, 1) := by decide +kernel
theorem dX4_set_11 : decode cX4_set 11 = .ok (.invokevirtual 48, 3) := by decide +kernel
theorem dX4_set_14 : decode cX4_set 14 = .ok (.invokevirtual 52, 3) := by decide +kernel
theorem dX4_set_17 : decode cX4_set 17 = .ok (.ireturn, 1) := by decide +kernel
set_option maxRecDepth 20000 in
theorem ggX4_landing_X4_keepState : GoodIn wsX4_landing wsX4_keepState := goodIn_r _ [6, 7, 8, 1, 9, 10, 11, 12, 13, 14, 15, 16, 17, 18, 19, 20, 21, 22, 23, 24, 25, 26, 27, 28, 29, 30, 31, 32, 33, 34, 35, 36, 37, 38, 39, 40, 41, 42, 43, 44, 45, 46, 47, 48, 74, 75, 76, 77, 78, 79, 80, 81, 82, 83, 84, 85, 86, 87, 88, 89, 90, 91, 92, 93, 94, 95, 96, 97, 98, 99, 100] (by decide +kernel) (by decide +kernel)
set_option maxRecDepth 20000 in
theorem gX4_landing_X4_keepState : GoodIn wsX4_landing (wsV RX4 45 RX4 yX4_keepState wsX4_keepState) := goodIn_app (goodIn_of _ (by decide +kernel)) ggX4_landing_X4_keepState
set_option maxRecDepth 20000 in
theorem ggX4_landing_X3_addLanding : GoodIn wsX4_landing wsX3_addLanding := goodIn_r _ [52, 20, 19, 53, 54, 55, 28, 56, 30, 31, 32, 33, 34, 35, 36, 37, 57, 58, 59, 12, 60, 61, 22, 23, 62, 63, 64, 65, 81, 82, 83, 84, 85, 86, 87, 88, 89, 90, 91, 92, 93, 94, 95] (by decide +kernel) (by decide +kernel)
set_option maxRecDepth 20000 in
theorem gX4_landing_X3_addLanding : GoodIn wsX4_landing (wsV RX4 56 RX3 yX3_addLanding wsX3_addLanding) := goodIn_app (goodIn_of _ (by decide +kernel)) ggX4_landing_X3_addLanding
set_option maxRecDepth 20000 in
theorem ggX4_landing_X4_recordUnlessError : GoodIn wsX4_landing wsX4_recordUnlessError := goodIn_r _ [69, 8, 70, 71, 72, 5, 73, 7, 74, 75, 76, 77, 78, 79, 80] (by decide +kernel) (by decide +kernel)
set_option maxRecDepth 20000 in
theorem gX4_landing_X4_recordUnlessError : GoodIn wsX4_landing (wsV RX4 52 RX4 yX4_recordUnlessError wsX4_recordUnlessError) := goodIn_app (goodIn_of _ (by decide +kernel)) ggX4_landing_X4_recordUnlessError
theorem dX4_landing_0 : decode cX4_landing 0 = .ok (.aload_n 0, 1) := by decide +kernel
theorem dX4_landing_1 : decode cX4_landing 1 = .ok (.invokevirtual 45, 3) := by decide +kernel
theorem dX4_landing_4 : decode cX4_landing 4 = .ok (.aload_n 0, 1) := by decide +kernel
theorem dX4_landing_5 : decode cX4_landing 5 = .ok (.aload_n 0, 1) := by decide +kernel
theorem dX4_landing_6 : decode cX4_landing 6 = .ok (.getfield 10, 3) := by decide +kernel
theorem dX4_landing_9 : decode cX4_landing 9 = .ok (.iload_n 1, 1) := by decide +kernel
theorem dX4_landing_10 : decode cX4_landing 10 = .ok (.invokevirtual 56, 3) := by decide +kernel
theorem dX4_landing_13 : decode cX4_landing 13 = .ok (.invokevirtual 52, 3) := by decide +kernel
theorem dX4_landing_16 : decode cX4_landing 16 = .ok (.ireturn, 1) := by decide +kernel
set_option maxRecDepth 20000 in
theorem ggX4_open_X4_keepState : GoodIn wsX4_open wsX4_keepState := goodIn_r _ [6, 7, 8, 1, 9, 10, 11, 12, 13, 14, 15, 16, 17, 18, 19, 20, 21, 22, 23, 24, 25, 26, 27, 28, 29, 30, 31, 32, 33, 34, 35, 36, 37, 38, 39, 40, 41, 42, 43, 44, 45, 46, 47, 48, 98, 99, 100, 101, 102, 103, 104, 105, 106, 107, 108, 109, 110, 111, 112, 113, 114, 115, 116, 117, 118, 119, 120, 121, 122, 123, 124] (by decide +kernel) (by decide +kernel)
set_option maxRecDepth 20000 in
theorem gX4_open_X4_keepState : GoodIn wsX4_open (wsV RX4 45 RX4 yX4_keepState wsX4_keepState) := goodIn_app (goodIn_of _ (by decide +kernel)) ggX4_open_X4_keepState
set_option maxRecDepth 20000 in
theorem ggX4_open_X3_openLanding : GoodIn wsX4_open wsX3_openLanding := goodIn_r _ [52, 53, 54, 55, 56, 12, 57, 20, 19, 58, 59, 60, 61, 24, 21, 62, 63, 64, 65, 41, 66, 43, 48, 45, 46, 47, 67, 68, 69, 70, 71, 72, 73, 74, 14, 75, 76, 77, 28, 78, 36, 32, 79, 80, 33, 34, 37, 81, 82, 83, 84, 85, 22, 23, 86, 87, 88, 89, 30, 112, 113, 114, 115, 116, 117, 118, 119, 105, 106, 107, 108, 109, 110, 111, 120, 121, 122, 123, 124] (by decide +kernel) (by decide +kernel)
set_option maxRecDepth 20000 in
theorem gX4_open_X3_openLanding : GoodIn wsX4_open (wsV RX4 59 RX3 yX3_openLanding wsX3_openLanding) := goodIn_app (goodIn_of _ (by decide +kernel)) ggX4_open_X3_openLanding
set_option maxRecDepth 20000 in
theorem ggX4_open_X4_recordUnlessError : GoodIn wsX4_open wsX4_recordUnlessError := goodIn_r _ [93, 8, 94, 95, 96, 5, 97, 7, 98, 99, 100, 101, 102, 103, 104] (by decide +kernel) (by decide +kernel)
set_option maxRecDepth 20000 in
theorem gX4_open_X4_recordUnlessError : GoodIn wsX4_open (wsV RX4 52 RX4 yX4_recordUnlessError wsX4_recordUnlessError) := goodIn_app (goodIn_of _ (by decide +kernel)) ggX4_open_X4_recordUnlessError
theorem dX4_open_0 : decode cX4_open 0 = .ok (.aload_n 0, 1) := by decide +kernel
theorem dX4_open_1 : decode cX4_open 1 = .ok (.invokevirtual 45, 3) := by decide +kernel
theorem dX4_open_4 : decode cX4_open 4 = .ok (.aload_n 0, 1) := by decide +kernel
theorem dX4_open_5 : decode cX4_open 5 = .ok (.aload_n 0, 1) := by decide +kernel
theorem dX4_open_6 : decode cX4_open 6 = .ok (.getfield 10, 3) := by decide +kernel
theorem dX4_open_9 : decode cX4_open 9 = .ok (.iload_n 1, 1) := by decide +kernel
theorem dX4_open_10 : decode cX4_open 10 = .ok (.invokevirtual 59, 3) := by decide +kernel
theorem dX4_open_13 : decode cX4_open 13 = .ok (.invokevirtual 52, 3) := by decide +kernel
theorem dX4_open_16 : decode cX4_open 16 = .ok (.ireturn, 1) := by decide +kernel
set_option maxRecDepth 20000 in
theorem ggX4_close_X4_keepState : GoodIn wsX4_close wsX4_keepState := goodIn_r _ [6, 7, 8, 1, 9, 10, 11, 12, 13, 14, 15, 16, 17, 18, 19, 20, 21, 22, 23, 24, 25, 26, 27, 28, 29, 30, 31, 32, 33, 34, 35, 36, 37, 38, 39, 40, 41, 42, 43, 44, 45, 46, 47, 48, 98, 99, 100, 101, 102, 103, 104, 105, 106, 107, 108, 109, 110, 111, 112, 113, 114, 115, 116, 117, 118, 119, 120, 121, 122, 123, 124] (by decide +kernel) (by decide +kernel)
set_option maxRecDepth 20000 in
theorem gX4_close_X4_keepState : GoodIn wsX4_close (wsV RX4 45 RX4 yX4_keepState wsX4_keepState) := goodIn_app (goodIn_of _ (by decide +kernel)) ggX4_close_X4_keepState
set_option maxRecDepth 20000 in
theorem ggX4_close_X3_closeLanding : GoodIn wsX4_close wsX3_closeLanding := goodIn_r _ [52, 53, 54, 55, 56, 12, 57, 20, 19, 58, 59, 60, 61, 24, 21, 62, 63, 64, 65, 41, 66, 43, 48, 45, 46, 47, 67, 68, 69, 70, 71, 72, 73, 74, 14, 75, 76, 77, 28, 78, 36, 32, 79, 80, 33, 34, 37, 81, 82, 83, 84, 85, 22, 23, 86, 87, 88, 89, 30, 112, 113, 114, 115, 116, 117, 118, 119, 105, 106, 107, 108, 109, 110, 111, 120, 121, 122, 123, 124] (by decide +kernel) (by decide +kernel)
set_option maxRecDepth 20000 in
theorem gX4_close_X3_closeLanding : GoodIn wsX4_close (wsV RX4 62 RX3 yX3_closeLanding wsX3_closeLanding) := goodIn_app (goodIn_of _ (by decide +kernel)) ggX4_close_X3_closeLanding
set_option maxRecDepth 20000 in
theorem ggX4_close_X4_recordUnlessError : GoodIn wsX4_close wsX4_recordUnlessError := goodIn_r _ [93, 8, 94, 95, 96, 5, 97, 7, 98, 99, 100, 101, 102, 103, 104] (by decide +kernel) (by decide +kernel)
set_option maxRecDepth 20000 in
theorem gX4_close_X4_recordUnlessError : GoodIn wsX4_close (wsV RX4 52 RX4 yX4_recordUnlessError wsX4_recordUnlessError) := goodIn_app (goodIn_of _ (by decide +kernel)) ggX4_close_X4_recordUnlessError
theorem dX4_close_0 : decode cX4_close 0 = .ok (.aload_n 0, 1) := by decide +kernel
theorem dX4_close_1 : decode cX4_close 1 = .ok (.invokevirtual 45, 3) := by decide +kernel
theorem dX4_close_4 : decode cX4_close 4 = .ok (.aload_n 0, 1) := by decide +kernel
theorem dX4_close_5 : decode cX4_close 5 = .ok (.aload_n 0, 1) := by decide +kernel
theorem dX4_close_6 : decode cX4_close 6 = .ok (.getfield 10, 3) := by decide +kernel
theorem dX4_close_9 : decode cX4_close 9 = .ok (.iload_n 1, 1) := by decide +kernel
theorem dX4_close_10 : decode cX4_close 10 = .ok (.invokevirtual 62, 3) := by decide +kernel
theorem dX4_close_13 : decode cX4_close 13 = .ok (.invokevirtual 52, 3) := by decide +kernel
theorem dX4_close_16 : decode cX4_close 16 = .ok (.ireturn, 1) := by decide +kernel
set_option maxRecDepth 20000 in
theorem ggX4_price_X4_keepState : GoodIn wsX4_price wsX4_keepState := goodIn_r _ [6, 7, 8, 1, 9, 10, 11, 12, 13, 14, 15, 16, 17, 18, 19, 20, 21, 22, 23, 24, 25, 26, 27, 28, 29, 30, 31, 32, 33, 34, 35, 36, 37, 38, 39, 40, 41, 42, 43, 44, 45, 46, 47, 48, 97, 98, 99, 100, 101, 102, 103, 104, 105, 106, 107, 108, 109, 110, 111, 112, 113, 114, 115, 116, 117, 118, 119, 120, 121, 122, 123] (by decide +kernel) (by decide +kernel)
set_option maxRecDepth 20000 in
theorem gX4_price_X4_keepState : GoodIn wsX4_price (wsV RX4 45 RX4 yX4_keepState wsX4_keepState) := goodIn_app (goodIn_of _ (by decide +kernel)) ggX4_price_X4_keepState
set_option maxRecDepth 20000 in
theorem ggX4_price_X3_changePrice : GoodIn wsX4_price wsX3_changePrice := goodIn_r _ [52, 53, 54, 55, 56, 12, 57, 20, 19, 58, 59, 60, 61, 24, 21, 62, 63, 64, 65, 41, 66, 43, 48, 45, 46, 47, 67, 68, 69, 70, 71, 72, 73, 74, 14, 75, 76, 77, 28, 78, 36, 32, 79, 80, 33, 34, 37, 81, 82, 83, 84, 22, 23, 85, 86, 87, 88, 30, 111, 112, 113, 114, 115, 116, 117, 118, 104, 105, 106, 107, 108, 109, 110, 119, 120, 121, 122, 123] (by decide +kernel) (by decide +kernel)
set_option maxRecDepth 20000 in
theorem gX4_price_X3_changePrice : GoodIn wsX4_price (wsV RX4 65 RX3 yX3_changePrice wsX3_changePrice) := goodIn_app (goodIn_of _ (by decide +kernel)) ggX4_price_X3_changePrice
set_option maxRecDepth 20000 in
theorem ggX4_price_X4_recordUnlessError : GoodIn wsX4_price wsX4_recordUnlessError := goodIn_r _ [92, 8, 93, 94, 95, 5, 96, 7, 97, 98, 99, 100, 101, 102, 103] (by decide +kernel) (by decide +kernel)
set_option maxRecDepth 20000 in
theorem gX4_price_X4_recordUnlessError : GoodIn wsX4_price (wsV RX4 52 RX4 yX4_recordUnlessError wsX4_recordUnlessError) := goodIn_app (goodIn_of _ (by decide +kernel)) ggX4_price_X4_recordUnlessError
theorem dX4_price_0 : decode cX4_price 0 = .ok (.aload_n 0, 1) := by decide +kernel
theorem dX4_price_1 : decode cX4_price 1 = .ok (.invokevirtual 45, 3) := by decide +kernel
theorem dX4_price_4 : decode cX4_price 4 = .ok (.aload_n 0, 1) := by decide +kernel
theorem dX4_price_5 : decode cX4_price 5 = .ok (.aload_n 0, 1) := by decide +kernel
theorem dX4_price_6 : decode cX4_price 6 = .ok (.getfield 10, 3) := by decide +kernel
theorem dX4_price_9 : decode cX4_price 9 = .ok (.iload_n 1, 1) := by decide +kernel
theorem dX4_price_10 : decode cX4_price 10 = .ok (.iload_n 2, 1) := by decide +kernel
theorem dX4_price_11 : decode cX4_price 11 = .ok (.invokevirtual 65, 3) := by decide +kernel
theorem dX4_price_14 : decode cX4_price 14 = .ok (.invokevirtual 52, 3) := by decide +kernel
theorem dX4_price_17 : decode cX4_price 17 = .ok (.ireturn, 1) := by decide +kernel
set_option maxRecDepth 20000 in
theorem ggX4_pass_X4_keepState : GoodIn wsX4_pass wsX4_keepState := goodIn_r _ [6, 7, 8, 1, 9, 10, 11, 12, 13, 14, 15, 16, 17, 18, 19, 20, 21, 22, 23, 24, 25, 26, 27, 28, 29, 30, 31, 32, 33, 34, 35, 36, 37, 38, 39, 40, 41, 42, 43, 44, 45, 46, 47, 48, 92, 93, 94, 95, 96, 97, 98, 99, 100, 101, 102, 103, 104, 105, 106, 107, 108, 109, 110, 111, 112, 113, 114, 115, 116, 117, 118] (by decide +kernel) (by decide +kernel)
set_option maxRecDepth 20000 in
theorem gX4_pass_X4_keepState : GoodIn wsX4_pass (wsV RX4 45 RX4 yX4_keepState wsX4_keepState) := goodIn_app (goodIn_of _ (by decide +kernel)) ggX4_pass_X4_keepState
set_option maxRecDepth 20000 in
theorem ggX4_pass_X3_passMinutes : GoodIn wsX4_pass wsX3_passMinutes := goodIn_r _ [52, 21, 53, 54, 55, 56, 12, 57, 20, 19, 24, 58, 59, 60, 61, 14, 62, 63, 64, 28, 65, 35, 32, 33, 34, 66, 67, 68, 69, 70, 71, 72, 41, 73, 43, 48, 45, 46, 47, 74, 75, 76, 77, 78, 79, 22, 23, 80, 81, 82, 83, 30, 99, 100, 101, 102, 103, 104, 105, 106, 107, 108, 109, 110, 111, 112, 113, 114, 115, 116, 117, 118] (by decide +kernel) (by decide +kernel)
set_option maxRecDepth 20000 in
theorem gX4_pass_X3_passMinutes : GoodIn wsX4_pass (wsV RX4 68 RX3 yX3_passMinutes wsX3_passMinutes) := goodIn_app (goodIn_of _ (by decide +kernel)) ggX4_pass_X3_passMinutes
set_option maxRecDepth 20000 in
theorem ggX4_pass_X4_recordUnlessError : GoodIn wsX4_pass wsX4_recordUnlessError := goodIn_r _ [87, 8, 88, 89, 90, 5, 91, 7, 92, 93, 94, 95, 96, 97, 98] (by decide +kernel) (by decide +kernel)
set_option maxRecDepth 20000 in
theorem gX4_pass_X4_recordUnlessError : GoodIn wsX4_pass (wsV RX4 52 RX4 yX4_recordUnlessError wsX4_recordUnlessError) := goodIn_app (goodIn_of _ (by decide +kernel)) ggX4_pass_X4_recordUnlessError
theorem dX4_pass_0 : decode cX4_pass 0 = .ok (.aload_n 0, 1) := by decide +kernel
theorem dX4_pass_1 : decode cX4_pass 1 = .ok (.invokevirtual 45, 3) := by decide +kernel
theorem dX4_pass_4 : decode cX4_pass 4 = .ok (.aload_n 0, 1) := by decide +kernel
theorem dX4_pass_5 : decode cX4_pass 5 = .ok (.aload_n 0, 1) := by decide +kernel
theorem dX4_pass_6 : decode cX4_pass 6 = .ok (.getfield 10, 3) := by decide +kernel
theorem dX4_pass_9 : decode cX4_pass 9 = .ok (.iload_n 1, 1) := by decide +kernel
theorem dX4_pass_10 : decode cX4_pass 10 = .ok (.invokevirtual 68, 3) := by decide +kernel
theorem dX4_pass_13 : decode cX4_pass 13 = .ok (.invokevirtual 52, 3) := by decide +kernel
theorem dX4_pass_16 : decode cX4_pass 16 = .ok (.ireturn, 1) := by decide +kernel
set_option maxRecDepth 20000 in
theorem ggX4_of_X3_find : GoodIn wsX4_of wsX3_find := goodIn_r _ [6, 7, 8, 29, 30, 31, 32, 33, 34, 35] (by decide +kernel) (by decide +kernel)
set_option maxRecDepth 20000 in
theorem gX4_of_X3_find : GoodIn wsX4_of (wsV RX4 71 RX3 yX3_find wsX3_find) := goodIn_app (goodIn_of _ (by decide +kernel)) ggX4_of_X3_find
set_option maxRecDepth 20000 in
theorem ggX4_of_X1_tell : GoodIn wsX4_of wsX1_tell := goodIn_r _ [13, 14, 15, 16, 17, 18, 19, 20, 21, 36, 37, 38, 39, 40, 41, 42, 43] (by decide +kernel) (by decide +kernel)
set_option maxRecDepth 20000 in
theorem gX4_of_X1_tell : GoodIn wsX4_of (wsV RX4 75 RX1 yX1_tell wsX1_tell) := goodIn_app (goodIn_of _ (by decide +kernel)) ggX4_of_X1_tell
theorem dX4_of_0 : decode cX4_of 0 = .ok (.aload_n 0, 1) := by decide +kernel
theorem dX4_of_1 : decode cX4_of 1 = .ok (.getfield 10, 3) := by decide +kernel
theorem dX4_of_4 : decode cX4_of 4 = .ok (.iload_n 1, 1) := by decide +kernel
theorem dX4_of_5 : decode cX4_of 5 = .ok (.invokevirtual 71, 3) := by decide +kernel
theorem dX4_of_8 : decode cX4_of 8 = .ok (.astore_n 3, 1) := by decide +kernel
theorem dX4_of_9 : decode cX4_of 9 = .ok (.aload_n 3, 1) := by decide +kernel
theorem dX4_of_10 : decode cX4_of 10 = .ok (.ifnonnull 7, 3) := by decide +kernel
theorem dX4_of_13 : decode cX4_of 13 = .ok (.iconst (-1), 1) := by decide +kernel
theorem dX4_of_14 : decode cX4_of 14 = .ok (.goto 8, 3) := by decide +kernel
theorem dX4_of_17 : decode cX4_of 17 = .ok (.aload_n 3, 1) := by decide +kernel
theorem dX4_of_18 : decode cX4_of 18 = .ok (.iload_n 2, 1) := by decide +kernel
theorem dX4_of_19 : decode cX4_of 19 = .ok (.invokevirtual 75, 3) := by decide +kernel
theorem dX4_of_22 : decode cX4_of 22 = .ok (.ireturn, 1) := by decide +kernel
set_option maxRecDepth 20000 in
theorem ggX4_count_X3_tell : GoodIn wsX4_count wsX3_tell := goodIn_r _ [9, 10, 11, 12, 13, 14, 15, 16, 17, 18, 19, 8, 20, 21, 22, 23, 24, 25, 26, 27, 41, 42, 43, 44, 45, 46, 47, 48, 49, 50, 51, 52, 53, 54, 55, 56, 57, 58, 59, 60] (by decide +kernel) (by decide +kernel)
set_option maxRecDepth 20000 in
theorem gX4_count_X3_tell : GoodIn wsX4_count (wsV RX4 81 RX3 yX3_tell wsX3_tell) := goodIn_app (goodIn_of _ (by decide +kernel)) ggX4_count_X3_tell
theorem dX4_count_0 : decode cX4_count 0 = .ok (.iload_n 1, 1) := by decide +kernel
theorem dX4_count_1 : decode cX4_count 1 = .ok (.bipush 14, 2) := by decide +kernel
theorem dX4_count_3 : decode cX4_count 3 = .ok (.if_icmp .ne 11, 3) := by decide +kernel
theorem dX4_count_6 : decode cX4_count 6 = .ok (.aload_n 0, 1) := by decide +kernel
theorem dX4_count_7 : decode cX4_count 7 = .ok (.getfield 34, 3) := by decide +kernel
theorem dX4_count_10 : decode cX4_count 10 = .ok (.getfield 78, 3) := by decide +kernel
theorem dX4_count_13 : decode cX4_count 13 = .ok (.ireturn, 1) := by decide +kernel
theorem dX4_count_14 : decode cX4_count 14 = .ok (.iload_n 1, 1) := by decide +kernel
theorem dX4_count_15 : decode cX4_count 15 = .ok (.bipush 15, 2) := by decide +kernel
theorem dX4_count_17 : decode cX4_count 17 = .ok (.if_icmp .ne 8, 3) := by decide +kernel
theorem dX4_count_20 : decode cX4_count 20 = .ok (.aload_n 0, 1) := by decide +kernel
theorem dX4_count_21 : decode cX4_count 21 = .ok (.getfield 20, 3) := by decide +kernel
theorem dX4_count_24 : decode cX4_count 24 = .ok (.ireturn, 1) := by decide +kernel
theorem dX4_count_25 : decode cX4_count 25 = .ok (.aload_n 0, 1) := by decide +kernel
theorem dX4_count_26 : decode cX4_count 26 = .ok (.getfield 10, 3) := by decide +kernel
theorem dX4_count_29 : decode cX4_count 29 = .ok (.iload_n 1, 1) := by decide +kernel
theorem dX4_count_30 : decode cX4_count 30 = .ok (.invokevirtual 81, 3) := by decide +kernel
theorem dX4_count_33 : decode cX4_count 33 = .ok (.ireturn, 1) := by decide +kernel
set_option maxRecDepth 20000 in
theorem ggX4_choice_X3_chosen : GoodIn wsX4_choice wsX3_chosen := goodIn_r _ [6, 7, 8, 9, 10, 11, 12, 13, 14, 15, 16, 17, 18, 5, 19, 20, 28, 29, 30, 31, 32, 33, 34, 35, 36, 37, 38, 39, 40, 41, 42] (by decide +kernel) (by decide +kernel)
set_option maxRecDepth 20000 in
theorem gX4_choice_X3_chosen : GoodIn wsX4_choice (wsV RX4 82 RX3 yX3_chosen wsX3_chosen) := goodIn_app (goodIn_of _ (by decide +kernel)) ggX4_choice_X3_chosen
theorem dX4_choice_0 : decode cX4_choice 0 = .ok (.aload_n 0, 1) := by decide +kernel
theorem dX4_choice_1 : decode cX4_choice 1 = .ok (.getfield 10, 3) := by decide +kernel
theorem dX4_choice_4 : decode cX4_choice 4 = .ok (.iload_n 1, 1) := by decide +kernel
theorem dX4_choice_5 : decode cX4_choice 5 = .ok (.invokevirtual 82, 3) := by decide +kernel
theorem dX4_choice_8 : decode cX4_choice 8 = .ok (.ireturn, 1) := by decide +kernel
set_option maxRecDepth 20000 in
theorem ggX4_log_X0_tell : GoodIn wsX4_log wsX0_tell := goodIn_r _ [7, 8, 9, 10, 11, 12, 27, 28, 29, 30, 31] (by decide +kernel) (by decide +kernel)
set_option maxRecDepth 20000 in
theorem gX4_log_X0_tell : GoodIn wsX4_log (wsV RX4 89 RX0 yX0_tell wsX0_tell) := goodIn_app (goodIn_of _ (by decide +kernel)) ggX4_log_X0_tell
theorem dX4_log_0 : decode cX4_log 0 = .ok (.aload_n 0, 1) := by decide +kernel
theorem dX4_log_1 : decode cX4_log 1 = .ok (.getfield 10, 3) := by decide +kernel
theorem dX4_log_4 : decode cX4_log 4 = .ok (.getfield 85, 3) := by decide +kernel
theorem dX4_log_7 : decode cX4_log 7 = .ok (.iload_n 1, 1) := by decide +kernel
theorem dX4_log_8 : decode cX4_log 8 = .ok (.iload_n 2, 1) := by decide +kernel
theorem dX4_log_9 : decode cX4_log 9 = .ok (.invokevirtual 89, 3) := by decide +kernel
theorem dX4_log_12 : decode cX4_log 12 = .ok (.ireturn, 1) := by decide +kernel
set_option maxRecDepth 20000 in
theorem ggX4_why_X3_find : GoodIn wsX4_why wsX3_find := goodIn_r _ [9, 10, 11, 19, 20, 21, 22, 23, 24, 25] (by decide +kernel) (by decide +kernel)
set_option maxRecDepth 20000 in
theorem gX4_why_X3_find : GoodIn wsX4_why (wsV RX4 71 RX3 yX3_find wsX3_find) := goodIn_app (goodIn_of _ (by decide +kernel)) ggX4_why_X3_find
theorem dX4_why_0 : decode cX4_why 0 = .ok (.aload_n 0, 1) := by decide +kernel
theorem dX4_why_1 : decode cX4_why 1 = .ok (.getfield 10, 3) := by decide +kernel
theorem dX4_why_4 : decode cX4_why 4 = .ok (.iload_n 1, 1) := by decide +kernel
theorem dX4_why_5 : decode cX4_why 5 = .ok (.invokevirtual 71, 3) := by decide +kernel
theorem dX4_why_8 : decode cX4_why 8 = .ok (.astore_n 2, 1) := by decide +kernel
theorem dX4_why_9 : decode cX4_why 9 = .ok (.aload_n 2, 1) := by decide +kernel
theorem dX4_why_10 : decode cX4_why 10 = .ok (.ifnonnull 5, 3) := by decide +kernel
theorem dX4_why_13 : decode cX4_why 13 = .ok (.iconst (-1), 1) := by decide +kernel
theorem dX4_why_14 : decode cX4_why 14 = .ok (.ireturn, 1) := by decide +kernel
theorem dX4_why_15 : decode cX4_why 15 = .ok (.iload_n 1, 1) := by decide +kernel
theorem dX4_why_16 : decode cX4_why 16 = .ok (.aload_n 0, 1) := by decide +kernel
theorem dX4_why_17 : decode cX4_why 17 = .ok (.getfield 10, 3) := by decide +kernel
theorem dX4_why_20 : decode cX4_why 20 = .ok (.getfield 93, 3) := by decide +kernel
theorem dX4_why_23 : decode cX4_why 23 = .ok (.if_icmp .ne 5, 3) := by decide +kernel
theorem dX4_why_26 : decode cX4_why 26 = .ok (.iconst 0, 1) := by decide +kernel
theorem dX4_why_27 : decode cX4_why 27 = .ok (.ireturn, 1) := by decide +kernel
theorem dX4_why_28 : decode cX4_why 28 = .ok (.aload_n 2, 1) := by decide +kernel
theorem dX4_why_29 : decode cX4_why 29 = .ok (.getfield 96, 3) := by decide +kernel
theorem dX4_why_32 : decode cX4_why 32 = .ok (.ifCond .ne 5, 3) := by decide +kernel
theorem dX4_why_35 : decode cX4_why 35 = .ok (.iconst 1, 1) := by decide +kernel
theorem dX4_why_36 : decode cX4_why 36 = .ok (.ireturn, 1) := by decide +kernel
theorem dX4_why_37 : decode cX4_why 37 = .ok (.aload_n 2, 1) := by decide +kernel
theorem dX4_why_38 : decode cX4_why 38 = .ok (.getfield 100, 3) := by decide +kernel
theorem dX4_why_41 : decode cX4_why 41 = .ok (.ifCond .eq 7, 3) := by decide +kernel
theorem dX4_why_44 : decode cX4_why 44 = .ok (.iconst 2, 1) := by decide +kernel
theorem dX4_why_45 : decode cX4_why 45 = .ok (.goto 4, 3) := by decide +kernel
theorem dX4_why_48 : decode cX4_why 48 = .ok (.iconst 3, 1) := by decide +kernel
theorem dX4_why_49 : decode cX4_why 49 = .ok (.ireturn, 1) := by decide +kernel
set_option maxRecDepth 20000 in
theorem ggX4_welcomeIn_X3_find : GoodIn wsX4_welcomeIn wsX3_find := goodIn_r _ [8, 9, 10, 52, 53, 54, 55, 56, 57, 58] (by decide +kernel) (by decide +kernel)
set_option maxRecDepth 20000 in
theorem gX4_welcomeIn_X3_find : GoodIn wsX4_welcomeIn (wsV RX4 71 RX3 yX3_find wsX3_find) := goodIn_app (goodIn_of _ (by decide +kernel)) ggX4_welcomeIn_X3_find
set_option maxRecDepth 20000 in
theorem ggX4_welcomeIn_X1_copyFrom : GoodIn wsX4_welcomeIn wsX1_copyFrom := goodIn_r _ [15, 16, 17, 18, 19, 20, 21, 22, 23, 44, 45, 46, 47, 48, 49, 50, 51] (by decide +kernel) (by decide +kernel)
set_option maxRecDepth 20000 in
theorem gX4_welcomeIn_X1_copyFrom : GoodIn wsX4_welcomeIn (wsV RX4 103 RX1 yX1_copyFrom wsX1_copyFrom) := goodIn_app (goodIn_of _ (by decide +kernel)) ggX4_welcomeIn_X1_copyFrom
set_option maxRecDepth 20000 in
theorem ggX4_welcomeIn_X3_passMinuteOf : GoodIn wsX4_welcomeIn wsX3_passMinuteOf := goodIn_r _ [27, 28, 29, 30, 31, 14, 32, 21, 18, 19, 20, 33, 34, 35, 36, 52, 53, 54, 55, 56, 57, 58, 44, 45, 46, 47, 48, 49, 50, 51] (by decide +kernel) (by decide +kernel)
set_option maxRecDepth 20000 in
theorem gX4_welcomeIn_X3_passMinuteOf : GoodIn wsX4_welcomeIn (wsV RX4 107 RX3 yX3_passMinuteOf wsX3_passMinuteOf) := goodIn_app (goodIn_of _ (by decide +kernel)) ggX4_welcomeIn_X3_passMinuteOf
theorem dX4_welcomeIn_0 : decode cX4_welcomeIn 0 = .ok (.aload_n 0, 1) := by decide +kernel
theorem dX4_welcomeIn_1 : decode cX4_welcomeIn 1 = .ok (.getfield 10, 3) := by decide +kernel
theorem dX4_welcomeIn_4 : decode cX4_welcomeIn 4 = .ok (.iload_n 1, 1) := by decide +kernel
theorem dX4_welcomeIn_5 : decode cX4_welcomeIn 5 = .ok (.invokevirtual 71, 3) := by decide +kernel
theorem dX4_welcomeIn_8 : decode cX4_welcomeIn 8 = .ok (.astore_n 2, 1) := by decide +kernel
theorem dX4_welcomeIn_9 : decode cX4_welcomeIn 9 = .ok (.aload_n 2, 1) := by decide +kernel
theorem dX4_welcomeIn_10 : decode cX4_welcomeIn 10 = .ok (.ifnonnull 5, 3) := by decide +kernel
theorem dX4_welcomeIn_13 : decode cX4_welcomeIn 13 = .ok (.iconst (-1), 1) := by decide +kernel
theorem dX4_welcomeIn_14 : decode cX4_welcomeIn 14 = .ok (.ireturn, 1) := by decide +kernel
theorem dX4_welcomeIn_15 : decode cX4_welcomeIn 15 = .ok (.aload_n 0, 1) := by decide +kernel
theorem dX4_welcomeIn_16 : decode cX4_welcomeIn 16 = .ok (.getfield 41, 3) := by decide +kernel
theorem dX4_welcomeIn_19 : decode cX4_welcomeIn 19 = .ok (.aload_n 2, 1) := by decide +kernel
theorem dX4_welcomeIn_20 : decode cX4_welcomeIn 20 = .ok (.invokevirtual 103, 3) := by decide +kernel
theorem dX4_welcomeIn_23 : decode cX4_welcomeIn 23 = .ok (.iconst 0, 1) := by decide +kernel
theorem dX4_welcomeIn_24 : decode cX4_welcomeIn 24 = .ok (.istore_n 3, 1) := by decide +kernel
theorem dX4_welcomeIn_25 : decode cX4_welcomeIn 25 = .ok (.aload_n 0, 1) := by decide +kernel
theorem dX4_welcomeIn_26 : decode cX4_welcomeIn 26 = .ok (.getfield 41, 3) := by decide +kernel
theorem dX4_welcomeIn_29 : decode cX4_welcomeIn 29 = .ok (.getfield 100, 3) := by decide +kernel
theorem dX4_welcomeIn_32 : decode cX4_welcomeIn 32 = .ok (.ifCond .eq 28, 3) := by decide +kernel
theorem dX4_welcomeIn_35 : decode cX4_welcomeIn 35 = .ok (.iload_n 3, 1) := by decide +kernel
theorem dX4_welcomeIn_36 : decode cX4_welcomeIn 36 = .ok (.sipush 999, 3) := by decide +kernel
theorem dX4_welcomeIn_39 : decode cX4_welcomeIn 39 = .ok (.if_icmp .ge 21, 3) := by decide +kernel
theorem dX4_welcomeIn_42 : decode cX4_welcomeIn 42 = .ok (.aload_n 0, 1) := by decide +kernel
theorem dX4_welcomeIn_43 : decode cX4_welcomeIn 43 = .ok (.getfield 10, 3) := by decide +kernel
theorem dX4_welcomeIn_46 : decode cX4_welcomeIn 46 = .ok (.aload_n 0, 1) := by decide +kernel
theorem dX4_welcomeIn_47 : decode cX4_welcomeIn 47 = .ok (.getfield 41, 3) := by decide +kernel
theorem dX4_welcomeIn_50 : decode cX4_welcomeIn 50 = .ok (.invokevirtual 107, 3) := by decide +kernel
theorem dX4_welcomeIn_53 : decode cX4_welcomeIn 53 = .ok (.pop, 1) := by decide +kernel
theorem dX4_welcomeIn_54 : decode cX4_welcomeIn 54 = .ok (.iinc 3 1, 3) := by decide +kernel
theorem dX4_welcomeIn_57 : decode cX4_welcomeIn 57 = .ok (.goto (-32), 3) := by decide +kernel
theorem dX4_welcomeIn_60 : decode cX4_welcomeIn 60 = .ok (.iload_n 3, 1) := by decide +kernel
theorem dX4_welcomeIn_61 : decode cX4_welcomeIn 61 = .ok (.ireturn, 1) := by decide +kernel
set_option maxRecDepth 20000 in
theorem ggX4_mayChange_X3_find : GoodIn wsX4_mayChange wsX3_find := goodIn_r _ [9, 10, 11, 54, 55, 56, 57, 58, 59, 60] (by decide +kernel) (by decide +kernel)
set_option maxRecDepth 20000 in
theorem gX4_mayChange_X3_find : GoodIn wsX4_mayChange (wsV RX4 71 RX3 yX3_find wsX3_find) := goodIn_app (goodIn_of _ (by decide +kernel)) ggX4_mayChange_X3_find
set_option maxRecDepth 20000 in
theorem ggX4_mayChange_X1_copyFrom : GoodIn wsX4_mayChange wsX1_copyFrom := goodIn_r _ [16, 17, 18, 19, 20, 21, 22, 23, 24, 46, 47, 48, 49, 50, 51, 52, 53] (by decide +kernel) (by decide +kernel)
set_option maxRecDepth 20000 in
theorem gX4_mayChange_X1_copyFrom : GoodIn wsX4_mayChange (wsV RX4 103 RX1 yX1_copyFrom wsX1_copyFrom) := goodIn_app (goodIn_of _ (by decide +kernel)) ggX4_mayChange_X1_copyFrom
set_option maxRecDepth 20000 in
theorem ggX4_mayChange_X3_fineBySort : GoodIn wsX4_mayChange wsX3_fineBySort := goodIn_r _ [28, 29, 30, 31, 32, 15, 33, 23, 19, 34, 35, 36, 37, 38, 20, 21, 24, 54, 55, 56, 57, 58, 59, 60, 46, 47, 48, 49, 50, 51, 52, 53] (by decide +kernel) (by decide +kernel)
set_option maxRecDepth 20000 in
theorem gX4_mayChange_X3_fineBySort : GoodIn wsX4_mayChange (wsV RX4 111 RX3 yX3_fineBySort wsX3_fineBySort) := goodIn_app (goodIn_of _ (by decide +kernel)) ggX4_mayChange_X3_fineBySort
theorem dX4_mayChange_0 : decode cX4_mayChange 0 = .ok (.aload_n 0, 1) := by decide +kernel
theorem dX4_mayChange_1 : decode cX4_mayChange 1 = .ok (.getfield 10, 3) := by decide +kernel
theorem dX4_mayChange_4 : decode cX4_mayChange 4 = .ok (.iload_n 1, 1) := by decide +kernel
theorem dX4_mayChange_5 : decode cX4_mayChange 5 = .ok (.invokevirtual 71, 3) := by decide +kernel
theorem dX4_mayChange_8 : decode cX4_mayChange 8 = .ok (.astore_n 2, 1) := by decide +kernel
theorem dX4_mayChange_9 : decode cX4_mayChange 9 = .ok (.aload_n 2, 1) := by decide +kernel
theorem dX4_mayChange_10 : decode cX4_mayChange 10 = .ok (.ifnonnull 5, 3) := by decide +kernel
theorem dX4_mayChange_13 : decode cX4_mayChange 13 = .ok (.iconst (-1), 1) := by decide +kernel
theorem dX4_mayChange_14 : decode cX4_mayChange 14 = .ok (.ireturn, 1) := by decide +kernel
theorem dX4_mayChange_15 : decode cX4_mayChange 15 = .ok (.aload_n 2, 1) := by decide +kernel
theorem dX4_mayChange_16 : decode cX4_mayChange 16 = .ok (.getfield 100, 3) := by decide +kernel
theorem dX4_mayChange_19 : decode cX4_mayChange 19 = .ok (.ifCond .eq 5, 3) := by decide +kernel
theorem dX4_mayChange_22 : decode cX4_mayChange 22 = .ok (.iconst 0, 1) := by decide +kernel
theorem dX4_mayChange_23 : decode cX4_mayChange 23 = .ok (.ireturn, 1) := by decide +kernel
theorem dX4_mayChange_24 : decode cX4_mayChange 24 = .ok (.aload_n 0, 1) := by decide +kernel
theorem dX4_mayChange_25 : decode cX4_mayChange 25 = .ok (.getfield 41, 3) := by decide +kernel
theorem dX4_mayChange_28 : decode cX4_mayChange 28 = .ok (.aload_n 2, 1) := by decide +kernel
theorem dX4_mayChange_29 : decode cX4_mayChange 29 = .ok (.invokevirtual 103, 3) := by decide +kernel
theorem dX4_mayChange_32 : decode cX4_mayChange 32 = .ok (.iconst 1, 1) := by decide +kernel
theorem dX4_mayChange_33 : decode cX4_mayChange 33 = .ok (.istore_n 3, 1) := by decide +kernel
theorem dX4_mayChange_34 : decode cX4_mayChange 34 = .ok (.iload_n 3, 1) := by decide +kernel
theorem dX4_mayChange_35 : decode cX4_mayChange 35 = .ok (.bipush 100, 2) := by decide +kernel
theorem dX4_mayChange_37 : decode cX4_mayChange 37 = .ok (.if_icmp .gt 62, 3) := by decide +kernel
theorem dX4_mayChange_40 : decode cX4_mayChange 40 = .ok (.aload_n 0, 1) := by decide +kernel
theorem dX4_mayChange_41 : decode cX4_mayChange 41 = .ok (.getfield 41, 3) := by decide +kernel
theorem dX4_mayChange_44 : decode cX4_mayChange 44 = .ok (.aload_n 0, 1) := by decide +kernel
theorem dX4_mayChange_45 : decode cX4_mayChange 45 = .ok (.getfield 41, 3) := by decide +kernel
theorem dX4_mayChange_48 : decode cX4_mayChange 48 = .ok (.getfield 96, 3) := by decide +kernel
theorem dX4_mayChange_51 : decode cX4_mayChange 51 = .ok (.ifCond .ne 7, 3) := by decide +kernel
theorem dX4_mayChange_54 : decode cX4_mayChange 54 = .ok (.iconst 1, 1) := by decide +kernel
theorem dX4_mayChange_55 : decode cX4_mayChange 55 = .ok (.goto 4, 3) := by decide +kernel
theorem dX4_mayChange_58 : decode cX4_mayChange 58 = .ok (.iconst 0, 1) := by decide +kernel
theorem dX4_mayChange_59 : decode cX4_mayChange 59 = .ok (.putfield 96, 3) := by decide +kernel
theorem dX4_mayChange_62 : decode cX4_mayChange 62 = .ok (.aload_n 0, 1) := by decide +kernel
theorem dX4_mayChange_63 : decode cX4_mayChange 63 = .ok (.getfield 10, 3) := by decide +kernel
theorem dX4_mayChange_66 : decode cX4_mayChange 66 = .ok (.aload_n 0, 1) := by decide +kernel
theorem dX4_mayChange_67 : decode cX4_mayChange 67 = .ok (.getfield 41, 3) := by decide +kernel
theorem dX4_mayChange_70 : decode cX4_mayChange 70 = .ok (.aload_n 0, 1) := by decide +kernel
theorem dX4_mayChange_71 : decode cX4_mayChange 71 = .ok (.getfield 41, 3) := by decide +kernel
theorem dX4_mayChange_74 : decode cX4_mayChange 74 = .ok (.getfield 96, 3) := by decide +kernel
theorem dX4_mayChange_77 : decode cX4_mayChange 77 = .ok (.ifCond .eq 7, 3) := by decide +kernel
theorem dX4_mayChange_80 : decode cX4_mayChange 80 = .ok (.iconst 1, 1) := by decide +kernel
theorem dX4_mayChange_81 : decode cX4_mayChange 81 = .ok (.goto 4, 3) := by decide +kernel
theorem dX4_mayChange_84 : decode cX4_mayChange 84 = .ok (.iconst 0, 1) := by decide +kernel
theorem dX4_mayChange_85 : decode cX4_mayChange 85 = .ok (.invokevirtual 111, 3) := by decide +kernel
theorem dX4_mayChange_88 : decode cX4_mayChange 88 = .ok (.ifCond .eq 5, 3) := by decide +kernel
theorem dX4_mayChange_91 : decode cX4_mayChange 91 = .ok (.iload_n 3, 1) := by decide +kernel
theorem dX4_mayChange_92 : decode cX4_mayChange 92 = .ok (.ireturn, 1) := by decide +kernel
theorem dX4_mayChange_93 : decode cX4_mayChange 93 = .ok (.iinc 3 1, 3) := by decide +kernel
theorem dX4_mayChange_96 : decode cX4_mayChange 96 = .ok (.goto (-62), 3) := by decide +kernel
theorem dX4_mayChange_99 : decode cX4_mayChange 99 = .ok (.bipush (-6), 2) := by decide +kernel
theorem dX4_mayChange_101 : decode cX4_mayChange 101 = .ok (.ireturn, 1) := by decide +kernel
set_option maxRecDepth 20000 in
theorem ggX4_fineIn_X3_find : GoodIn wsX4_fineIn wsX3_find := goodIn_r _ [8, 9, 10, 52, 53, 54, 55, 56, 57, 58] (by decide +kernel) (by decide +kernel)
set_option maxRecDepth 20000 in
theorem gX4_fineIn_X3_find : GoodIn wsX4_fineIn (wsV RX4 71 RX3 yX3_find wsX3_find) := goodIn_app (goodIn_of _ (by decide +kernel)) ggX4_fineIn_X3_find
set_option maxRecDepth 20000 in
theorem ggX4_fineIn_X1_copyFrom : GoodIn wsX4_fineIn wsX1_copyFrom := goodIn_r _ [15, 16, 17, 18, 19, 20, 21, 22, 23, 44, 45, 46, 47, 48, 49, 50, 51] (by decide +kernel) (by decide +kernel)
set_option maxRecDepth 20000 in
theorem gX4_fineIn_X1_copyFrom : GoodIn wsX4_fineIn (wsV RX4 103 RX1 yX1_copyFrom wsX1_copyFrom) := goodIn_app (goodIn_of _ (by decide +kernel)) ggX4_fineIn_X1_copyFrom
set_option maxRecDepth 20000 in
theorem ggX4_fineIn_X3_passMinuteOf : GoodIn wsX4_fineIn wsX3_passMinuteOf := goodIn_r _ [27, 28, 29, 30, 31, 14, 32, 21, 18, 19, 20, 33, 34, 35, 36, 52, 53, 54, 55, 56, 57, 58, 44, 45, 46, 47, 48, 49, 50, 51] (by decide +kernel) (by decide +kernel)
set_option maxRecDepth 20000 in
theorem gX4_fineIn_X3_passMinuteOf : GoodIn wsX4_fineIn (wsV RX4 107 RX3 yX3_passMinuteOf wsX3_passMinuteOf) := goodIn_app (goodIn_of _ (by decide +kernel)) ggX4_fineIn_X3_passMinuteOf
theorem dX4_fineIn_0 : decode cX4_fineIn 0 = .ok (.aload_n 0, 1) := by decide +kernel
theorem dX4_fineIn_1 : decode cX4_fineIn 1 = .ok (.getfield 10, 3) := by decide +kernel
theorem dX4_fineIn_4 : decode cX4_fineIn 4 = .ok (.iload_n 1, 1) := by decide +kernel
theorem dX4_fineIn_5 : decode cX4_fineIn 5 = .ok (.invokevirtual 71, 3) := by decide +kernel
theorem dX4_fineIn_8 : decode cX4_fineIn 8 = .ok (.astore_n 3, 1) := by decide +kernel
theorem dX4_fineIn_9 : decode cX4_fineIn 9 = .ok (.aload_n 3, 1) := by decide +kernel
theorem dX4_fineIn_10 : decode cX4_fineIn 10 = .ok (.ifnonnull 5, 3) := by decide +kernel
theorem dX4_fineIn_13 : decode cX4_fineIn 13 = .ok (.iconst (-1), 1) := by decide +kernel
theorem dX4_fineIn_14 : decode cX4_fineIn 14 = .ok (.ireturn, 1) := by decide +kernel
theorem dX4_fineIn_15 : decode cX4_fineIn 15 = .ok (.iload_n 2, 1) := by decide +kernel
theorem dX4_fineIn_16 : decode cX4_fineIn 16 = .ok (.ifCond .lt 10, 3) := by decide +kernel
theorem dX4_fineIn_19 : decode cX4_fineIn 19 = .ok (.iload_n 2, 1) := by decide +kernel
theorem dX4_fineIn_20 : decode cX4_fineIn 20 = .ok (.sipush 999, 3) := by decide +kernel
theorem dX4_fineIn_23 : decode cX4_fineIn 23 = .ok (.if_icmp .le 6, 3) := by decide +kernel
theorem dX4_fineIn_26 : decode cX4_fineIn 26 = .ok (.bipush (-2), 2) := by decide +kernel
theorem dX4_fineIn_28 : decode cX4_fineIn 28 = .ok (.ireturn, 1) := by decide +kernel
theorem dX4_fineIn_29 : decode cX4_fineIn 29 = .ok (.aload_n 0, 1) := by decide +kernel
theorem dX4_fineIn_30 : decode cX4_fineIn 30 = .ok (.getfield 41, 3) := by decide +kernel
theorem dX4_fineIn_33 : decode cX4_fineIn 33 = .ok (.aload_n 3, 1) := by decide +kernel
theorem dX4_fineIn_34 : decode cX4_fineIn 34 = .ok (.invokevirtual 103, 3) := by decide +kernel
theorem dX4_fineIn_37 : decode cX4_fineIn 37 = .ok (.iconst 0, 1) := by decide +kernel
theorem dX4_fineIn_38 : decode cX4_fineIn 38 = .ok (.istore 4, 2) := by decide +kernel
theorem dX4_fineIn_40 : decode cX4_fineIn 40 = .ok (.iload 4, 2) := by decide +kernel
theorem dX4_fineIn_42 : decode cX4_fineIn 42 = .ok (.iload_n 2, 1) := by decide +kernel
theorem dX4_fineIn_43 : decode cX4_fineIn 43 = .ok (.if_icmp .ge 21, 3) := by decide +kernel
theorem dX4_fineIn_46 : decode cX4_fineIn 46 = .ok (.aload_n 0, 1) := by decide +kernel
theorem dX4_fineIn_47 : decode cX4_fineIn 47 = .ok (.getfield 10, 3) := by decide +kernel
theorem dX4_fineIn_50 : decode cX4_fineIn 50 = .ok (.aload_n 0, 1) := by decide +kernel
theorem dX4_fineIn_51 : decode cX4_fineIn 51 = .ok (.getfield 41, 3) := by decide +kernel
theorem dX4_fineIn_54 : decode cX4_fineIn 54 = .ok (.invokevirtual 107, 3) := by decide +kernel
theorem dX4_fineIn_57 : decode cX4_fineIn 57 = .ok (.pop, 1) := by decide +kernel
theorem dX4_fineIn_58 : decode cX4_fineIn 58 = .ok (.iinc 4 1, 3) := by decide +kernel
theorem dX4_fineIn_61 : decode cX4_fineIn 61 = .ok (.goto (-21), 3) := by decide +kernel
theorem dX4_fineIn_64 : decode cX4_fineIn 64 = .ok (.aload_n 0, 1) := by decide +kernel
theorem dX4_fineIn_65 : decode cX4_fineIn 65 = .ok (.getfield 41, 3) := by decide +kernel
theorem dX4_fineIn_68 : decode cX4_fineIn 68 = .ok (.getfield 115, 3) := by decide +kernel
theorem dX4_fineIn_71 : decode cX4_fineIn 71 = .ok (.ireturn, 1) := by decide +kernel
set_option maxRecDepth 20000 in
theorem ggX4_steady_X4_staysWelcome : GoodIn wsX4_steady wsX4_staysWelcome := goodIn_r _ [5, 6, 7, 8, 9, 10, 11, 12, 13, 14, 15, 16, 17, 18, 19, 20, 21, 22, 23, 24, 25, 26, 27, 28, 29, 30, 31, 32, 33, 34, 35, 36, 37, 38, 39, 40, 41, 42, 43, 44, 45, 46, 47, 48, 49, 50, 51, 52, 53, 54, 55, 56, 57, 58, 59, 60, 61, 62, 63, 64, 65, 66, 67] (by decide +kernel) (by decide +kernel)
set_option maxRecDepth 20000 in
theorem gX4_steady_X4_staysWelcome : GoodIn wsX4_steady (wsV RX4 118 RX4 yX4_staysWelcome wsX4_staysWelcome) := goodIn_app (goodIn_of _ (by decide +kernel)) ggX4_steady_X4_staysWelcome
theorem dX4_steady_0 : decode cX4_steady 0 = .ok (.iconst 0, 1) := by decide +kernel
theorem dX4_steady_1 : decode cX4_steady 1 = .ok (.istore_n 1, 1) := by decide +kernel
theorem dX4_steady_2 : decode cX4_steady 2 = .ok (.iload_n 1, 1) := by decide +kernel
theorem dX4_steady_3 : decode cX4_steady 3 = .ok (.sipush 200, 3) := by decide +kernel
theorem dX4_steady_6 : decode cX4_steady 6 = .ok (.if_icmp .gt 19, 3) := by decide +kernel
theorem dX4_steady_9 : decode cX4_steady 9 = .ok (.aload_n 0, 1) := by decide +kernel
theorem dX4_steady_10 : decode cX4_steady 10 = .ok (.iload_n 1, 1) := by decide +kernel
theorem dX4_steady_11 : decode cX4_steady 11 = .ok (.invokevirtual 118, 3) := by decide +kernel
theorem dX4_steady_14 : decode cX4_steady 14 = .ok (.ifCond .eq 5, 3) := by decide +kernel
theorem dX4_steady_17 : decode cX4_steady 17 = .ok (.iload_n 1, 1) := by decide +kernel
theorem dX4_steady_18 : decode cX4_steady 18 = .ok (.ireturn, 1) := by decide +kernel
theorem dX4_steady_19 : decode cX4_steady 19 = .ok (.iinc 1 1, 3) := by decide +kernel
theorem dX4_steady_22 : decode cX4_steady 22 = .ok (.goto (-20), 3) := by decide +kernel
theorem dX4_steady_25 : decode cX4_steady 25 = .ok (.bipush (-6), 2) := by decide +kernel
theorem dX4_steady_27 : decode cX4_steady 27 = .ok (.ireturn, 1) := by decide +kernel
set_option maxRecDepth 20000 in
theorem ggX4_staysWelcome_X1_arrive : GoodIn wsX4_staysWelcome wsX1_arrive := goodIn_r _ [7, 8, 9, 10, 11, 12, 13, 14, 15, 48, 49, 50, 51, 52, 53, 54, 55] (by decide +kernel) (by decide +kernel)
set_option maxRecDepth 20000 in
theorem gX4_staysWelcome_X1_arrive : GoodIn wsX4_staysWelcome (wsV RX4 122 RX1 yX1_arrive wsX1_arrive) := goodIn_app (goodIn_of _ (by decide +kernel)) ggX4_staysWelcome_X1_arrive
set_option maxRecDepth 20000 in
theorem ggX4_staysWelcome_X3_fineBySort : GoodIn wsX4_staysWelcome wsX3_fineBySort := goodIn_r _ [20, 21, 22, 23, 24, 6, 25, 14, 10, 26, 27, 28, 29, 30, 11, 12, 15, 56, 57, 58, 59, 60, 61, 62, 48, 49, 50, 51, 52, 53, 54, 55] (by decide +kernel) (by decide +kernel)
set_option maxRecDepth 20000 in
theorem gX4_staysWelcome_X3_fineBySort : GoodIn wsX4_staysWelcome (wsV RX4 111 RX3 yX3_fineBySort wsX3_fineBySort) := goodIn_app (goodIn_of _ (by decide +kernel)) ggX4_staysWelcome_X3_fineBySort
set_option maxRecDepth 20000 in
theorem ggX4_staysWelcome_X3_fade : GoodIn wsX4_staysWelcome wsX3_fade := goodIn_r _ [34, 21, 35, 36, 29, 37, 38, 39, 40, 28, 30, 56, 57, 58, 59, 60, 61, 62, 48, 49, 50, 51, 52, 53, 54, 55] (by decide +kernel) (by decide +kernel)
set_option maxRecDepth 20000 in
theorem gX4_staysWelcome_X3_fade : GoodIn wsX4_staysWelcome (wsV RX4 126 RX3 yX3_fade wsX3_fade) := goodIn_app (goodIn_of _ (by decide +kernel)) ggX4_staysWelcome_X3_fade
theorem dX4_staysWelcome_0 : decode cX4_staysWelcome 0 = .ok (.aload_n 0, 1) := by decide +kernel
theorem dX4_staysWelcome_1 : decode cX4_staysWelcome 1 = .ok (.getfield 41, 3) := by decide +kernel
theorem dX4_staysWelcome_4 : decode cX4_staysWelcome 4 = .ok (.iconst 0, 1) := by decide +kernel
theorem dX4_staysWelcome_5 : decode cX4_staysWelcome 5 = .ok (.invokevirtual 122, 3) := by decide +kernel
theorem dX4_staysWelcome_8 : decode cX4_staysWelcome 8 = .ok (.iconst 0, 1) := by decide +kernel
theorem dX4_staysWelcome_9 : decode cX4_staysWelcome 9 = .ok (.istore_n 2, 1) := by decide +kernel
theorem dX4_staysWelcome_10 : decode cX4_staysWelcome 10 = .ok (.iload_n 2, 1) := by decide +kernel
theorem dX4_staysWelcome_11 : decode cX4_staysWelcome 11 = .ok (.bipush 80, 2) := by decide +kernel
theorem dX4_staysWelcome_13 : decode cX4_staysWelcome 13 = .ok (.if_icmp .ge 48, 3) := by decide +kernel
theorem dX4_staysWelcome_16 : decode cX4_staysWelcome 16 = .ok (.aload_n 0, 1) := by decide +kernel
theorem dX4_staysWelcome_17 : decode cX4_staysWelcome 17 = .ok (.getfield 10, 3) := by decide +kernel
theorem dX4_staysWelcome_20 : decode cX4_staysWelcome 20 = .ok (.aload_n 0, 1) := by decide +kernel
theorem dX4_staysWelcome_21 : decode cX4_staysWelcome 21 = .ok (.getfield 41, 3) := by decide +kernel
theorem dX4_staysWelcome_24 : decode cX4_staysWelcome 24 = .ok (.iload_n 2, 1) := by decide +kernel
theorem dX4_staysWelcome_25 : decode cX4_staysWelcome 25 = .ok (.iconst 2, 1) := by decide +kernel
theorem dX4_staysWelcome_26 : decode cX4_staysWelcome 26 = .ok (.irem, 1) := by decide +kernel
theorem dX4_staysWelcome_27 : decode cX4_staysWelcome 27 = .ok (.ifCond .ne 7, 3) := by decide +kernel
theorem dX4_staysWelcome_30 : decode cX4_staysWelcome 30 = .ok (.iconst 0, 1) := by decide +kernel
theorem dX4_staysWelcome_31 : decode cX4_staysWelcome 31 = .ok (.goto 4, 3) := by decide +kernel
theorem dX4_staysWelcome_34 : decode cX4_staysWelcome 34 = .ok (.iconst 1, 1) := by decide +kernel
theorem dX4_staysWelcome_35 : decode cX4_staysWelcome 35 = .ok (.invokevirtual 111, 3) := by decide +kernel
theorem dX4_staysWelcome_38 : decode cX4_staysWelcome 38 = .ok (.ifCond .eq 5, 3) := by decide +kernel
theorem dX4_staysWelcome_41 : decode cX4_staysWelcome 41 = .ok (.iconst 0, 1) := by decide +kernel
theorem dX4_staysWelcome_42 : decode cX4_staysWelcome 42 = .ok (.ireturn, 1) := by decide +kernel
theorem dX4_staysWelcome_43 : decode cX4_staysWelcome 43 = .ok (.aload_n 0, 1) := by decide +kernel
theorem dX4_staysWelcome_44 : decode cX4_staysWelcome 44 = .ok (.getfield 10, 3) := by decide +kernel
theorem dX4_staysWelcome_47 : decode cX4_staysWelcome 47 = .ok (.aload_n 0, 1) := by decide +kernel
theorem dX4_staysWelcome_48 : decode cX4_staysWelcome 48 = .ok (.getfield 41, 3) := by decide +kernel
theorem dX4_staysWelcome_51 : decode cX4_staysWelcome 51 = .ok (.iload_n 1, 1) := by decide +kernel
theorem dX4_staysWelcome_52 : decode cX4_staysWelcome 52 = .ok (.invokevirtual 126, 3) := by decide +kernel
theorem dX4_staysWelcome_55 : decode cX4_staysWelcome 55 = .ok (.iinc 2 1, 3) := by decide +kernel
theorem dX4_staysWelcome_58 : decode cX4_staysWelcome 58 = .ok (.goto (-48), 3) := by decide +kernel
theorem dX4_staysWelcome_61 : decode cX4_staysWelcome 61 = .ok (.iconst 1, 1) := by decide +kernel
theorem dX4_staysWelcome_62 : decode cX4_staysWelcome 62 = .ok (.ireturn, 1) := by decide +kernel
set_option maxRecDepth 20000 in
theorem ggX4_put_X4_charactersIn : GoodIn wsX4_put wsX4_charactersIn := goodIn_r _ [6, 7] (by decide +kernel) (by decide +kernel)
set_option maxRecDepth 20000 in
theorem gX4_put_X4_charactersIn : GoodIn wsX4_put (va_wsS RX4 130 yX4_charactersIn wsX4_charactersIn) := goodIn_app (goodIn_of _ (by decide +kernel)) ggX4_put_X4_charactersIn
set_option maxRecDepth 20000 in
theorem ggX4_put_X2_append : GoodIn wsX4_put wsX2_append := goodIn_r _ [12, 13, 14, 15, 23, 24, 25, 26, 27, 28] (by decide +kernel) (by decide +kernel)
set_option maxRecDepth 20000 in
theorem gX4_put_X2_append : GoodIn wsX4_put (wsV RX4 134 RX2 yX2_append wsX2_append) := goodIn_app (goodIn_of _ (by decide +kernel)) ggX4_put_X2_append
theorem dX4_put_0 : decode cX4_put 0 = .ok (.lload_n 1, 1) := by decide +kernel
theorem dX4_put_1 : decode cX4_put 1 = .ok (.invokestatic 130, 3) := by decide +kernel
theorem dX4_put_4 : decode cX4_put 4 = .ok (.istore_n 3, 1) := by decide +kernel
theorem dX4_put_5 : decode cX4_put 5 = .ok (.iload_n 3, 1) := by decide +kernel
theorem dX4_put_6 : decode cX4_put 6 = .ok (.ifCond .ne 6, 3) := by decide +kernel
theorem dX4_put_9 : decode cX4_put 9 = .ok (.bipush (-2), 2) := by decide +kernel
theorem dX4_put_11 : decode cX4_put 11 = .ok (.ireturn, 1) := by decide +kernel
theorem dX4_put_12 : decode cX4_put 12 = .ok (.aload_n 0, 1) := by decide +kernel
theorem dX4_put_13 : decode cX4_put 13 = .ok (.getfield 34, 3) := by decide +kernel
theorem dX4_put_16 : decode cX4_put 16 = .ok (.getfield 78, 3) := by decide +kernel
theorem dX4_put_19 : decode cX4_put 19 = .ok (.iload_n 3, 1) := by decide +kernel
theorem dX4_put_20 : decode cX4_put 20 = .ok (.iadd, 1) := by decide +kernel
theorem dX4_put_21 : decode cX4_put 21 = .ok (.bipush 80, 2) := by decide +kernel
theorem dX4_put_23 : decode cX4_put 23 = .ok (.if_icmp .le 6, 3) := by decide +kernel
theorem dX4_put_26 : decode cX4_put 26 = .ok (.bipush (-4), 2) := by decide +kernel
theorem dX4_put_28 : decode cX4_put 28 = .ok (.ireturn, 1) := by decide +kernel
theorem dX4_put_29 : decode cX4_put 29 = .ok (.aload_n 0, 1) := by decide +kernel
theorem dX4_put_30 : decode cX4_put 30 = .ok (.getfield 34, 3) := by decide +kernel
theorem dX4_put_33 : decode cX4_put 33 = .ok (.lload_n 1, 1) := by decide +kernel
theorem dX4_put_34 : decode cX4_put 34 = .ok (.iload_n 3, 1) := by decide +kernel
theorem dX4_put_35 : decode cX4_put 35 = .ok (.invokevirtual 134, 3) := by decide +kernel
theorem dX4_put_38 : decode cX4_put 38 = .ok (.aload_n 0, 1) := by decide +kernel
theorem dX4_put_39 : decode cX4_put 39 = .ok (.getfield 34, 3) := by decide +kernel
theorem dX4_put_42 : decode cX4_put 42 = .ok (.getfield 78, 3) := by decide +kernel
theorem dX4_put_45 : decode cX4_put 45 = .ok (.ireturn, 1) := by decide +kernel
theorem dX4_charactersIn_0 : decode cX4_charactersIn 0 = .ok (.iconst 0, 1) := by decide +kernel
theorem dX4_charactersIn_1 : decode cX4_charactersIn 1 = .ok (.istore_n 2, 1) := by decide +kernel
theorem dX4_charactersIn_2 : decode cX4_charactersIn 2 = .ok (.lload_n 0, 1) := by decide +kernel
theorem dX4_charactersIn_3 : decode cX4_charactersIn 3 = .ok (.lstore_n 3, 1) := by decide +kernel
theorem dX4_charactersIn_4 : decode cX4_charactersIn 4 = .ok (.lload_n 3, 1) := by decide +kernel
theorem dX4_charactersIn_5 : decode cX4_charactersIn 5 = .ok (.lconst 0, 1) := by decide +kernel
theorem dX4_charactersIn_6 : decode cX4_charactersIn 6 = .ok (.lcmp, 1) := by decide +kernel
theorem dX4_charactersIn_7 : decode cX4_charactersIn 7 = .ok (.ifCond .eq 44, 3) := by decide +kernel
theorem dX4_charactersIn_10 : decode cX4_charactersIn 10 = .ok (.iload_n 2, 1) := by decide +kernel
theorem dX4_charactersIn_11 : decode cX4_charactersIn 11 = .ok (.bipush 8, 2) := by decide +kernel
theorem dX4_charactersIn_13 : decode cX4_charactersIn 13 = .ok (.if_icmp .ge 38, 3) := by decide +kernel
theorem dX4_charactersIn_16 : decode cX4_charactersIn 16 = .ok (.lload_n 3, 1) := by decide +kernel
theorem dX4_charactersIn_17 : decode cX4_charactersIn 17 = .ok (.ldc2_w 138, 3) := by decide +kernel
theorem dX4_charactersIn_20 : decode cX4_charactersIn 20 = .ok (.land, 1) := by decide +kernel
theorem dX4_charactersIn_21 : decode cX4_charactersIn 21 = .ok (.l2i, 1) := by decide +kernel
theorem dX4_charactersIn_22 : decode cX4_charactersIn 22 = .ok (.istore 5, 2) := by decide +kernel
theorem dX4_charactersIn_24 : decode cX4_charactersIn 24 = .ok (.iload 5, 2) := by decide +kernel
theorem dX4_charactersIn_26 : decode cX4_charactersIn 26 = .ok (.bipush 33, 2) := by decide +kernel
theorem dX4_charactersIn_28 : decode cX4_charactersIn 28 = .ok (.if_icmp .lt 10, 3) := by decide +kernel
theorem dX4_charactersIn_31 : decode cX4_charactersIn 31 = .ok (.iload 5, 2) := by decide +kernel
theorem dX4_charactersIn_33 : decode cX4_charactersIn 33 = .ok (.bipush 126, 2) := by decide +kernel
theorem dX4_charactersIn_35 : decode cX4_charactersIn 35 = .ok (.if_icmp .le 5, 3) := by decide +kernel
theorem dX4_charactersIn_38 : decode cX4_charactersIn 38 = .ok (.iconst 0, 1) := by decide +kernel
theorem dX4_charactersIn_39 : decode cX4_charactersIn 39 = .ok (.ireturn, 1) := by decide +kernel
theorem dX4_charactersIn_40 : decode cX4_charactersIn 40 = .ok (.iinc 2 1, 3) := by decide +kernel
theorem dX4_charactersIn_43 : decode cX4_charactersIn 43 = .ok (.lload_n 3, 1) := by decide +kernel
theorem dX4_charactersIn_44 : decode cX4_charactersIn 44 = .ok (.bipush 8, 2) := by decide +kernel
theorem dX4_charactersIn_46 : decode cX4_charactersIn 46 = .ok (.lushr, 1) := by decide +kernel
theorem dX4_charactersIn_47 : decode cX4_charactersIn 47 = .ok (.lstore_n 3, 1) := by decide +kernel
theorem dX4_charactersIn_48 : decode cX4_charactersIn 48 = .ok (.goto (-44), 3) := by decide +kernel
theorem dX4_charactersIn_51 : decode cX4_charactersIn 51 = .ok (.iload_n 2, 1) := by decide +kernel
theorem dX4_charactersIn_52 : decode cX4_charactersIn 52 = .ok (.ireturn, 1) := by decide +kernel
set_option maxRecDepth 20000 in
theorem ggX4_wipe_X2_clear : GoodIn wsX4_wipe wsX2_clear := goodIn_r _ [6, 7, 15, 16, 17, 18, 19, 20] (by decide +kernel) (by decide +kernel)
set_option maxRecDepth 20000 in
theorem gX4_wipe_X2_clear : GoodIn wsX4_wipe (wsV RX4 140 RX2 yX2_clear wsX2_clear) := goodIn_app (goodIn_of _ (by decide +kernel)) ggX4_wipe_X2_clear
theorem dX4_wipe_0 : decode cX4_wipe 0 = .ok (.aload_n 0, 1) := by decide +kernel
theorem dX4_wipe_1 : decode cX4_wipe 1 = .ok (.getfield 34, 3) := by decide +kernel
theorem dX4_wipe_4 : decode cX4_wipe 4 = .ok (.invokevirtual 140, 3) := by decide +kernel
theorem dX4_wipe_7 : decode cX4_wipe 7 = .ok (.ireturn, 1) := by decide +kernel
set_option maxRecDepth 20000 in
theorem ggX4_fault_X2_findFault : GoodIn wsX4_fault wsX2_findFault := goodIn_r _ [6, 7, 8, 9, 10, 11, 5, 12, 13, 14, 15, 16, 17, 18, 19, 20, 21, 22, 23, 24, 25, 26, 27, 28, 29, 30, 31, 32, 33, 34, 35, 36, 44, 45, 46, 47, 48, 49] (by decide +kernel) (by decide +kernel)
set_option maxRecDepth 20000 in
theorem gX4_fault_X2_findFault : GoodIn wsX4_fault (wsV RX4 144 RX2 yX2_findFault wsX2_findFault) := goodIn_app (goodIn_of _ (by decide +kernel)) ggX4_fault_X2_findFault
theorem dX4_fault_0 : decode cX4_fault 0 = .ok (.aload_n 0, 1) := by decide +kernel
theorem dX4_fault_1 : decode cX4_fault 1 = .ok (.getfield 34, 3) := by decide +kernel
theorem dX4_fault_4 : decode cX4_fault 4 = .ok (.invokevirtual 144, 3) := by decide +kernel
theorem dX4_fault_7 : decode cX4_fault 7 = .ok (.ireturn, 1) := by decide +kernel
set_option maxRecDepth 20000 in
theorem ggX4_carryOut_X2_findFault : GoodIn wsX4_carryOut wsX2_findFault := goodIn_r _ [6, 7, 8, 9, 10, 11, 5, 12, 13, 14, 15, 16, 17, 18, 19, 20, 21, 22, 23, 24, 25, 26, 27, 28, 29, 30, 31, 32, 33, 34, 35, 36, 188, 189, 190, 191, 192, 193] (by decide +kernel) (by decide +kernel)
set_option maxRecDepth 20000 in
theorem gX4_carryOut_X2_findFault : GoodIn wsX4_carryOut (wsV RX4 144 RX2 yX2_findFault wsX2_findFault) := goodIn_app (goodIn_of _ (by decide +kernel)) ggX4_carryOut_X2_findFault
set_option maxRecDepth 20000 in
theorem ggX4_carryOut_X4_keepState : GoodIn wsX4_carryOut wsX4_keepState := goodIn_r _ [41, 42, 43, 44, 45, 46, 47, 48, 49, 50, 51, 52, 53, 54, 55, 56, 57, 58, 59, 60, 61, 62, 63, 64, 65, 66, 67, 68, 69, 70, 71, 72, 73, 74, 75, 76, 77, 78, 79, 80, 81, 82, 83, 84, 181, 182, 183, 184, 185, 186, 187, 194, 195, 196, 197, 198, 199, 200, 201, 202, 203, 204, 205, 206, 207, 208, 209, 210, 211, 212, 213] (by decide +kernel) (by decide +kernel)
set_option maxRecDepth 20000 in
theorem gX4_carryOut_X4_keepState : GoodIn wsX4_carryOut (wsV RX4 45 RX4 yX4_keepState wsX4_keepState) := goodIn_app (goodIn_of _ (by decide +kernel)) ggX4_carryOut_X4_keepState
set_option maxRecDepth 20000 in
theorem ggX4_carryOut_X2_startReading : GoodIn wsX4_carryOut wsX2_startReading := goodIn_r _ [12, 7, 188, 189, 190, 191, 192, 193] (by decide +kernel) (by decide +kernel)
set_option maxRecDepth 20000 in
theorem gX4_carryOut_X2_startReading : GoodIn wsX4_carryOut (wsV RX4 147 RX2 yX2_startReading wsX2_startReading) := goodIn_app (goodIn_of _ (by decide +kernel)) ggX4_carryOut_X2_startReading
set_option maxRecDepth 20000 in
theorem ggX4_carryOut_X2_readOrder : GoodIn wsX4_carryOut wsX2_readOrder := goodIn_r _ [16, 7, 8, 17, 18, 19, 20, 21, 5, 22, 23, 24, 25, 26, 27, 28, 29, 30, 31, 32, 33, 34, 35, 36, 188, 189, 190, 191, 192, 193] (by decide +kernel) (by decide +kernel)
set_option maxRecDepth 20000 in
theorem gX4_carryOut_X2_readOrder : GoodIn wsX4_carryOut (wsV RX4 150 RX2 yX2_readOrder wsX2_readOrder) := goodIn_app (goodIn_of _ (by decide +kernel)) ggX4_carryOut_X2_readOrder
set_option maxRecDepth 20000 in
theorem ggX4_carryOut_X4_carryOutOne : GoodIn wsX4_carryOut wsX4_carryOutOne := goodIn_r _ [90, 1, 91, 44, 92, 93, 94, 95, 96, 48, 97, 56, 55, 98, 99, 100, 64, 101, 66, 67, 68, 69, 70, 71, 72, 73, 102, 103, 104, 105, 106, 58, 59, 107, 108, 109, 110, 111, 112, 113, 114, 115, 116, 117, 118, 119, 120, 121, 122, 123, 60, 57, 124, 125, 126, 127, 77, 128, 79, 84, 81, 82, 83, 129, 130, 131, 132, 133, 134, 135, 136, 50, 137, 138, 139, 140, 141, 142, 143, 144, 145, 146, 147, 148, 149, 150, 151, 152, 153, 154, 155, 156, 157, 158, 159, 160, 161, 162, 163, 164, 165, 166, 167, 181, 182, 183, 184, 185, 186, 187, 188, 189, 190, 191, 192, 193, 194, 195, 196, 197, 198, 199, 200, 201, 202, 203, 204, 205, 206, 207, 208, 209, 210, 211, 212, 213] (by decide +kernel) (by decide +kernel)
set_option maxRecDepth 20000 in
theorem gX4_carryOut_X4_carryOutOne : GoodIn wsX4_carryOut (wsV RX4 154 RX4 yX4_carryOutOne wsX4_carryOutOne) := goodIn_app (goodIn_of _ (by decide +kernel)) ggX4_carryOut_X4_carryOutOne
set_option maxRecDepth 20000 in
theorem ggX4_carryOut_X2_readSign : GoodIn wsX4_carryOut wsX2_readSign := goodIn_r _ [36, 7, 8, 17, 188, 189, 190, 191, 192, 193] (by decide +kernel) (by decide +kernel)
set_option maxRecDepth 20000 in
theorem gX4_carryOut_X2_readSign : GoodIn wsX4_carryOut (wsV RX4 157 RX2 yX2_readSign wsX2_readSign) := goodIn_app (goodIn_of _ (by decide +kernel)) ggX4_carryOut_X2_readSign
set_option maxRecDepth 20000 in
theorem ggX4_carryOut_X2_clear : GoodIn wsX4_carryOut wsX2_clear := goodIn_r _ [172, 8, 188, 189, 190, 191, 192, 193] (by decide +kernel) (by decide +kernel)
set_option maxRecDepth 20000 in
theorem gX4_carryOut_X2_clear : GoodIn wsX4_carryOut (wsV RX4 140 RX2 yX2_clear wsX2_clear) := goodIn_app (goodIn_of _ (by decide +kernel)) ggX4_carryOut_X2_clear
set_option maxRecDepth 20000 in
theorem ggX4_carryOut_X4_recordUnlessError : GoodIn wsX4_carryOut wsX4_recordUnlessError := goodIn_r _ [176, 43, 177, 178, 179, 40, 180, 42, 181, 182, 183, 184, 185, 186, 187] (by decide +kernel) (by decide +kernel)
set_option maxRecDepth 20000 in
theorem gX4_carryOut_X4_recordUnlessError : GoodIn wsX4_carryOut (wsV RX4 52 RX4 yX4_recordUnlessError wsX4_recordUnlessError) := goodIn_app (goodIn_of _ (by decide +kernel)) ggX4_carryOut_X4_recordUnlessError
theorem dX4_carryOut_0 : decode cX4_carryOut 0 = .ok (.aload_n 0, 1) := by decide +kernel
theorem dX4_carryOut_1 : decode cX4_carryOut 1 = .ok (.getfield 34, 3) := by decide +kernel
theorem dX4_carryOut_4 : decode cX4_carryOut 4 = .ok (.invokevirtual 144, 3) := by decide +kernel
theorem dX4_carryOut_7 : decode cX4_carryOut 7 = .ok (.bipush (-6), 2) := by decide +kernel
theorem dX4_carryOut_9 : decode cX4_carryOut 9 = .ok (.if_icmp .eq 6, 3) := by decide +kernel
theorem dX4_carryOut_12 : decode cX4_carryOut 12 = .ok (.bipush (-3), 2) := by decide +kernel
theorem dX4_carryOut_14 : decode cX4_carryOut 14 = .ok (.ireturn, 1) := by decide +kernel
theorem dX4_carryOut_15 : decode cX4_carryOut 15 = .ok (.aload_n 0, 1) := by decide +kernel
theorem dX4_carryOut_16 : decode cX4_carryOut 16 = .ok (.invokevirtual 45, 3) := by decide +kernel
theorem dX4_carryOut_19 : decode cX4_carryOut 19 = .ok (.iconst 0, 1) := by decide +kernel
theorem dX4_carryOut_20 : decode cX4_carryOut 20 = .ok (.istore_n 1, 1) := by decide +kernel
theorem dX4_carryOut_21 : decode cX4_carryOut 21 = .ok (.aload_n 0, 1) := by decide +kernel
theorem dX4_carryOut_22 : decode cX4_carryOut 22 = .ok (.getfield 34, 3) := by decide +kernel
theorem dX4_carryOut_25 : decode cX4_carryOut 25 = .ok (.invokevirtual 147, 3) := by decide +kernel
theorem dX4_carryOut_28 : decode cX4_carryOut 28 = .ok (.iconst 0, 1) := by decide +kernel
theorem dX4_carryOut_29 : decode cX4_carryOut 29 = .ok (.istore_n 2, 1) := by decide +kernel
theorem dX4_carryOut_30 : decode cX4_carryOut 30 = .ok (.iload_n 2, 1) := by decide +kernel
theorem dX4_carryOut_31 : decode cX4_carryOut 31 = .ok (.bipush 80, 2) := by decide +kernel
theorem dX4_carryOut_33 : decode cX4_carryOut 33 = .ok (.if_icmp .ge 47, 3) := by decide +kernel
theorem dX4_carryOut_36 : decode cX4_carryOut 36 = .ok (.aload_n 0, 1) := by decide +kernel
theorem dX4_carryOut_37 : decode cX4_carryOut 37 = .ok (.getfield 34, 3) := by decide +kernel
theorem dX4_carryOut_40 : decode cX4_carryOut 40 = .ok (.invokevirtual 150, 3) := by decide +kernel
theorem dX4_carryOut_43 : decode cX4_carryOut 43 = .ok (.ifCond .eq 37, 3) := by decide +kernel
theorem dX4_carryOut_46 : decode cX4_carryOut 46 = .ok (.aload_n 0, 1) := by decide +kernel
theorem dX4_carryOut_47 : decode cX4_carryOut 47 = .ok (.invokevirtual 154, 3) := by decide +kernel
theorem dX4_carryOut_50 : decode cX4_carryOut 50 = .ok (.ifCond .ge 6, 3) := by decide +kernel
theorem dX4_carryOut_53 : decode cX4_carryOut 53 = .ok (.goto 27, 3) := by decide +kernel
theorem dX4_carryOut_56 : decode cX4_carryOut 56 = .ok (.iinc 1 1, 3) := by decide +kernel
theorem dX4_carryOut_59 : decode cX4_carryOut 59 = .ok (.aload_n 0, 1) := by decide +kernel
theorem dX4_carryOut_60 : decode cX4_carryOut 60 = .ok (.getfield 34, 3) := by decide +kernel
theorem dX4_carryOut_63 : decode cX4_carryOut 63 = .ok (.bipush 59, 2) := by decide +kernel
theorem dX4_carryOut_65 : decode cX4_carryOut 65 = .ok (.invokevirtual 157, 3) := by decide +kernel
theorem dX4_carryOut_68 : decode cX4_carryOut 68 = .ok (.ifCond .ne 6, 3) := by decide +kernel
theorem dX4_carryOut_71 : decode cX4_carryOut 71 = .ok (.goto 9, 3) := by decide +kernel
theorem dX4_carryOut_74 : decode cX4_carryOut 74 = .ok (.iinc 2 1, 3) := by decide +kernel
theorem dX4_carryOut_77 : decode cX4_carryOut 77 = .ok (.goto (-47), 3) := by decide +kernel
theorem dX4_carryOut_80 : decode cX4_carryOut 80 = .ok (.aload_n 0, 1) := by decide +kernel
theorem dX4_carryOut_81 : decode cX4_carryOut 81 = .ok (.getfield 34, 3) := by decide +kernel
theorem dX4_carryOut_84 : decode cX4_carryOut 84 = .ok (.invokevirtual 140, 3) := by decide +kernel
theorem dX4_carryOut_87 : decode cX4_carryOut 87 = .ok (.pop, 1) := by decide +kernel
theorem dX4_carryOut_88 : decode cX4_carryOut 88 = .ok (.aload_n 0, 1) := by decide +kernel
theorem dX4_carryOut_89 : decode cX4_carryOut 89 = .ok (.iload_n 1, 1) := by decide +kernel
theorem dX4_carryOut_90 : decode cX4_carryOut 90 = .ok (.invokevirtual 52, 3) := by decide +kernel
theorem dX4_carryOut_93 : decode cX4_carryOut 93 = .ok (.ireturn, 1) := by decide +kernel
set_option maxRecDepth 20000 in
theorem ggX4_carryOutOne_X3_addLanding : GoodIn wsX4_carryOutOne wsX3_addLanding := goodIn_r _ [10, 11, 12, 13, 14, 15, 16, 17, 18, 19, 20, 21, 22, 23, 24, 25, 26, 27, 28, 9, 29, 30, 31, 32, 33, 34, 35, 36, 116, 117, 118, 119, 120, 121, 122, 123, 124, 125, 126, 127, 128, 129, 130] (by decide +kernel) (by decide +kernel)
set_option maxRecDepth 20000 in
theorem gX4_carryOutOne_X3_addLanding : GoodIn wsX4_carryOutOne (wsV RX4 56 RX3 yX3_addLanding wsX3_addLanding) := goodIn_app (goodIn_of _ (by decide +kernel)) ggX4_carryOutOne_X3_addLanding
set_option maxRecDepth 20000 in
theorem ggX4_carryOutOne_X3_openLanding : GoodIn wsX4_carryOutOne wsX3_openLanding := goodIn_r _ [40, 41, 42, 43, 44, 9, 45, 11, 12, 46, 47, 48, 49, 50, 51, 52, 53, 54, 55, 56, 57, 58, 59, 60, 61, 62, 63, 64, 65, 66, 67, 68, 69, 70, 71, 72, 73, 74, 16, 75, 24, 20, 76, 77, 21, 22, 25, 26, 27, 28, 29, 30, 31, 32, 33, 34, 35, 36, 18, 123, 124, 125, 126, 127, 128, 129, 130, 116, 117, 118, 119, 120, 121, 122, 131, 132, 133, 134, 135] (by decide +kernel) (by decide +kernel)
set_option maxRecDepth 20000 in
theorem gX4_carryOutOne_X3_openLanding : GoodIn wsX4_carryOutOne (wsV RX4 59 RX3 yX3_openLanding wsX3_openLanding) := goodIn_app (goodIn_of _ (by decide +kernel)) ggX4_carryOutOne_X3_openLanding
set_option maxRecDepth 20000 in
theorem ggX4_carryOutOne_X3_closeLanding : GoodIn wsX4_carryOutOne wsX3_closeLanding := goodIn_r _ [81, 41, 42, 43, 44, 9, 45, 11, 12, 46, 47, 48, 49, 50, 51, 52, 53, 54, 55, 56, 57, 58, 59, 60, 61, 62, 63, 64, 65, 66, 67, 68, 69, 70, 71, 72, 73, 74, 16, 75, 24, 20, 76, 77, 21, 22, 25, 26, 27, 28, 29, 30, 31, 32, 33, 34, 35, 36, 18, 123, 124, 125, 126, 127, 128, 129, 130, 116, 117, 118, 119, 120, 121, 122, 131, 132, 133, 134, 135] (by decide +kernel) (by decide +kernel)
set_option maxRecDepth 20000 in
theorem gX4_carryOutOne_X3_closeLanding : GoodIn wsX4_carryOutOne (wsV RX4 62 RX3 yX3_closeLanding wsX3_closeLanding) := goodIn_app (goodIn_of _ (by decide +kernel)) ggX4_carryOutOne_X3_closeLanding
set_option maxRecDepth 20000 in
theorem ggX4_carryOutOne_X3_changePrice : GoodIn wsX4_carryOutOne wsX3_changePrice := goodIn_r _ [85, 30, 42, 43, 44, 9, 45, 11, 12, 46, 47, 48, 49, 50, 51, 52, 53, 54, 55, 56, 57, 58, 59, 60, 61, 62, 63, 64, 65, 66, 67, 68, 69, 70, 71, 72, 73, 74, 16, 75, 24, 20, 76, 77, 21, 22, 25, 26, 27, 28, 29, 31, 32, 33, 34, 35, 36, 18, 123, 124, 125, 126, 127, 128, 129, 130, 116, 117, 118, 119, 120, 121, 122, 131, 132, 133, 134, 135] (by decide +kernel) (by decide +kernel)
set_option maxRecDepth 20000 in
theorem gX4_carryOutOne_X3_changePrice : GoodIn wsX4_carryOutOne (wsV RX4 65 RX3 yX3_changePrice wsX3_changePrice) := goodIn_app (goodIn_of _ (by decide +kernel)) ggX4_carryOutOne_X3_changePrice
set_option maxRecDepth 20000 in
theorem ggX4_carryOutOne_X3_passMinutes : GoodIn wsX4_carryOutOne wsX3_passMinutes := goodIn_r _ [89, 51, 90, 91, 92, 93, 9, 94, 11, 12, 50, 95, 96, 97, 98, 71, 99, 100, 101, 16, 102, 23, 20, 21, 22, 77, 64, 65, 66, 53, 54, 55, 56, 57, 58, 59, 60, 61, 62, 63, 26, 27, 28, 29, 30, 31, 32, 33, 34, 35, 36, 18, 116, 117, 118, 119, 120, 121, 122, 123, 124, 125, 126, 127, 128, 129, 130, 131, 132, 133, 134, 135] (by decide +kernel) (by decide +kernel)
set_option maxRecDepth 20000 in
theorem gX4_carryOutOne_X3_passMinutes : GoodIn wsX4_carryOutOne (wsV RX4 68 RX3 yX3_passMinutes wsX3_passMinutes) := goodIn_app (goodIn_of _ (by decide +kernel)) ggX4_carryOutOne_X3_passMinutes
theorem dX4_carryOutOne_0 : decode cX4_carryOutOne 0 = .ok (.aload_n 0, 1) := by decide +kernel
theorem dX4_carryOutOne_1 : decode cX4_carryOutOne 1 = .ok (.getfield 34, 3) := by decide +kernel
theorem dX4_carryOutOne_4 : decode cX4_carryOutOne 4 = .ok (.getfield 161, 3) := by decide +kernel
theorem dX4_carryOutOne_7 : decode cX4_carryOutOne 7 = .ok (.lookupswitch 108 #[(43, 41), (99, 71), (111, 56), (112, 86)], 41) := by decide +kernel
theorem dX4_carryOutOne_48 : decode cX4_carryOutOne 48 = .ok (.aload_n 0, 1) := by decide +kernel
theorem dX4_carryOutOne_49 : decode cX4_carryOutOne 49 = .ok (.getfield 10, 3) := by decide +kernel
theorem dX4_carryOutOne_52 : decode cX4_carryOutOne 52 = .ok (.aload_n 0, 1) := by decide +kernel
theorem dX4_carryOutOne_53 : decode cX4_carryOutOne 53 = .ok (.getfield 34, 3) := by decide +kernel
theorem dX4_carryOutOne_56 : decode cX4_carryOutOne 56 = .ok (.getfield 165, 3) := by decide +kernel
theorem dX4_carryOutOne_59 : decode cX4_carryOutOne 59 = .ok (.invokevirtual 56, 3) := by decide +kernel
theorem dX4_carryOutOne_62 : decode cX4_carryOutOne 62 = .ok (.ireturn, 1) := by decide +kernel
theorem dX4_carryOutOne_63 : decode cX4_carryOutOne 63 = .ok (.aload_n 0, 1) := by decide +kernel
theorem dX4_carryOutOne_64 : decode cX4_carryOutOne 64 = .ok (.getfield 10, 3) := by decide +kernel
theorem dX4_carryOutOne_67 : decode cX4_carryOutOne 67 = .ok (.aload_n 0, 1) := by decide +kernel
theorem dX4_carryOutOne_68 : decode cX4_carryOutOne 68 = .ok (.getfield 34, 3) := by decide +kernel
theorem dX4_carryOutOne_71 : decode cX4_carryOutOne 71 = .ok (.getfield 168, 3) := by decide +kernel
theorem dX4_carryOutOne_74 : decode cX4_carryOutOne 74 = .ok (.invokevirtual 59, 3) := by decide +kernel
theorem dX4_carryOutOne_77 : decode cX4_carryOutOne 77 = .ok (.ireturn, 1) := by decide +kernel
theorem dX4_carryOutOne_78 : decode cX4_carryOutOne 78 = .ok (.aload_n 0, 1) := by decide +kernel
theorem dX4_carryOutOne_79 : decode cX4_carryOutOne 79 = .ok (.getfield 10, 3) := by decide +kernel
theorem dX4_carryOutOne_82 : decode cX4_carryOutOne 82 = .ok (.aload_n 0, 1) := by decide +kernel
theorem dX4_carryOutOne_83 : decode cX4_carryOutOne 83 = .ok (.getfield 34, 3) := by decide +kernel
theorem dX4_carryOutOne_86 : decode cX4_carryOutOne 86 = .ok (.getfield 168, 3) := by decide +kernel
theorem dX4_carryOutOne_89 : decode cX4_carryOutOne 89 = .ok (.invokevirtual 62, 3) := by decide +kernel
theorem dX4_carryOutOne_92 : decode cX4_carryOutOne 92 = .ok (.ireturn, 1) := by decide +kernel
theorem dX4_carryOutOne_93 : decode cX4_carryOutOne 93 = .ok (.aload_n 0, 1) := by decide +kernel
theorem dX4_carryOutOne_94 : decode cX4_carryOutOne 94 = .ok (.getfield 10, 3) := by decide +kernel
theorem dX4_carryOutOne_97 : decode cX4_carryOutOne 97 = .ok (.aload_n 0, 1) := by decide +kernel
theorem dX4_carryOutOne_98 : decode cX4_carryOutOne 98 = .ok (.getfield 34, 3) := by decide +kernel
theorem dX4_carryOutOne_101 : decode cX4_carryOutOne 101 = .ok (.getfield 168, 3) := by decide +kernel
theorem dX4_carryOutOne_104 : decode cX4_carryOutOne 104 = .ok (.aload_n 0, 1) := by decide +kernel
theorem dX4_carryOutOne_105 : decode cX4_carryOutOne 105 = .ok (.getfield 34, 3) := by decide +kernel
theorem dX4_carryOutOne_108 : decode cX4_carryOutOne 108 = .ok (.getfield 165, 3) := by decide +kernel
theorem dX4_carryOutOne_111 : decode cX4_carryOutOne 111 = .ok (.invokevirtual 65, 3) := by decide +kernel
theorem dX4_carryOutOne_114 : decode cX4_carryOutOne 114 = .ok (.ireturn, 1) := by decide +kernel
theorem dX4_carryOutOne_115 : decode cX4_carryOutOne 115 = .ok (.aload_n 0, 1) := by decide +kernel
theorem dX4_carryOutOne_116 : decode cX4_carryOutOne 116 = .ok (.getfield 10, 3) := by decide +kernel
theorem dX4_carryOutOne_119 : decode cX4_carryOutOne 119 = .ok (.aload_n 0, 1) := by decide +kernel
theorem dX4_carryOutOne_120 : decode cX4_carryOutOne 120 = .ok (.getfield 34, 3) := by decide +kernel
theorem dX4_carryOutOne_123 : decode cX4_carryOutOne 123 = .ok (.getfield 165, 3) := by decide +kernel
theorem dX4_carryOutOne_126 : decode cX4_carryOutOne 126 = .ok (.invokevirtual 68, 3) := by decide +kernel
theorem dX4_carryOutOne_129 : decode cX4_carryOutOne 129 = .ok (.ireturn, 1) := by decide +kernel
set_option maxRecDepth 20000 in
theorem ggX4_undo_X3_copyFrom : GoodIn wsX4_undo wsX3_copyFrom := goodIn_r _ [8, 9, 10, 11, 12, 13, 14, 15, 16, 17, 18, 19, 20, 21, 22, 23, 24, 25, 26, 27, 28, 29, 30, 31, 32, 33, 34, 35, 36, 37, 38, 39, 40, 41, 42, 43, 51, 52, 53, 54, 55, 56, 57, 58, 59, 60, 61, 62, 63, 64, 65, 66, 67, 68, 69, 70] (by decide +kernel) (by decide +kernel)
set_option maxRecDepth 20000 in
theorem gX4_undo_X3_copyFrom : GoodIn wsX4_undo (wsV RX4 171 RX3 yX3_copyFrom wsX3_copyFrom) := goodIn_app (goodIn_of _ (by decide +kernel)) ggX4_undo_X3_copyFrom
theorem dX4_undo_0 : decode cX4_undo 0 = .ok (.aload_n 0, 1) := by decide +kernel
theorem dX4_undo_1 : decode cX4_undo 1 = .ok (.getfield 20, 3) := by decide +kernel
theorem dX4_undo_4 : decode cX4_undo 4 = .ok (.iconst 1, 1) := by decide +kernel
theorem dX4_undo_5 : decode cX4_undo 5 = .ok (.if_icmp .ge 6, 3) := by decide +kernel
theorem dX4_undo_8 : decode cX4_undo 8 = .ok (.bipush (-5), 2) := by decide +kernel
theorem dX4_undo_10 : decode cX4_undo 10 = .ok (.ireturn, 1) := by decide +kernel
theorem dX4_undo_11 : decode cX4_undo 11 = .ok (.aload_n 0, 1) := by decide +kernel
theorem dX4_undo_12 : decode cX4_undo 12 = .ok (.dup, 1) := by decide +kernel
theorem dX4_undo_13 : decode cX4_undo 13 = .ok (.getfield 20, 3) := by decide +kernel
theorem dX4_undo_16 : decode cX4_undo 16 = .ok (.iconst 1, 1) := by decide +kernel
theorem dX4_undo_17 : decode cX4_undo 17 = .ok (.isub, 1) := by decide +kernel
theorem dX4_undo_18 : decode cX4_undo 18 = .ok (.putfield 20, 3) := by decide +kernel
theorem dX4_undo_21 : decode cX4_undo 21 = .ok (.aload_n 0, 1) := by decide +kernel
theorem dX4_undo_22 : decode cX4_undo 22 = .ok (.getfield 10, 3) := by decide +kernel
theorem dX4_undo_25 : decode cX4_undo 25 = .ok (.aload_n 0, 1) := by decide +kernel
theorem dX4_undo_26 : decode cX4_undo 26 = .ok (.getfield 16, 3) := by decide +kernel
theorem dX4_undo_29 : decode cX4_undo 29 = .ok (.aload_n 0, 1) := by decide +kernel
theorem dX4_undo_30 : decode cX4_undo 30 = .ok (.getfield 20, 3) := by decide +kernel
theorem dX4_undo_33 : decode cX4_undo 33 = .ok (.aaload, 1) := by decide +kernel
theorem dX4_undo_34 : decode cX4_undo 34 = .ok (.invokevirtual 171, 3) := by decide +kernel
theorem dX4_undo_37 : decode cX4_undo 37 = .ok (.aload_n 0, 1) := by decide +kernel
theorem dX4_undo_38 : decode cX4_undo 38 = .ok (.getfield 20, 3) := by decide +kernel
theorem dX4_undo_41 : decode cX4_undo 41 = .ok (.ireturn, 1) := by decide +kernel
set_option maxRecDepth 20000 in
theorem ggX4_save_X3_copyFrom : GoodIn wsX4_save wsX3_copyFrom := goodIn_r _ [9, 10, 11, 12, 13, 14, 15, 16, 17, 18, 19, 20, 21, 22, 23, 24, 25, 26, 27, 28, 29, 30, 31, 32, 33, 34, 35, 36, 37, 38, 39, 40, 41, 42, 43, 44, 52, 53, 54, 55, 56, 57, 58, 59, 60, 61, 62, 63, 64, 65, 66, 67, 68, 69, 70, 71] (by decide +kernel) (by decide +kernel)
set_option maxRecDepth 20000 in
theorem gX4_save_X3_copyFrom : GoodIn wsX4_save (wsV RX4 171 RX3 yX3_copyFrom wsX3_copyFrom) := goodIn_app (goodIn_of _ (by decide +kernel)) ggX4_save_X3_copyFrom
theorem dX4_save_0 : decode cX4_save 0 = .ok (.iload_n 1, 1) := by decide +kernel
theorem dX4_save_1 : decode cX4_save 1 = .ok (.ifCond .lt 8, 3) := by decide +kernel
theorem dX4_save_4 : decode cX4_save 4 = .ok (.iload_n 1, 1) := by decide +kernel
theorem dX4_save_5 : decode cX4_save 5 = .ok (.iconst 2, 1) := by decide +kernel
theorem dX4_save_6 : decode cX4_save 6 = .ok (.if_icmp .lt 6, 3) := by decide +kernel
theorem dX4_save_9 : decode cX4_save 9 = .ok (.bipush (-2), 2) := by decide +kernel
theorem dX4_save_11 : decode cX4_save 11 = .ok (.ireturn, 1) := by decide +kernel
theorem dX4_save_12 : decode cX4_save 12 = .ok (.aload_n 0, 1) := by decide +kernel
theorem dX4_save_13 : decode cX4_save 13 = .ok (.getfield 24, 3) := by decide +kernel
theorem dX4_save_16 : decode cX4_save 16 = .ok (.iload_n 1, 1) := by decide +kernel
theorem dX4_save_17 : decode cX4_save 17 = .ok (.aaload, 1) := by decide +kernel
theorem dX4_save_18 : decode cX4_save 18 = .ok (.aload_n 0, 1) := by decide +kernel
theorem dX4_save_19 : decode cX4_save 19 = .ok (.getfield 10, 3) := by decide +kernel
theorem dX4_save_22 : decode cX4_save 22 = .ok (.invokevirtual 171, 3) := by decide +kernel
theorem dX4_save_25 : decode cX4_save 25 = .ok (.aload_n 0, 1) := by decide +kernel
theorem dX4_save_26 : decode cX4_save 26 = .ok (.getfield 27, 3) := by decide +kernel
theorem dX4_save_29 : decode cX4_save 29 = .ok (.iload_n 1, 1) := by decide +kernel
theorem dX4_save_30 : decode cX4_save 30 = .ok (.iconst 1, 1) := by decide +kernel
theorem dX4_save_31 : decode cX4_save 31 = .ok (.bastore, 1) := by decide +kernel
theorem dX4_save_32 : decode cX4_save 32 = .ok (.aload_n 0, 1) := by decide +kernel
theorem dX4_save_33 : decode cX4_save 33 = .ok (.getfield 10, 3) := by decide +kernel
theorem dX4_save_36 : decode cX4_save 36 = .ok (.getfield 174, 3) := by decide +kernel
theorem dX4_save_39 : decode cX4_save 39 = .ok (.ireturn, 1) := by decide +kernel
set_option maxRecDepth 20000 in
theorem ggX4_restore_X4_keepState : GoodIn wsX4_restore wsX4_keepState := goodIn_r _ [9, 10, 11, 2, 12, 13, 14, 15, 16, 17, 18, 19, 20, 21, 22, 23, 24, 25, 26, 27, 28, 29, 30, 31, 32, 33, 34, 35, 36, 37, 38, 39, 40, 41, 42, 43, 44, 45, 46, 47, 48, 49, 50, 51, 60, 61, 62, 63, 64, 65, 66, 67, 68, 69, 70, 71, 72, 73, 74, 75, 76, 77, 78, 79, 80, 81, 82, 83, 84, 85, 86] (by decide +kernel) (by decide +kernel)
set_option maxRecDepth 20000 in
theorem gX4_restore_X4_keepState : GoodIn wsX4_restore (wsV RX4 45 RX4 yX4_keepState wsX4_keepState) := goodIn_app (goodIn_of _ (by decide +kernel)) ggX4_restore_X4_keepState
set_option maxRecDepth 20000 in
theorem ggX4_restore_X3_copyFrom : GoodIn wsX4_restore wsX3_copyFrom := goodIn_r _ [16, 17, 18, 19, 20, 21, 22, 23, 24, 25, 26, 27, 28, 29, 30, 31, 32, 33, 34, 35, 36, 37, 38, 39, 40, 41, 42, 43, 44, 45, 46, 47, 48, 49, 50, 51, 67, 68, 69, 70, 71, 72, 73, 74, 75, 76, 77, 78, 79, 80, 81, 82, 83, 84, 85, 86] (by decide +kernel) (by decide +kernel)
set_option maxRecDepth 20000 in
theorem gX4_restore_X3_copyFrom : GoodIn wsX4_restore (wsV RX4 171 RX3 yX3_copyFrom wsX3_copyFrom) := goodIn_app (goodIn_of _ (by decide +kernel)) ggX4_restore_X3_copyFrom
set_option maxRecDepth 20000 in
theorem ggX4_restore_X4_recordUnlessError : GoodIn wsX4_restore wsX4_recordUnlessError := goodIn_r _ [55, 11, 56, 57, 58, 8, 59, 10, 60, 61, 62, 63, 64, 65, 66] (by decide +kernel) (by decide +kernel)
set_option maxRecDepth 20000 in
theorem gX4_restore_X4_recordUnlessError : GoodIn wsX4_restore (wsV RX4 52 RX4 yX4_recordUnlessError wsX4_recordUnlessError) := goodIn_app (goodIn_of _ (by decide +kernel)) ggX4_restore_X4_recordUnlessError
theorem dX4_restore_0 : decode cX4_restore 0 = .ok (.iload_n 1, 1) := by decide +kernel
theorem dX4_restore_1 : decode cX4_restore 1 = .ok (.ifCond .lt 8, 3) := by decide +kernel
theorem dX4_restore_4 : decode cX4_restore 4 = .ok (.iload_n 1, 1) := by decide +kernel
theorem dX4_restore_5 : decode cX4_restore 5 = .ok (.iconst 2, 1) := by decide +kernel
theorem dX4_restore_6 : decode cX4_restore 6 = .ok (.if_icmp .lt 6, 3) := by decide +kernel
theorem dX4_restore_9 : decode cX4_restore 9 = .ok (.bipush (-2), 2) := by decide +kernel
theorem dX4_restore_11 : decode cX4_restore 11 = .ok (.ireturn, 1) := by decide +kernel
theorem dX4_restore_12 : decode cX4_restore 12 = .ok (.aload_n 0, 1) := by decide +kernel
theorem dX4_restore_13 : decode cX4_restore 13 = .ok (.getfield 27, 3) := by decide +kernel
theorem dX4_restore_16 : decode cX4_restore 16 = .ok (.iload_n 1, 1) := by decide +kernel
theorem dX4_restore_17 : decode cX4_restore 17 = .ok (.baload, 1) := by decide +kernel
theorem dX4_restore_18 : decode cX4_restore 18 = .ok (.ifCond .ne 6, 3) := by decide +kernel
theorem dX4_restore_21 : decode cX4_restore 21 = .ok (.bipush (-5), 2) := by decide +kernel
theorem dX4_restore_23 : decode cX4_restore 23 = .ok (.ireturn, 1) := by decide +kernel
theorem dX4_restore_24 : decode cX4_restore 24 = .ok (.aload_n 0, 1) := by decide +kernel
theorem dX4_restore_25 : decode cX4_restore 25 = .ok (.invokevirtual 45, 3) := by decide +kernel
theorem dX4_restore_28 : decode cX4_restore 28 = .ok (.aload_n 0, 1) := by decide +kernel
theorem dX4_restore_29 : decode cX4_restore 29 = .ok (.getfield 10, 3) := by decide +kernel
theorem dX4_restore_32 : decode cX4_restore 32 = .ok (.aload_n 0, 1) := by decide +kernel
theorem dX4_restore_33 : decode cX4_restore 33 = .ok (.getfield 24, 3) := by decide +kernel
theorem dX4_restore_36 : decode cX4_restore 36 = .ok (.iload_n 1, 1) := by decide +kernel
theorem dX4_restore_37 : decode cX4_restore 37 = .ok (.aaload, 1) := by decide +kernel
theorem dX4_restore_38 : decode cX4_restore 38 = .ok (.invokevirtual 171, 3) := by decide +kernel
theorem dX4_restore_41 : decode cX4_restore 41 = .ok (.aload_n 0, 1) := by decide +kernel
theorem dX4_restore_42 : decode cX4_restore 42 = .ok (.aload_n 0, 1) := by decide +kernel
theorem dX4_restore_43 : decode cX4_restore 43 = .ok (.getfield 10, 3) := by decide +kernel
theorem dX4_restore_46 : decode cX4_restore 46 = .ok (.getfield 174, 3) := by decide +kernel
theorem dX4_restore_49 : decode cX4_restore 49 = .ok (.invokevirtual 52, 3) := by decide +kernel
theorem dX4_restore_52 : decode cX4_restore 52 = .ok (.ireturn, 1) := by decide +kernel
set_option maxRecDepth 20000 in
theorem ggX4_keepState_X3_copyFrom : GoodIn wsX4_keepState wsX3_copyFrom := goodIn_r _ [8, 9, 10, 11, 12, 13, 14, 15, 16, 17, 18, 19, 20, 21, 22, 23, 24, 25, 26, 27, 28, 29, 30, 31, 32, 33, 34, 35, 36, 37, 38, 39, 40, 41, 42, 43, 51, 52, 53, 54, 55, 56, 57, 58, 59, 60, 61, 62, 63, 64, 65, 66, 67, 68, 69, 70] (by decide +kernel) (by decide +kernel)
set_option maxRecDepth 20000 in
theorem gX4_keepState_X3_copyFrom : GoodIn wsX4_keepState (wsV RX4 171 RX3 yX3_copyFrom wsX3_copyFrom) := goodIn_app (goodIn_of _ (by decide +kernel)) ggX4_keepState_X3_copyFrom
theorem dX4_keepState_0 : decode cX4_keepState 0 = .ok (.aload_n 0, 1) := by decide +kernel
theorem dX4_keepState_1 : decode cX4_keepState 1 = .ok (.getfield 16, 3) := by decide +kernel
theorem dX4_keepState_4 : decode cX4_keepState 4 = .ok (.aload_n 0, 1) := by decide +kernel
theorem dX4_keepState_5 : decode cX4_keepState 5 = .ok (.getfield 20, 3) := by decide +kernel
theorem dX4_keepState_8 : decode cX4_keepState 8 = .ok (.aaload, 1) := by decide +kernel
theorem dX4_keepState_9 : decode cX4_keepState 9 = .ok (.aload_n 0, 1) := by decide +kernel
theorem dX4_keepState_10 : decode cX4_keepState 10 = .ok (.getfield 10, 3) := by decide +kernel
theorem dX4_keepState_13 : decode cX4_keepState 13 = .ok (.invokevirtual 171, 3) := by decide +kernel
theorem dX4_keepState_16 : decode cX4_keepState 16 = .ok (.return_, 1) := by decide +kernel
set_option maxRecDepth 20000 in
theorem ggX4_recordUnlessError_X4_dropOldest : GoodIn wsX4_recordUnlessError wsX4_dropOldest := goodIn_r _ [6, 7, 8, 9, 10, 11, 12, 13, 14] (by decide +kernel) (by decide +kernel)
set_option maxRecDepth 20000 in
theorem gX4_recordUnlessError_X4_dropOldest : GoodIn wsX4_recordUnlessError (wsV RX4 177 RX4 yX4_dropOldest wsX4_dropOldest) := goodIn_app (goodIn_of _ (by decide +kernel)) ggX4_recordUnlessError_X4_dropOldest
theorem dX4_recordUnlessError_0 : decode cX4_recordUnlessError 0 = .ok (.iload_n 1, 1) := by decide +kernel
theorem dX4_recordUnlessError_1 : decode cX4_recordUnlessError 1 = .ok (.ifCond .ge 5, 3) := by decide +kernel
theorem dX4_recordUnlessError_4 : decode cX4_recordUnlessError 4 = .ok (.iload_n 1, 1) := by decide +kernel
theorem dX4_recordUnlessError_5 : decode cX4_recordUnlessError 5 = .ok (.ireturn, 1) := by decide +kernel
theorem dX4_recordUnlessError_6 : decode cX4_recordUnlessError 6 = .ok (.aload_n 0, 1) := by decide +kernel
theorem dX4_recordUnlessError_7 : decode cX4_recordUnlessError 7 = .ok (.getfield 20, 3) := by decide +kernel
theorem dX4_recordUnlessError_10 : decode cX4_recordUnlessError 10 = .ok (.bipush 6, 2) := by decide +kernel
theorem dX4_recordUnlessError_12 : decode cX4_recordUnlessError 12 = .ok (.if_icmp .ge 16, 3) := by decide +kernel
theorem dX4_recordUnlessError_15 : decode cX4_recordUnlessError 15 = .ok (.aload_n 0, 1) := by decide +kernel
theorem dX4_recordUnlessError_16 : decode cX4_recordUnlessError 16 = .ok (.dup, 1) := by decide +kernel
theorem dX4_recordUnlessError_17 : decode cX4_recordUnlessError 17 = .ok (.getfield 20, 3) := by decide +kernel
theorem dX4_recordUnlessError_20 : decode cX4_recordUnlessError 20 = .ok (.iconst 1, 1) := by decide +kernel
theorem dX4_recordUnlessError_21 : decode cX4_recordUnlessError 21 = .ok (.iadd, 1) := by decide +kernel
theorem dX4_recordUnlessError_22 : decode cX4_recordUnlessError 22 = .ok (.putfield 20, 3) := by decide +kernel
theorem dX4_recordUnlessError_25 : decode cX4_recordUnlessError 25 = .ok (.goto 7, 3) := by decide +kernel
theorem dX4_recordUnlessError_28 : decode cX4_recordUnlessError 28 = .ok (.aload_n 0, 1) := by decide +kernel
theorem dX4_recordUnlessError_29 : decode cX4_recordUnlessError 29 = .ok (.invokevirtual 177, 3) := by decide +kernel
theorem dX4_recordUnlessError_32 : decode cX4_recordUnlessError 32 = .ok (.iload_n 1, 1) := by decide +kernel
theorem dX4_recordUnlessError_33 : decode cX4_recordUnlessError 33 = .ok (.ireturn, 1) := by decide +kernel
theorem dX4_dropOldest_0 : decode cX4_dropOldest 0 = .ok (.aload_n 0, 1) := by decide +kernel
theorem dX4_dropOldest_1 : decode cX4_dropOldest 1 = .ok (.getfield 16, 3) := by decide +kernel
theorem dX4_dropOldest_4 : decode cX4_dropOldest 4 = .ok (.iconst 0, 1) := by decide +kernel
theorem dX4_dropOldest_5 : decode cX4_dropOldest 5 = .ok (.aaload, 1) := by decide +kernel
theorem dX4_dropOldest_6 : decode cX4_dropOldest 6 = .ok (.astore_n 1, 1) := by decide +kernel
theorem dX4_dropOldest_7 : decode cX4_dropOldest 7 = .ok (.iconst 0, 1) := by decide +kernel
theorem dX4_dropOldest_8 : decode cX4_dropOldest 8 = .ok (.istore_n 2, 1) := by decide +kernel
theorem dX4_dropOldest_9 : decode cX4_dropOldest 9 = .ok (.iload_n 2, 1) := by decide +kernel
theorem dX4_dropOldest_10 : decode cX4_dropOldest 10 = .ok (.bipush 6, 2) := by decide +kernel
theorem dX4_dropOldest_12 : decode cX4_dropOldest 12 = .ok (.if_icmp .ge 23, 3) := by decide +kernel
theorem dX4_dropOldest_15 : decode cX4_dropOldest 15 = .ok (.aload_n 0, 1) := by decide +kernel
theorem dX4_dropOldest_16 : decode cX4_dropOldest 16 = .ok (.getfield 16, 3) := by decide +kernel
theorem dX4_dropOldest_19 : decode cX4_dropOldest 19 = .ok (.iload_n 2, 1) := by decide +kernel
theorem dX4_dropOldest_20 : decode cX4_dropOldest 20 = .ok (.aload_n 0, 1) := by decide +kernel
theorem dX4_dropOldest_21 : decode cX4_dropOldest 21 = .ok (.getfield 16, 3) := by decide +kernel
theorem dX4_dropOldest_24 : decode cX4_dropOldest 24 = .ok (.iload_n 2, 1) := by decide +kernel
theorem dX4_dropOldest_25 : decode cX4_dropOldest 25 = .ok (.iconst 1, 1) := by decide +kernel
theorem dX4_dropOldest_26 : decode cX4_dropOldest 26 = .ok (.iadd, 1) := by decide +kernel
theorem dX4_dropOldest_27 : decode cX4_dropOldest 27 = .ok (.aaload, 1) := by decide +kernel
theorem dX4_dropOldest_28 : decode cX4_dropOldest 28 = .ok (.aastore, 1) := by decide +kernel
theorem dX4_dropOldest_29 : decode cX4_dropOldest 29 = .ok (.iinc 2 1, 3) := by decide +kernel
theorem dX4_dropOldest_32 : decode cX4_dropOldest 32 = .ok (.goto (-23), 3) := by decide +kernel
theorem dX4_dropOldest_35 : decode cX4_dropOldest 35 = .ok (.aload_n 0, 1) := by decide +kernel
theorem dX4_dropOldest_36 : decode cX4_dropOldest 36 = .ok (.getfield 16, 3) := by decide +kernel
theorem dX4_dropOldest_39 : decode cX4_dropOldest 39 = .ok (.bipush 6, 2) := by decide +kernel
theorem dX4_dropOldest_41 : decode cX4_dropOldest 41 = .ok (.aload_n 1, 1) := by decide +kernel
theorem dX4_dropOldest_42 : decode cX4_dropOldest 42 = .ok (.aastore, 1) := by decide +kernel
theorem dX4_dropOldest_43 : decode cX4_dropOldest 43 = .ok (.return_, 1) := by decide +kernel
