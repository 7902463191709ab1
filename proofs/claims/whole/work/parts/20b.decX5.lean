set_option maxRecDepth 20000 in
theorem gX5_open_X5_turns : GoodIn wsX5_open (wsV RX5 102 RX5 yX5_turns wsX5_turns) := goodIn_app (goodIn_of _ (by decide +kernel)) ggX5_open_X5_turns
set_option maxRecDepth 20000 in
theorem ggX5_open_X5_record : GoodIn wsX5_open wsX5_record := goodIn_r _ [46, 47, 48, 6, 49, 50, 51, 52, 53, 54, 55, 56, 57, 58, 59, 60, 61, 62] (by decide +kernel) (by decide +kernel)
set_option maxRecDepth 20000 in
theorem gX5_open_X5_record : GoodIn wsX5_open (wsV RX5 43 RX5 yX5_record wsX5_record) := goodIn_app (goodIn_of _ (by decide +kernel)) ggX5_open_X5_record
theorem dX5_open_0 : decode cX5_open 0 = .ok (.aload_n 0, 1) := by decide +kernel
theorem dX5_open_1 : decode cX5_open 1 = .ok (.invokevirtual 40, 3) := by decide +kernel
theorem dX5_open_4 : decode cX5_open 4 = .ok (.aload_n 0, 1) := by decide +kernel
theorem dX5_open_5 : decode cX5_open 5 = .ok (.aload_n 0, 1) := by decide +kernel
theorem dX5_open_6 : decode cX5_open 6 = .ok (.iload_n 1, 1) := by decide +kernel
theorem dX5_open_7 : decode cX5_open 7 = .ok (.iconst 1, 1) := by decide +kernel
theorem dX5_open_8 : decode cX5_open 8 = .ok (.invokevirtual 102, 3) := by decide +kernel
theorem dX5_open_11 : decode cX5_open 11 = .ok (.invokevirtual 43, 3) := by decide +kernel
theorem dX5_open_14 : decode cX5_open 14 = .ok (.ireturn, 1) := by decide +kernel
set_option maxRecDepth 20000 in
theorem ggX5_close_X5_remember : GoodIn wsX5_close wsX5_remember := goodIn_r _ [5, 6, 7, 49, 50, 51, 52, 53, 54, 55, 56, 57, 58, 59, 60, 61, 62] (by decide +kernel) (by decide +kernel)
set_option maxRecDepth 20000 in
theorem gX5_close_X5_remember : GoodIn wsX5_close (wsV RX5 40 RX5 yX5_remember wsX5_remember) := goodIn_app (goodIn_of _ (by decide +kernel)) ggX5_close_X5_remember
set_option maxRecDepth 20000 in
theorem ggX5_close_X5_turns : GoodIn wsX5_close wsX5_turns := goodIn_r _ [11, 12, 13, 14, 4, 15, 7, 16, 17, 18, 19, 20, 21, 22, 23, 24, 25, 26, 27, 28, 29, 30, 31, 32, 33, 34, 35, 36, 37, 38, 39, 40, 41, 42, 49, 50, 51, 52, 53, 54, 55, 56, 57, 58, 59, 60, 61, 62] (by decide +kernel) (by decide +kernel)
set_option maxRecDepth 20000 in
theorem gX5_close_X5_turns : GoodIn wsX5_close (wsV RX5 102 RX5 yX5_turns wsX5_turns) := goodIn_app (goodIn_of _ (by decide +kernel)) ggX5_close_X5_turns
set_option maxRecDepth 20000 in
theorem ggX5_close_X5_record : GoodIn wsX5_close wsX5_record := goodIn_r _ [46, 47, 48, 6, 49, 50, 51, 52, 53, 54, 55, 56, 57, 58, 59, 60, 61, 62] (by decide +kernel) (by decide +kernel)
set_option maxRecDepth 20000 in
theorem gX5_close_X5_record : GoodIn wsX5_close (wsV RX5 43 RX5 yX5_record wsX5_record) := goodIn_app (goodIn_of _ (by decide +kernel)) ggX5_close_X5_record
theorem dX5_close_0 : decode cX5_close 0 = .ok (.aload_n 0, 1) := by decide +kernel
theorem dX5_close_1 : decode cX5_close 1 = .ok (.invokevirtual 40, 3) := by decide +kernel
theorem dX5_close_4 : decode cX5_close 4 = .ok (.aload_n 0, 1) := by decide +kernel
theorem dX5_close_5 : decode cX5_close 5 = .ok (.aload_n 0, 1) := by decide +kernel
theorem dX5_close_6 : decode cX5_close 6 = .ok (.iload_n 1, 1) := by decide +kernel
theorem dX5_close_7 : decode cX5_close 7 = .ok (.iconst 0, 1) := by decide +kernel
theorem dX5_close_8 : decode cX5_close 8 = .ok (.invokevirtual 102, 3) := by decide +kernel
theorem dX5_close_11 : decode cX5_close 11 = .ok (.invokevirtual 43, 3) := by decide +kernel
theorem dX5_close_14 : decode cX5_close 14 = .ok (.ireturn, 1) := by decide +kernel
set_option maxRecDepth 20000 in
theorem ggX5_price_X5_remember : GoodIn wsX5_price wsX5_remember := goodIn_r _ [5, 6, 7, 49, 50, 51, 52, 53, 54, 55, 56, 57, 58, 59, 60, 61, 62] (by decide +kernel) (by decide +kernel)
set_option maxRecDepth 20000 in
theorem gX5_price_X5_remember : GoodIn wsX5_price (wsV RX5 40 RX5 yX5_remember wsX5_remember) := goodIn_app (goodIn_of _ (by decide +kernel)) ggX5_price_X5_remember
set_option maxRecDepth 20000 in
theorem ggX5_price_X5_costs : GoodIn wsX5_price wsX5_costs := goodIn_r _ [11, 12, 13, 14, 4, 15, 7, 16, 17, 18, 19, 20, 21, 22, 23, 24, 25, 26, 27, 28, 29, 30, 31, 32, 33, 34, 35, 36, 37, 38, 39, 40, 41, 42, 49, 50, 51, 52, 53, 54, 55, 56, 57, 58, 59, 60, 61, 62] (by decide +kernel) (by decide +kernel)
set_option maxRecDepth 20000 in
theorem gX5_price_X5_costs : GoodIn wsX5_price (wsV RX5 105 RX5 yX5_costs wsX5_costs) := goodIn_app (goodIn_of _ (by decide +kernel)) ggX5_price_X5_costs
set_option maxRecDepth 20000 in
theorem ggX5_price_X5_record : GoodIn wsX5_price wsX5_record := goodIn_r _ [46, 47, 48, 6, 49, 50, 51, 52, 53, 54, 55, 56, 57, 58, 59, 60, 61, 62] (by decide +kernel) (by decide +kernel)
set_option maxRecDepth 20000 in
theorem gX5_price_X5_record : GoodIn wsX5_price (wsV RX5 43 RX5 yX5_record wsX5_record) := goodIn_app (goodIn_of _ (by decide +kernel)) ggX5_price_X5_record
theorem dX5_price_0 : decode cX5_price 0 = .ok (.aload_n 0, 1) := by decide +kernel
theorem dX5_price_1 : decode cX5_price 1 = .ok (.invokevirtual 40, 3) := by decide +kernel
theorem dX5_price_4 : decode cX5_price 4 = .ok (.aload_n 0, 1) := by decide +kernel
theorem dX5_price_5 : decode cX5_price 5 = .ok (.aload_n 0, 1) := by decide +kernel
theorem dX5_price_6 : decode cX5_price 6 = .ok (.iload_n 1, 1) := by decide +kernel
theorem dX5_price_7 : decode cX5_price 7 = .ok (.iload_n 2, 1) := by decide +kernel
theorem dX5_price_8 : decode cX5_price 8 = .ok (.invokevirtual 105, 3) := by decide +kernel
theorem dX5_price_11 : decode cX5_price 11 = .ok (.invokevirtual 43, 3) := by decide +kernel
theorem dX5_price_14 : decode cX5_price 14 = .ok (.ireturn, 1) := by decide +kernel
set_option maxRecDepth 20000 in
theorem ggX5_pass_X5_remember : GoodIn wsX5_pass wsX5_remember := goodIn_r _ [5, 6, 7, 54, 55, 56, 57, 58, 59, 60, 61, 62, 63, 64, 65, 66, 67] (by decide +kernel) (by decide +kernel)
set_option maxRecDepth 20000 in
theorem gX5_pass_X5_remember : GoodIn wsX5_pass (wsV RX5 40 RX5 yX5_remember wsX5_remember) := goodIn_app (goodIn_of _ (by decide +kernel)) ggX5_pass_X5_remember
set_option maxRecDepth 20000 in
theorem ggX5_pass_X5_waits : GoodIn wsX5_pass wsX5_waits := goodIn_r _ [11, 7, 12, 13, 14, 4, 15, 16, 17, 18, 19, 20, 21, 22, 23, 24, 25, 26, 27, 28, 29, 30, 31, 32, 33, 34, 35, 36, 37, 38, 39, 40, 41, 42, 43, 44, 45, 46, 47, 54, 55, 56, 57, 58, 59, 60, 61, 62, 63, 64, 65, 66, 67] (by decide +kernel) (by decide +kernel)
set_option maxRecDepth 20000 in
theorem gX5_pass_X5_waits : GoodIn wsX5_pass (wsV RX5 108 RX5 yX5_waits wsX5_waits) := goodIn_app (goodIn_of _ (by decide +kernel)) ggX5_pass_X5_waits
set_option maxRecDepth 20000 in
theorem ggX5_pass_X5_record : GoodIn wsX5_pass wsX5_record := goodIn_r _ [51, 52, 53, 6, 54, 55, 56, 57, 58, 59, 60, 61, 62, 63, 64, 65, 66, 67] (by decide +kernel) (by decide +kernel)
set_option maxRecDepth 20000 in
theorem gX5_pass_X5_record : GoodIn wsX5_pass (wsV RX5 43 RX5 yX5_record wsX5_record) := goodIn_app (goodIn_of _ (by decide +kernel)) ggX5_pass_X5_record
theorem dX5_pass_0 : decode cX5_pass 0 = .ok (.aload_n 0, 1) := by decide +kernel
theorem dX5_pass_1 : decode cX5_pass 1 = .ok (.invokevirtual 40, 3) := by decide +kernel
theorem dX5_pass_4 : decode cX5_pass 4 = .ok (.aload_n 0, 1) := by decide +kernel
theorem dX5_pass_5 : decode cX5_pass 5 = .ok (.aload_n 0, 1) := by decide +kernel
theorem dX5_pass_6 : decode cX5_pass 6 = .ok (.iload_n 1, 1) := by decide +kernel
theorem dX5_pass_7 : decode cX5_pass 7 = .ok (.invokevirtual 108, 3) := by decide +kernel
theorem dX5_pass_10 : decode cX5_pass 10 = .ok (.invokevirtual 43, 3) := by decide +kernel
theorem dX5_pass_13 : decode cX5_pass 13 = .ok (.ireturn, 1) := by decide +kernel
set_option maxRecDepth 20000 in
theorem ggX5_of_X5_isLanding : GoodIn wsX5_of wsX5_isLanding := goodIn_r _ [5, 6, 7, 8, 4, 9, 14, 15, 16, 17, 18, 19, 20, 21, 22, 23, 24, 25, 26, 27] (by decide +kernel) (by decide +kernel)
set_option maxRecDepth 20000 in
theorem gX5_of_X5_isLanding : GoodIn wsX5_of (wsV RX5 88 RX5 yX5_isLanding wsX5_isLanding) := goodIn_app (goodIn_of _ (by decide +kernel)) ggX5_of_X5_isLanding
set_option maxRecDepth 20000 in
theorem ggX5_of_X5_in : GoodIn wsX5_of wsX5_in := goodIn_r _ [9] (by decide +kernel) (by decide +kernel)
set_option maxRecDepth 20000 in
theorem gX5_of_X5_in : GoodIn wsX5_of (va_wsS RX5 32 yX5_in wsX5_in) := goodIn_app (goodIn_of _ (by decide +kernel)) ggX5_of_X5_in
set_option maxRecDepth 20000 in
theorem ggX5_of_X5_its : GoodIn wsX5_of wsX5_its := goodIn_r _ [13, 6, 14, 15, 16, 17, 18, 19, 20, 21, 22, 23, 24, 25, 26, 27] (by decide +kernel) (by decide +kernel)
set_option maxRecDepth 20000 in
theorem gX5_of_X5_its : GoodIn wsX5_of (wsV RX5 47 RX5 yX5_its wsX5_its) := goodIn_app (goodIn_of _ (by decide +kernel)) ggX5_of_X5_its
theorem dX5_of_0 : decode cX5_of 0 = .ok (.aload_n 0, 1) := by decide +kernel
theorem dX5_of_1 : decode cX5_of 1 = .ok (.iload_n 1, 1) := by decide +kernel
theorem dX5_of_2 : decode cX5_of 2 = .ok (.invokevirtual 88, 3) := by decide +kernel
theorem dX5_of_5 : decode cX5_of 5 = .ok (.ifCond .ne 7, 3) := by decide +kernel
theorem dX5_of_8 : decode cX5_of 8 = .ok (.iconst (-1), 1) := by decide +kernel
theorem dX5_of_9 : decode cX5_of 9 = .ok (.goto 25, 3) := by decide +kernel
theorem dX5_of_12 : decode cX5_of 12 = .ok (.iload_n 2, 1) := by decide +kernel
theorem dX5_of_13 : decode cX5_of 13 = .ok (.i2l, 1) := by decide +kernel
theorem dX5_of_14 : decode cX5_of 14 = .ok (.iconst 0, 1) := by decide +kernel
theorem dX5_of_15 : decode cX5_of 15 = .ok (.bipush 7, 2) := by decide +kernel
theorem dX5_of_17 : decode cX5_of 17 = .ok (.invokestatic 32, 3) := by decide +kernel
theorem dX5_of_20 : decode cX5_of 20 = .ok (.ifCond .eq 12, 3) := by decide +kernel
theorem dX5_of_23 : decode cX5_of 23 = .ok (.aload_n 0, 1) := by decide +kernel
theorem dX5_of_24 : decode cX5_of 24 = .ok (.iload_n 1, 1) := by decide +kernel
theorem dX5_of_25 : decode cX5_of 25 = .ok (.iload_n 2, 1) := by decide +kernel
theorem dX5_of_26 : decode cX5_of 26 = .ok (.invokevirtual 47, 3) := by decide +kernel
theorem dX5_of_29 : decode cX5_of 29 = .ok (.goto 5, 3) := by decide +kernel
theorem dX5_of_32 : decode cX5_of 32 = .ok (.bipush (-2), 2) := by decide +kernel
theorem dX5_of_34 : decode cX5_of 34 = .ok (.ireturn, 1) := by decide +kernel
set_option maxRecDepth 20000 in
theorem ggX5_mask_X5_its : GoodIn wsX5_mask wsX5_its := goodIn_r _ [6, 1, 7, 8, 9, 10, 11, 12, 13, 14, 15, 16, 17, 18, 19, 20] (by decide +kernel) (by decide +kernel)
set_option maxRecDepth 20000 in
theorem gX5_mask_X5_its : GoodIn wsX5_mask (wsV RX5 47 RX5 yX5_its wsX5_its) := goodIn_app (goodIn_of _ (by decide +kernel)) ggX5_mask_X5_its
theorem dX5_mask_0 : decode cX5_mask 0 = .ok (.iconst 0, 1) := by decide +kernel
theorem dX5_mask_1 : decode cX5_mask 1 = .ok (.istore_n 2, 1) := by decide +kernel
theorem dX5_mask_2 : decode cX5_mask 2 = .ok (.iconst 0, 1) := by decide +kernel
theorem dX5_mask_3 : decode cX5_mask 3 = .ok (.istore_n 3, 1) := by decide +kernel
theorem dX5_mask_4 : decode cX5_mask 4 = .ok (.iload_n 3, 1) := by decide +kernel
theorem dX5_mask_5 : decode cX5_mask 5 = .ok (.aload_n 0, 1) := by decide +kernel
theorem dX5_mask_6 : decode cX5_mask 6 = .ok (.getfield 7, 3) := by decide +kernel
theorem dX5_mask_9 : decode cX5_mask 9 = .ok (.bipush 8, 2) := by decide +kernel
theorem dX5_mask_11 : decode cX5_mask 11 = .ok (.iaload, 1) := by decide +kernel
theorem dX5_mask_12 : decode cX5_mask 12 = .ok (.if_icmp .ge 20, 3) := by decide +kernel
theorem dX5_mask_15 : decode cX5_mask 15 = .ok (.iload_n 2, 1) := by decide +kernel
theorem dX5_mask_16 : decode cX5_mask 16 = .ok (.aload_n 0, 1) := by decide +kernel
theorem dX5_mask_17 : decode cX5_mask 17 = .ok (.iload_n 3, 1) := by decide +kernel
theorem dX5_mask_18 : decode cX5_mask 18 = .ok (.iload_n 1, 1) := by decide +kernel
theorem dX5_mask_19 : decode cX5_mask 19 = .ok (.invokevirtual 47, 3) := by decide +kernel
theorem dX5_mask_22 : decode cX5_mask 22 = .ok (.iload_n 3, 1) := by decide +kernel
theorem dX5_mask_23 : decode cX5_mask 23 = .ok (.ishl, 1) := by decide +kernel
theorem dX5_mask_24 : decode cX5_mask 24 = .ok (.ior, 1) := by decide +kernel
theorem dX5_mask_25 : decode cX5_mask 25 = .ok (.istore_n 2, 1) := by decide +kernel
theorem dX5_mask_26 : decode cX5_mask 26 = .ok (.iinc 3 1, 3) := by decide +kernel
theorem dX5_mask_29 : decode cX5_mask 29 = .ok (.goto (-25), 3) := by decide +kernel
theorem dX5_mask_32 : decode cX5_mask 32 = .ok (.iload_n 2, 1) := by decide +kernel
theorem dX5_mask_33 : decode cX5_mask 33 = .ok (.ireturn, 1) := by decide +kernel
set_option maxRecDepth 20000 in
theorem ggX5_count_X5_in : GoodIn wsX5_count wsX5_in := goodIn_r _ [7] (by decide +kernel) (by decide +kernel)
set_option maxRecDepth 20000 in
theorem gX5_count_X5_in : GoodIn wsX5_count (va_wsS RX5 32 yX5_in wsX5_in) := goodIn_app (goodIn_of _ (by decide +kernel)) ggX5_count_X5_in
set_option maxRecDepth 20000 in
theorem ggX5_count_X5_mask : GoodIn wsX5_count wsX5_mask := goodIn_r _ [11, 1, 12, 13, 14, 6, 15, 20, 21, 22, 23, 24, 25, 26, 27, 28, 29, 30, 31, 32, 33] (by decide +kernel) (by decide +kernel)
set_option maxRecDepth 20000 in
theorem gX5_count_X5_mask : GoodIn wsX5_count (wsV RX5 111 RX5 yX5_mask wsX5_mask) := goodIn_app (goodIn_of _ (by decide +kernel)) ggX5_count_X5_mask
set_option maxRecDepth 20000 in
theorem ggX5_count_X5_taken : GoodIn wsX5_count wsX5_taken := goodIn_r _ [19, 1, 12, 13, 14, 6, 15, 20, 21, 22, 23, 24, 25, 26, 27, 28, 29, 30, 31, 32, 33] (by decide +kernel) (by decide +kernel)
set_option maxRecDepth 20000 in
theorem gX5_count_X5_taken : GoodIn wsX5_count (wsV RX5 52 RX5 yX5_taken wsX5_taken) := goodIn_app (goodIn_of _ (by decide +kernel)) ggX5_count_X5_taken
theorem dX5_count_0 : decode cX5_count 0 = .ok (.iload_n 1, 1) := by decide +kernel
theorem dX5_count_1 : decode cX5_count 1 = .ok (.i2l, 1) := by decide +kernel
theorem dX5_count_2 : decode cX5_count 2 = .ok (.bipush 7, 2) := by decide +kernel
theorem dX5_count_4 : decode cX5_count 4 = .ok (.bipush 13, 2) := by decide +kernel
theorem dX5_count_6 : decode cX5_count 6 = .ok (.invokestatic 32, 3) := by decide +kernel
theorem dX5_count_9 : decode cX5_count 9 = .ok (.ifCond .eq 13, 3) := by decide +kernel
theorem dX5_count_12 : decode cX5_count 12 = .ok (.aload_n 0, 1) := by decide +kernel
theorem dX5_count_13 : decode cX5_count 13 = .ok (.getfield 7, 3) := by decide +kernel
theorem dX5_count_16 : decode cX5_count 16 = .ok (.iload_n 1, 1) := by decide +kernel
theorem dX5_count_17 : decode cX5_count 17 = .ok (.bipush 7, 2) := by decide +kernel
theorem dX5_count_19 : decode cX5_count 19 = .ok (.isub, 1) := by decide +kernel
theorem dX5_count_20 : decode cX5_count 20 = .ok (.iaload, 1) := by decide +kernel
theorem dX5_count_21 : decode cX5_count 21 = .ok (.ireturn, 1) := by decide +kernel
theorem dX5_count_22 : decode cX5_count 22 = .ok (.iload_n 1, 1) := by decide +kernel
theorem dX5_count_23 : decode cX5_count 23 = .ok (.tableswitch 136 0 15 #[77, 85, 93, 99, 105, 110, 118, 136, 136, 136, 136, 136, 136, 136, 126, 131], 77) := by decide +kernel
theorem dX5_count_100 : decode cX5_count 100 = .ok (.aload_n 0, 1) := by decide +kernel
theorem dX5_count_101 : decode cX5_count 101 = .ok (.getfield 7, 3) := by decide +kernel
theorem dX5_count_104 : decode cX5_count 104 = .ok (.bipush 7, 2) := by decide +kernel
theorem dX5_count_106 : decode cX5_count 106 = .ok (.iaload, 1) := by decide +kernel
theorem dX5_count_107 : decode cX5_count 107 = .ok (.ireturn, 1) := by decide +kernel
theorem dX5_count_108 : decode cX5_count 108 = .ok (.aload_n 0, 1) := by decide +kernel
theorem dX5_count_109 : decode cX5_count 109 = .ok (.getfield 7, 3) := by decide +kernel
theorem dX5_count_112 : decode cX5_count 112 = .ok (.bipush 8, 2) := by decide +kernel
theorem dX5_count_114 : decode cX5_count 114 = .ok (.iaload, 1) := by decide +kernel
theorem dX5_count_115 : decode cX5_count 115 = .ok (.ireturn, 1) := by decide +kernel
theorem dX5_count_116 : decode cX5_count 116 = .ok (.aload_n 0, 1) := by decide +kernel
theorem dX5_count_117 : decode cX5_count 117 = .ok (.iconst 0, 1) := by decide +kernel
theorem dX5_count_118 : decode cX5_count 118 = .ok (.invokevirtual 111, 3) := by decide +kernel
theorem dX5_count_121 : decode cX5_count 121 = .ok (.ireturn, 1) := by decide +kernel
theorem dX5_count_122 : decode cX5_count 122 = .ok (.aload_n 0, 1) := by decide +kernel
theorem dX5_count_123 : decode cX5_count 123 = .ok (.iconst 3, 1) := by decide +kernel
theorem dX5_count_124 : decode cX5_count 124 = .ok (.invokevirtual 111, 3) := by decide +kernel
theorem dX5_count_127 : decode cX5_count 127 = .ok (.ireturn, 1) := by decide +kernel
theorem dX5_count_128 : decode cX5_count 128 = .ok (.aload_n 0, 1) := by decide +kernel
theorem dX5_count_129 : decode cX5_count 129 = .ok (.invokevirtual 52, 3) := by decide +kernel
theorem dX5_count_132 : decode cX5_count 132 = .ok (.ireturn, 1) := by decide +kernel
theorem dX5_count_133 : decode cX5_count 133 = .ok (.aload_n 0, 1) := by decide +kernel
theorem dX5_count_134 : decode cX5_count 134 = .ok (.getfield 7, 3) := by decide +kernel
theorem dX5_count_137 : decode cX5_count 137 = .ok (.bipush 9, 2) := by decide +kernel
theorem dX5_count_139 : decode cX5_count 139 = .ok (.iaload, 1) := by decide +kernel
theorem dX5_count_140 : decode cX5_count 140 = .ok (.ireturn, 1) := by decide +kernel
theorem dX5_count_141 : decode cX5_count 141 = .ok (.aload_n 0, 1) := by decide +kernel
theorem dX5_count_142 : decode cX5_count 142 = .ok (.getfield 7, 3) := by decide +kernel
theorem dX5_count_145 : decode cX5_count 145 = .ok (.bipush 10, 2) := by decide +kernel
theorem dX5_count_147 : decode cX5_count 147 = .ok (.iaload, 1) := by decide +kernel
theorem dX5_count_148 : decode cX5_count 148 = .ok (.ireturn, 1) := by decide +kernel
theorem dX5_count_149 : decode cX5_count 149 = .ok (.aload_n 0, 1) := by decide +kernel
theorem dX5_count_150 : decode cX5_count 150 = .ok (.getfield 114, 3) := by decide +kernel
theorem dX5_count_153 : decode cX5_count 153 = .ok (.ireturn, 1) := by decide +kernel
theorem dX5_count_154 : decode cX5_count 154 = .ok (.aload_n 0, 1) := by decide +kernel
theorem dX5_count_155 : decode cX5_count 155 = .ok (.getfield 36, 3) := by decide +kernel
theorem dX5_count_158 : decode cX5_count 158 = .ok (.ireturn, 1) := by decide +kernel
theorem dX5_count_159 : decode cX5_count 159 = .ok (.bipush (-2), 2) := by decide +kernel
theorem dX5_count_161 : decode cX5_count 161 = .ok (.ireturn, 1) := by decide +kernel
set_option maxRecDepth 20000 in
theorem ggX5_rank_X5_its : GoodIn wsX5_rank wsX5_its := goodIn_r _ [6, 1, 7, 8, 9, 10, 11, 12, 13, 14, 15, 16, 17, 18, 19, 20] (by decide +kernel) (by decide +kernel)
set_option maxRecDepth 20000 in
theorem gX5_rank_X5_its : GoodIn wsX5_rank (wsV RX5 47 RX5 yX5_its wsX5_its) := goodIn_app (goodIn_of _ (by decide +kernel)) ggX5_rank_X5_its
theorem dX5_rank_0 : decode cX5_rank 0 = .ok (.iconst 0, 1) := by decide +kernel
theorem dX5_rank_1 : decode cX5_rank 1 = .ok (.istore_n 2, 1) := by decide +kernel
theorem dX5_rank_2 : decode cX5_rank 2 = .ok (.iconst 0, 1) := by decide +kernel
theorem dX5_rank_3 : decode cX5_rank 3 = .ok (.istore_n 3, 1) := by decide +kernel
theorem dX5_rank_4 : decode cX5_rank 4 = .ok (.iload_n 3, 1) := by decide +kernel
theorem dX5_rank_5 : decode cX5_rank 5 = .ok (.aload_n 0, 1) := by decide +kernel
theorem dX5_rank_6 : decode cX5_rank 6 = .ok (.getfield 7, 3) := by decide +kernel
theorem dX5_rank_9 : decode cX5_rank 9 = .ok (.bipush 8, 2) := by decide +kernel
theorem dX5_rank_11 : decode cX5_rank 11 = .ok (.iaload, 1) := by decide +kernel
theorem dX5_rank_12 : decode cX5_rank 12 = .ok (.if_icmp .ge 83, 3) := by decide +kernel
theorem dX5_rank_15 : decode cX5_rank 15 = .ok (.aload_n 0, 1) := by decide +kernel
theorem dX5_rank_16 : decode cX5_rank 16 = .ok (.iload_n 3, 1) := by decide +kernel
theorem dX5_rank_17 : decode cX5_rank 17 = .ok (.iconst 0, 1) := by decide +kernel
theorem dX5_rank_18 : decode cX5_rank 18 = .ok (.invokevirtual 47, 3) := by decide +kernel
theorem dX5_rank_21 : decode cX5_rank 21 = .ok (.iconst 1, 1) := by decide +kernel
theorem dX5_rank_22 : decode cX5_rank 22 = .ok (.if_icmp .ne 16, 3) := by decide +kernel
theorem dX5_rank_25 : decode cX5_rank 25 = .ok (.aload_n 0, 1) := by decide +kernel
theorem dX5_rank_26 : decode cX5_rank 26 = .ok (.iload_n 3, 1) := by decide +kernel
theorem dX5_rank_27 : decode cX5_rank 27 = .ok (.iconst 3, 1) := by decide +kernel
theorem dX5_rank_28 : decode cX5_rank 28 = .ok (.invokevirtual 47, 3) := by decide +kernel
theorem dX5_rank_31 : decode cX5_rank 31 = .ok (.ifCond .ne 7, 3) := by decide +kernel
theorem dX5_rank_34 : decode cX5_rank 34 = .ok (.iconst 1, 1) := by decide +kernel
theorem dX5_rank_35 : decode cX5_rank 35 = .ok (.goto 4, 3) := by decide +kernel
theorem dX5_rank_38 : decode cX5_rank 38 = .ok (.iconst 0, 1) := by decide +kernel
theorem dX5_rank_39 : decode cX5_rank 39 = .ok (.istore 4, 2) := by decide +kernel
theorem dX5_rank_41 : decode cX5_rank 41 = .ok (.iload_n 2, 1) := by decide +kernel
theorem dX5_rank_42 : decode cX5_rank 42 = .ok (.iload 4, 2) := by decide +kernel
theorem dX5_rank_44 : decode cX5_rank 44 = .ok (.ifCond .eq 42, 3) := by decide +kernel
theorem dX5_rank_47 : decode cX5_rank 47 = .ok (.aload_n 0, 1) := by decide +kernel
theorem dX5_rank_48 : decode cX5_rank 48 = .ok (.iload_n 3, 1) := by decide +kernel
theorem dX5_rank_49 : decode cX5_rank 49 = .ok (.iconst 1, 1) := by decide +kernel
theorem dX5_rank_50 : decode cX5_rank 50 = .ok (.invokevirtual 47, 3) := by decide +kernel
theorem dX5_rank_53 : decode cX5_rank 53 = .ok (.aload_n 0, 1) := by decide +kernel
theorem dX5_rank_54 : decode cX5_rank 54 = .ok (.iload_n 1, 1) := by decide +kernel
theorem dX5_rank_55 : decode cX5_rank 55 = .ok (.iconst 1, 1) := by decide +kernel
theorem dX5_rank_56 : decode cX5_rank 56 = .ok (.invokevirtual 47, 3) := by decide +kernel
theorem dX5_rank_59 : decode cX5_rank 59 = .ok (.if_icmp .lt 23, 3) := by decide +kernel
theorem dX5_rank_62 : decode cX5_rank 62 = .ok (.aload_n 0, 1) := by decide +kernel
theorem dX5_rank_63 : decode cX5_rank 63 = .ok (.iload_n 3, 1) := by decide +kernel
theorem dX5_rank_64 : decode cX5_rank 64 = .ok (.iconst 1, 1) := by decide +kernel
theorem dX5_rank_65 : decode cX5_rank 65 = .ok (.invokevirtual 47, 3) := by decide +kernel
theorem dX5_rank_68 : decode cX5_rank 68 = .ok (.aload_n 0, 1) := by decide +kernel
theorem dX5_rank_69 : decode cX5_rank 69 = .ok (.iload_n 1, 1) := by decide +kernel
theorem dX5_rank_70 : decode cX5_rank 70 = .ok (.iconst 1, 1) := by decide +kernel
theorem dX5_rank_71 : decode cX5_rank 71 = .ok (.invokevirtual 47, 3) := by decide +kernel
theorem dX5_rank_74 : decode cX5_rank 74 = .ok (.if_icmp .ne 12, 3) := by decide +kernel
theorem dX5_rank_77 : decode cX5_rank 77 = .ok (.iload_n 3, 1) := by decide +kernel
theorem dX5_rank_78 : decode cX5_rank 78 = .ok (.iload_n 1, 1) := by decide +kernel
theorem dX5_rank_79 : decode cX5_rank 79 = .ok (.if_icmp .ge 7, 3) := by decide +kernel
theorem dX5_rank_82 : decode cX5_rank 82 = .ok (.iconst 1, 1) := by decide +kernel
theorem dX5_rank_83 : decode cX5_rank 83 = .ok (.goto 4, 3) := by decide +kernel
theorem dX5_rank_86 : decode cX5_rank 86 = .ok (.iconst 0, 1) := by decide +kernel
theorem dX5_rank_87 : decode cX5_rank 87 = .ok (.iadd, 1) := by decide +kernel
theorem dX5_rank_88 : decode cX5_rank 88 = .ok (.istore_n 2, 1) := by decide +kernel
theorem dX5_rank_89 : decode cX5_rank 89 = .ok (.iinc 3 1, 3) := by decide +kernel
theorem dX5_rank_92 : decode cX5_rank 92 = .ok (.goto (-88), 3) := by decide +kernel
theorem dX5_rank_95 : decode cX5_rank 95 = .ok (.iload_n 2, 1) := by decide +kernel
theorem dX5_rank_96 : decode cX5_rank 96 = .ok (.ireturn, 1) := by decide +kernel
set_option maxRecDepth 20000 in
theorem ggX5_choice_X5_its : GoodIn wsX5_choice wsX5_its := goodIn_r _ [6, 1, 11, 12, 13, 14, 15, 16, 17, 18, 19, 20, 21, 22, 23, 24] (by decide +kernel) (by decide +kernel)
set_option maxRecDepth 20000 in
theorem gX5_choice_X5_its : GoodIn wsX5_choice (wsV RX5 47 RX5 yX5_its wsX5_its) := goodIn_app (goodIn_of _ (by decide +kernel)) ggX5_choice_X5_its
set_option maxRecDepth 20000 in
theorem ggX5_choice_X5_rank : GoodIn wsX5_choice wsX5_rank := goodIn_r _ [10, 1, 2, 3, 4, 5, 6, 11, 12, 13, 14, 15, 16, 17, 18, 19, 20, 21, 22, 23, 24] (by decide +kernel) (by decide +kernel)
set_option maxRecDepth 20000 in
theorem gX5_choice_X5_rank : GoodIn wsX5_choice (wsV RX5 117 RX5 yX5_rank wsX5_rank) := goodIn_app (goodIn_of _ (by decide +kernel)) ggX5_choice_X5_rank
theorem dX5_choice_0 : decode cX5_choice 0 = .ok (.iconst 0, 1) := by decide +kernel
theorem dX5_choice_1 : decode cX5_choice 1 = .ok (.istore_n 2, 1) := by decide +kernel
theorem dX5_choice_2 : decode cX5_choice 2 = .ok (.iload_n 2, 1) := by decide +kernel
theorem dX5_choice_3 : decode cX5_choice 3 = .ok (.aload_n 0, 1) := by decide +kernel
theorem dX5_choice_4 : decode cX5_choice 4 = .ok (.getfield 7, 3) := by decide +kernel
theorem dX5_choice_7 : decode cX5_choice 7 = .ok (.bipush 8, 2) := by decide +kernel
theorem dX5_choice_9 : decode cX5_choice 9 = .ok (.iaload, 1) := by decide +kernel
theorem dX5_choice_10 : decode cX5_choice 10 = .ok (.if_icmp .ge 39, 3) := by decide +kernel
theorem dX5_choice_13 : decode cX5_choice 13 = .ok (.aload_n 0, 1) := by decide +kernel
theorem dX5_choice_14 : decode cX5_choice 14 = .ok (.iload_n 2, 1) := by decide +kernel
theorem dX5_choice_15 : decode cX5_choice 15 = .ok (.iconst 0, 1) := by decide +kernel
theorem dX5_choice_16 : decode cX5_choice 16 = .ok (.invokevirtual 47, 3) := by decide +kernel
theorem dX5_choice_19 : decode cX5_choice 19 = .ok (.iconst 1, 1) := by decide +kernel
theorem dX5_choice_20 : decode cX5_choice 20 = .ok (.if_icmp .ne 23, 3) := by decide +kernel
theorem dX5_choice_23 : decode cX5_choice 23 = .ok (.aload_n 0, 1) := by decide +kernel
theorem dX5_choice_24 : decode cX5_choice 24 = .ok (.iload_n 2, 1) := by decide +kernel
theorem dX5_choice_25 : decode cX5_choice 25 = .ok (.iconst 3, 1) := by decide +kernel
theorem dX5_choice_26 : decode cX5_choice 26 = .ok (.invokevirtual 47, 3) := by decide +kernel
theorem dX5_choice_29 : decode cX5_choice 29 = .ok (.ifCond .ne 14, 3) := by decide +kernel
theorem dX5_choice_32 : decode cX5_choice 32 = .ok (.aload_n 0, 1) := by decide +kernel
theorem dX5_choice_33 : decode cX5_choice 33 = .ok (.iload_n 2, 1) := by decide +kernel
theorem dX5_choice_34 : decode cX5_choice 34 = .ok (.invokevirtual 117, 3) := by decide +kernel
theorem dX5_choice_37 : decode cX5_choice 37 = .ok (.iload_n 1, 1) := by decide +kernel
theorem dX5_choice_38 : decode cX5_choice 38 = .ok (.if_icmp .ne 5, 3) := by decide +kernel
theorem dX5_choice_41 : decode cX5_choice 41 = .ok (.iload_n 2, 1) := by decide +kernel
theorem dX5_choice_42 : decode cX5_choice 42 = .ok (.ireturn, 1) := by decide +kernel
theorem dX5_choice_43 : decode cX5_choice 43 = .ok (.iinc 2 1, 3) := by decide +kernel
theorem dX5_choice_46 : decode cX5_choice 46 = .ok (.goto (-44), 3) := by decide +kernel
theorem dX5_choice_49 : decode cX5_choice 49 = .ok (.iconst (-1), 1) := by decide +kernel
theorem dX5_choice_50 : decode cX5_choice 50 = .ok (.ireturn, 1) := by decide +kernel
set_option maxRecDepth 20000 in
theorem ggX5_log_X5_in : GoodIn wsX5_log wsX5_in := goodIn_r _ [5] (by decide +kernel) (by decide +kernel)
set_option maxRecDepth 20000 in
theorem gX5_log_X5_in : GoodIn wsX5_log (va_wsS RX5 32 yX5_in wsX5_in) := goodIn_app (goodIn_of _ (by decide +kernel)) ggX5_log_X5_in
theorem dX5_log_0 : decode cX5_log 0 = .ok (.iload_n 1, 1) := by decide +kernel
theorem dX5_log_1 : decode cX5_log 1 = .ok (.i2l, 1) := by decide +kernel
theorem dX5_log_2 : decode cX5_log 2 = .ok (.iconst 0, 1) := by decide +kernel
theorem dX5_log_3 : decode cX5_log 3 = .ok (.aload_n 0, 1) := by decide +kernel
theorem dX5_log_4 : decode cX5_log 4 = .ok (.getfield 7, 3) := by decide +kernel
theorem dX5_log_7 : decode cX5_log 7 = .ok (.bipush 10, 2) := by decide +kernel
theorem dX5_log_9 : decode cX5_log 9 = .ok (.iaload, 1) := by decide +kernel
theorem dX5_log_10 : decode cX5_log 10 = .ok (.iconst 1, 1) := by decide +kernel
theorem dX5_log_11 : decode cX5_log 11 = .ok (.isub, 1) := by decide +kernel
theorem dX5_log_12 : decode cX5_log 12 = .ok (.invokestatic 32, 3) := by decide +kernel
theorem dX5_log_15 : decode cX5_log 15 = .ok (.ifCond .ne 7, 3) := by decide +kernel
theorem dX5_log_18 : decode cX5_log 18 = .ok (.iconst (-1), 1) := by decide +kernel
theorem dX5_log_19 : decode cX5_log 19 = .ok (.goto 31, 3) := by decide +kernel
theorem dX5_log_22 : decode cX5_log 22 = .ok (.iload_n 2, 1) := by decide +kernel
theorem dX5_log_23 : decode cX5_log 23 = .ok (.i2l, 1) := by decide +kernel
theorem dX5_log_24 : decode cX5_log 24 = .ok (.iconst 0, 1) := by decide +kernel
theorem dX5_log_25 : decode cX5_log 25 = .ok (.iconst 2, 1) := by decide +kernel
theorem dX5_log_26 : decode cX5_log 26 = .ok (.invokestatic 32, 3) := by decide +kernel
theorem dX5_log_29 : decode cX5_log 29 = .ok (.ifCond .eq 19, 3) := by decide +kernel
theorem dX5_log_32 : decode cX5_log 32 = .ok (.aload_n 0, 1) := by decide +kernel
theorem dX5_log_33 : decode cX5_log 33 = .ok (.getfield 7, 3) := by decide +kernel
theorem dX5_log_36 : decode cX5_log 36 = .ok (.bipush 11, 2) := by decide +kernel
theorem dX5_log_38 : decode cX5_log 38 = .ok (.iconst 3, 1) := by decide +kernel
theorem dX5_log_39 : decode cX5_log 39 = .ok (.iload_n 1, 1) := by decide +kernel
theorem dX5_log_40 : decode cX5_log 40 = .ok (.imul, 1) := by decide +kernel
theorem dX5_log_41 : decode cX5_log 41 = .ok (.iadd, 1) := by decide +kernel
theorem dX5_log_42 : decode cX5_log 42 = .ok (.iload_n 2, 1) := by decide +kernel
theorem dX5_log_43 : decode cX5_log 43 = .ok (.iadd, 1) := by decide +kernel
theorem dX5_log_44 : decode cX5_log 44 = .ok (.iaload, 1) := by decide +kernel
theorem dX5_log_45 : decode cX5_log 45 = .ok (.goto 5, 3) := by decide +kernel
theorem dX5_log_48 : decode cX5_log 48 = .ok (.bipush (-2), 2) := by decide +kernel
theorem dX5_log_50 : decode cX5_log 50 = .ok (.ireturn, 1) := by decide +kernel
set_option maxRecDepth 20000 in
theorem ggX5_why_X5_isLanding : GoodIn wsX5_why wsX5_isLanding := goodIn_r _ [5, 6, 7, 8, 4, 9, 18, 19, 20, 21, 22, 23, 24, 25, 26, 27, 28, 29, 30, 31] (by decide +kernel) (by decide +kernel)
set_option maxRecDepth 20000 in
theorem gX5_why_X5_isLanding : GoodIn wsX5_why (wsV RX5 88 RX5 yX5_isLanding wsX5_isLanding) := goodIn_app (goodIn_of _ (by decide +kernel)) ggX5_why_X5_isLanding
set_option maxRecDepth 20000 in
theorem ggX5_why_X5_its : GoodIn wsX5_why wsX5_its := goodIn_r _ [13, 6, 18, 19, 20, 21, 22, 23, 24, 25, 26, 27, 28, 29, 30, 31] (by decide +kernel) (by decide +kernel)
set_option maxRecDepth 20000 in
theorem gX5_why_X5_its : GoodIn wsX5_why (wsV RX5 47 RX5 yX5_its wsX5_its) := goodIn_app (goodIn_of _ (by decide +kernel)) ggX5_why_X5_its
set_option maxRecDepth 20000 in
theorem ggX5_why_X5_taken : GoodIn wsX5_why wsX5_taken := goodIn_r _ [17, 6, 10, 11, 12, 4, 13, 18, 19, 20, 21, 22, 23, 24, 25, 26, 27, 28, 29, 30, 31] (by decide +kernel) (by decide +kernel)
set_option maxRecDepth 20000 in
theorem gX5_why_X5_taken : GoodIn wsX5_why (wsV RX5 52 RX5 yX5_taken wsX5_taken) := goodIn_app (goodIn_of _ (by decide +kernel)) ggX5_why_X5_taken
theorem dX5_why_0 : decode cX5_why 0 = .ok (.aload_n 0, 1) := by decide +kernel
theorem dX5_why_1 : decode cX5_why 1 = .ok (.iload_n 1, 1) := by decide +kernel
theorem dX5_why_2 : decode cX5_why 2 = .ok (.invokevirtual 88, 3) := by decide +kernel
theorem dX5_why_5 : decode cX5_why 5 = .ok (.ifCond .ne 5, 3) := by decide +kernel
theorem dX5_why_8 : decode cX5_why 8 = .ok (.iconst (-1), 1) := by decide +kernel
theorem dX5_why_9 : decode cX5_why 9 = .ok (.ireturn, 1) := by decide +kernel
theorem dX5_why_10 : decode cX5_why 10 = .ok (.aload_n 0, 1) := by decide +kernel
theorem dX5_why_11 : decode cX5_why 11 = .ok (.iload_n 1, 1) := by decide +kernel
theorem dX5_why_12 : decode cX5_why 12 = .ok (.iconst 0, 1) := by decide +kernel
theorem dX5_why_13 : decode cX5_why 13 = .ok (.invokevirtual 47, 3) := by decide +kernel
theorem dX5_why_16 : decode cX5_why 16 = .ok (.ifCond .ne 7, 3) := by decide +kernel
theorem dX5_why_19 : decode cX5_why 19 = .ok (.iconst 1, 1) := by decide +kernel
theorem dX5_why_20 : decode cX5_why 20 = .ok (.goto 30, 3) := by decide +kernel
theorem dX5_why_23 : decode cX5_why 23 = .ok (.aload_n 0, 1) := by decide +kernel
theorem dX5_why_24 : decode cX5_why 24 = .ok (.iload_n 1, 1) := by decide +kernel
theorem dX5_why_25 : decode cX5_why 25 = .ok (.iconst 3, 1) := by decide +kernel
theorem dX5_why_26 : decode cX5_why 26 = .ok (.invokevirtual 47, 3) := by decide +kernel
theorem dX5_why_29 : decode cX5_why 29 = .ok (.iconst 1, 1) := by decide +kernel
theorem dX5_why_30 : decode cX5_why 30 = .ok (.if_icmp .ne 7, 3) := by decide +kernel
theorem dX5_why_33 : decode cX5_why 33 = .ok (.iconst 2, 1) := by decide +kernel
theorem dX5_why_34 : decode cX5_why 34 = .ok (.goto 16, 3) := by decide +kernel
theorem dX5_why_37 : decode cX5_why 37 = .ok (.aload_n 0, 1) := by decide +kernel
theorem dX5_why_38 : decode cX5_why 38 = .ok (.invokevirtual 52, 3) := by decide +kernel
theorem dX5_why_41 : decode cX5_why 41 = .ok (.iload_n 1, 1) := by decide +kernel
theorem dX5_why_42 : decode cX5_why 42 = .ok (.if_icmp .ne 7, 3) := by decide +kernel
theorem dX5_why_45 : decode cX5_why 45 = .ok (.iconst 0, 1) := by decide +kernel
theorem dX5_why_46 : decode cX5_why 46 = .ok (.goto 4, 3) := by decide +kernel
theorem dX5_why_49 : decode cX5_why 49 = .ok (.iconst 3, 1) := by decide +kernel
theorem dX5_why_50 : decode cX5_why 50 = .ok (.ireturn, 1) := by decide +kernel
set_option maxRecDepth 20000 in
theorem ggX5_welcomeIn_X5_isLanding : GoodIn wsX5_welcomeIn wsX5_isLanding := goodIn_r _ [6, 7, 8, 9, 5, 10, 26, 27, 28, 29, 30, 31, 32, 33, 34, 35, 36, 37, 38, 39] (by decide +kernel) (by decide +kernel)
set_option maxRecDepth 20000 in
theorem gX5_welcomeIn_X5_isLanding : GoodIn wsX5_welcomeIn (wsV RX5 88 RX5 yX5_isLanding wsX5_isLanding) := goodIn_app (goodIn_of _ (by decide +kernel)) ggX5_welcomeIn_X5_isLanding
set_option maxRecDepth 20000 in
theorem ggX5_welcomeIn_X5_tries : GoodIn wsX5_welcomeIn wsX5_tries := goodIn_r _ [14, 15, 16, 1, 17, 18, 19, 20, 5, 21, 7, 26, 27, 28, 29, 30, 31, 32, 33, 34, 35, 36, 37, 38, 39] (by decide +kernel) (by decide +kernel)
set_option maxRecDepth 20000 in
theorem gX5_welcomeIn_X5_tries : GoodIn wsX5_welcomeIn (wsV RX5 80 RX5 yX5_tries wsX5_tries) := goodIn_app (goodIn_of _ (by decide +kernel)) ggX5_welcomeIn_X5_tries
set_option maxRecDepth 20000 in
theorem ggX5_welcomeIn_X5_passes : GoodIn wsX5_welcomeIn wsX5_passes := goodIn_r _ [25, 16, 7, 15, 1, 17, 26, 27, 28, 29, 30, 31, 32, 33, 34, 35, 36, 37, 38, 39] (by decide +kernel) (by decide +kernel)
set_option maxRecDepth 20000 in
theorem gX5_welcomeIn_X5_passes : GoodIn wsX5_welcomeIn (wsV RX5 84 RX5 yX5_passes wsX5_passes) := goodIn_app (goodIn_of _ (by decide +kernel)) ggX5_welcomeIn_X5_passes
theorem dX5_welcomeIn_0 : decode cX5_welcomeIn 0 = .ok (.aload_n 0, 1) := by decide +kernel
theorem dX5_welcomeIn_1 : decode cX5_welcomeIn 1 = .ok (.iload_n 1, 1) := by decide +kernel
theorem dX5_welcomeIn_2 : decode cX5_welcomeIn 2 = .ok (.invokevirtual 88, 3) := by decide +kernel
theorem dX5_welcomeIn_5 : decode cX5_welcomeIn 5 = .ok (.ifCond .ne 5, 3) := by decide +kernel
theorem dX5_welcomeIn_8 : decode cX5_welcomeIn 8 = .ok (.iconst (-1), 1) := by decide +kernel
theorem dX5_welcomeIn_9 : decode cX5_welcomeIn 9 = .ok (.ireturn, 1) := by decide +kernel
theorem dX5_welcomeIn_10 : decode cX5_welcomeIn 10 = .ok (.aload_n 0, 1) := by decide +kernel
theorem dX5_welcomeIn_11 : decode cX5_welcomeIn 11 = .ok (.iload_n 1, 1) := by decide +kernel
theorem dX5_welcomeIn_12 : decode cX5_welcomeIn 12 = .ok (.invokevirtual 80, 3) := by decide +kernel
theorem dX5_welcomeIn_15 : decode cX5_welcomeIn 15 = .ok (.iconst 0, 1) := by decide +kernel
theorem dX5_welcomeIn_16 : decode cX5_welcomeIn 16 = .ok (.istore_n 2, 1) := by decide +kernel
theorem dX5_welcomeIn_17 : decode cX5_welcomeIn 17 = .ok (.aload_n 0, 1) := by decide +kernel
theorem dX5_welcomeIn_18 : decode cX5_welcomeIn 18 = .ok (.getfield 73, 3) := by decide +kernel
theorem dX5_welcomeIn_21 : decode cX5_welcomeIn 21 = .ok (.ifCond .eq 21, 3) := by decide +kernel
theorem dX5_welcomeIn_24 : decode cX5_welcomeIn 24 = .ok (.iload_n 2, 1) := by decide +kernel
theorem dX5_welcomeIn_25 : decode cX5_welcomeIn 25 = .ok (.sipush 1000, 3) := by decide +kernel
theorem dX5_welcomeIn_28 : decode cX5_welcomeIn 28 = .ok (.if_icmp .ge 14, 3) := by decide +kernel
theorem dX5_welcomeIn_31 : decode cX5_welcomeIn 31 = .ok (.aload_n 0, 1) := by decide +kernel
theorem dX5_welcomeIn_32 : decode cX5_welcomeIn 32 = .ok (.invokevirtual 84, 3) := by decide +kernel
theorem dX5_welcomeIn_35 : decode cX5_welcomeIn 35 = .ok (.istore_n 3, 1) := by decide +kernel
theorem dX5_welcomeIn_36 : decode cX5_welcomeIn 36 = .ok (.iinc 2 1, 3) := by decide +kernel
theorem dX5_welcomeIn_39 : decode cX5_welcomeIn 39 = .ok (.goto (-22), 3) := by decide +kernel
theorem dX5_welcomeIn_42 : decode cX5_welcomeIn 42 = .ok (.iload_n 2, 1) := by decide +kernel
theorem dX5_welcomeIn_43 : decode cX5_welcomeIn 43 = .ok (.ireturn, 1) := by decide +kernel
set_option maxRecDepth 20000 in
theorem ggX5_mayChange_X5_isLanding : GoodIn wsX5_mayChange wsX5_isLanding := goodIn_r _ [6, 1, 7, 8, 5, 9, 18, 19, 20, 21, 22, 23, 24, 25, 26, 27, 28, 29, 30, 31] (by decide +kernel) (by decide +kernel)
set_option maxRecDepth 20000 in
theorem gX5_mayChange_X5_isLanding : GoodIn wsX5_mayChange (wsV RX5 88 RX5 yX5_isLanding wsX5_isLanding) := goodIn_app (goodIn_of _ (by decide +kernel)) ggX5_mayChange_X5_isLanding
set_option maxRecDepth 20000 in
theorem ggX5_mayChange_X5_its : GoodIn wsX5_mayChange wsX5_its := goodIn_r _ [13, 1, 18, 19, 20, 21, 22, 23, 24, 25, 26, 27, 28, 29, 30, 31] (by decide +kernel) (by decide +kernel)
set_option maxRecDepth 20000 in
theorem gX5_mayChange_X5_its : GoodIn wsX5_mayChange (wsV RX5 47 RX5 yX5_its wsX5_its) := goodIn_app (goodIn_of _ (by decide +kernel)) ggX5_mayChange_X5_its
set_option maxRecDepth 20000 in
theorem ggX5_mayChange_X5_held : GoodIn wsX5_mayChange wsX5_held := goodIn_r _ [16, 17] (by decide +kernel) (by decide +kernel)
set_option maxRecDepth 20000 in
theorem gX5_mayChange_X5_held : GoodIn wsX5_mayChange (va_wsS RX5 60 yX5_held wsX5_held) := goodIn_app (goodIn_of _ (by decide +kernel)) ggX5_mayChange_X5_held
theorem dX5_mayChange_0 : decode cX5_mayChange 0 = .ok (.aload_n 0, 1) := by decide +kernel
theorem dX5_mayChange_1 : decode cX5_mayChange 1 = .ok (.iload_n 1, 1) := by decide +kernel
theorem dX5_mayChange_2 : decode cX5_mayChange 2 = .ok (.invokevirtual 88, 3) := by decide +kernel
theorem dX5_mayChange_5 : decode cX5_mayChange 5 = .ok (.ifCond .ne 5, 3) := by decide +kernel
theorem dX5_mayChange_8 : decode cX5_mayChange 8 = .ok (.iconst (-1), 1) := by decide +kernel
theorem dX5_mayChange_9 : decode cX5_mayChange 9 = .ok (.ireturn, 1) := by decide +kernel
theorem dX5_mayChange_10 : decode cX5_mayChange 10 = .ok (.aload_n 0, 1) := by decide +kernel
theorem dX5_mayChange_11 : decode cX5_mayChange 11 = .ok (.iload_n 1, 1) := by decide +kernel
theorem dX5_mayChange_12 : decode cX5_mayChange 12 = .ok (.iconst 3, 1) := by decide +kernel
theorem dX5_mayChange_13 : decode cX5_mayChange 13 = .ok (.invokevirtual 47, 3) := by decide +kernel
theorem dX5_mayChange_16 : decode cX5_mayChange 16 = .ok (.iconst 1, 1) := by decide +kernel
theorem dX5_mayChange_17 : decode cX5_mayChange 17 = .ok (.if_icmp .ne 5, 3) := by decide +kernel
theorem dX5_mayChange_20 : decode cX5_mayChange 20 = .ok (.iconst 0, 1) := by decide +kernel
theorem dX5_mayChange_21 : decode cX5_mayChange 21 = .ok (.ireturn, 1) := by decide +kernel
theorem dX5_mayChange_22 : decode cX5_mayChange 22 = .ok (.aload_n 0, 1) := by decide +kernel
theorem dX5_mayChange_23 : decode cX5_mayChange 23 = .ok (.iload_n 1, 1) := by decide +kernel
theorem dX5_mayChange_24 : decode cX5_mayChange 24 = .ok (.iconst 2, 1) := by decide +kernel
theorem dX5_mayChange_25 : decode cX5_mayChange 25 = .ok (.invokevirtual 47, 3) := by decide +kernel
theorem dX5_mayChange_28 : decode cX5_mayChange 28 = .ok (.istore_n 2, 1) := by decide +kernel
theorem dX5_mayChange_29 : decode cX5_mayChange 29 = .ok (.iconst 1, 1) := by decide +kernel
theorem dX5_mayChange_30 : decode cX5_mayChange 30 = .ok (.istore_n 3, 1) := by decide +kernel
theorem dX5_mayChange_31 : decode cX5_mayChange 31 = .ok (.iload_n 3, 1) := by decide +kernel
theorem dX5_mayChange_32 : decode cX5_mayChange 32 = .ok (.bipush 100, 2) := by decide +kernel
theorem dX5_mayChange_34 : decode cX5_mayChange 34 = .ok (.if_icmp .gt 79, 3) := by decide +kernel
theorem dX5_mayChange_37 : decode cX5_mayChange 37 = .ok (.aload_n 0, 1) := by decide +kernel
theorem dX5_mayChange_38 : decode cX5_mayChange 38 = .ok (.iload_n 1, 1) := by decide +kernel
theorem dX5_mayChange_39 : decode cX5_mayChange 39 = .ok (.iconst 0, 1) := by decide +kernel
theorem dX5_mayChange_40 : decode cX5_mayChange 40 = .ok (.invokevirtual 47, 3) := by decide +kernel
theorem dX5_mayChange_43 : decode cX5_mayChange 43 = .ok (.iconst 1, 1) := by decide +kernel
theorem dX5_mayChange_44 : decode cX5_mayChange 44 = .ok (.if_icmp .ne 7, 3) := by decide +kernel
theorem dX5_mayChange_47 : decode cX5_mayChange 47 = .ok (.iconst 1, 1) := by decide +kernel
theorem dX5_mayChange_48 : decode cX5_mayChange 48 = .ok (.goto 4, 3) := by decide +kernel
theorem dX5_mayChange_51 : decode cX5_mayChange 51 = .ok (.iconst 0, 1) := by decide +kernel
theorem dX5_mayChange_52 : decode cX5_mayChange 52 = .ok (.iload_n 3, 1) := by decide +kernel
theorem dX5_mayChange_53 : decode cX5_mayChange 53 = .ok (.iconst 2, 1) := by decide +kernel
theorem dX5_mayChange_54 : decode cX5_mayChange 54 = .ok (.irem, 1) := by decide +kernel
theorem dX5_mayChange_55 : decode cX5_mayChange 55 = .ok (.iconst 1, 1) := by decide +kernel
theorem dX5_mayChange_56 : decode cX5_mayChange 56 = .ok (.if_icmp .ne 7, 3) := by decide +kernel
theorem dX5_mayChange_59 : decode cX5_mayChange 59 = .ok (.iconst 1, 1) := by decide +kernel
theorem dX5_mayChange_60 : decode cX5_mayChange 60 = .ok (.goto 4, 3) := by decide +kernel
theorem dX5_mayChange_63 : decode cX5_mayChange 63 = .ok (.iconst 0, 1) := by decide +kernel
theorem dX5_mayChange_64 : decode cX5_mayChange 64 = .ok (.if_icmp .ne 7, 3) := by decide +kernel
theorem dX5_mayChange_67 : decode cX5_mayChange 67 = .ok (.iconst 1, 1) := by decide +kernel
theorem dX5_mayChange_68 : decode cX5_mayChange 68 = .ok (.goto 4, 3) := by decide +kernel
theorem dX5_mayChange_71 : decode cX5_mayChange 71 = .ok (.iconst 0, 1) := by decide +kernel
theorem dX5_mayChange_72 : decode cX5_mayChange 72 = .ok (.istore 4, 2) := by decide +kernel
theorem dX5_mayChange_74 : decode cX5_mayChange 74 = .ok (.iload_n 2, 1) := by decide +kernel
theorem dX5_mayChange_75 : decode cX5_mayChange 75 = .ok (.aload_n 0, 1) := by decide +kernel
theorem dX5_mayChange_76 : decode cX5_mayChange 76 = .ok (.getfield 7, 3) := by decide +kernel
theorem dX5_mayChange_79 : decode cX5_mayChange 79 = .ok (.iload 4, 2) := by decide +kernel
theorem dX5_mayChange_81 : decode cX5_mayChange 81 = .ok (.ifCond .eq 7, 3) := by decide +kernel
theorem dX5_mayChange_84 : decode cX5_mayChange 84 = .ok (.iconst 0, 1) := by decide +kernel
theorem dX5_mayChange_85 : decode cX5_mayChange 85 = .ok (.goto 4, 3) := by decide +kernel
theorem dX5_mayChange_88 : decode cX5_mayChange 88 = .ok (.iconst 1, 1) := by decide +kernel
theorem dX5_mayChange_89 : decode cX5_mayChange 89 = .ok (.iaload, 1) := by decide +kernel
theorem dX5_mayChange_90 : decode cX5_mayChange 90 = .ok (.iadd, 1) := by decide +kernel
theorem dX5_mayChange_91 : decode cX5_mayChange 91 = .ok (.invokestatic 60, 3) := by decide +kernel
theorem dX5_mayChange_94 : decode cX5_mayChange 94 = .ok (.istore_n 2, 1) := by decide +kernel
theorem dX5_mayChange_95 : decode cX5_mayChange 95 = .ok (.iload_n 2, 1) := by decide +kernel
theorem dX5_mayChange_96 : decode cX5_mayChange 96 = .ok (.aload_n 0, 1) := by decide +kernel
theorem dX5_mayChange_97 : decode cX5_mayChange 97 = .ok (.getfield 7, 3) := by decide +kernel
theorem dX5_mayChange_100 : decode cX5_mayChange 100 = .ok (.iconst 4, 1) := by decide +kernel
theorem dX5_mayChange_101 : decode cX5_mayChange 101 = .ok (.iaload, 1) := by decide +kernel
theorem dX5_mayChange_102 : decode cX5_mayChange 102 = .ok (.if_icmp .le 5, 3) := by decide +kernel
theorem dX5_mayChange_105 : decode cX5_mayChange 105 = .ok (.iload_n 3, 1) := by decide +kernel
theorem dX5_mayChange_106 : decode cX5_mayChange 106 = .ok (.ireturn, 1) := by decide +kernel
theorem dX5_mayChange_107 : decode cX5_mayChange 107 = .ok (.iinc 3 1, 3) := by decide +kernel
theorem dX5_mayChange_110 : decode cX5_mayChange 110 = .ok (.goto (-79), 3) := by decide +kernel
theorem dX5_mayChange_113 : decode cX5_mayChange 113 = .ok (.bipush (-6), 2) := by decide +kernel
theorem dX5_mayChange_115 : decode cX5_mayChange 115 = .ok (.ireturn, 1) := by decide +kernel
set_option maxRecDepth 20000 in
theorem ggX5_fineIn_X5_isLanding : GoodIn wsX5_fineIn wsX5_isLanding := goodIn_r _ [6, 7, 8, 9, 5, 10, 26, 27, 28, 29, 30, 31, 32, 33, 34, 35, 36, 37, 38, 39] (by decide +kernel) (by decide +kernel)
set_option maxRecDepth 20000 in
theorem gX5_fineIn_X5_isLanding : GoodIn wsX5_fineIn (wsV RX5 88 RX5 yX5_isLanding wsX5_isLanding) := goodIn_app (goodIn_of _ (by decide +kernel)) ggX5_fineIn_X5_isLanding
set_option maxRecDepth 20000 in
theorem ggX5_fineIn_X5_in : GoodIn wsX5_fineIn wsX5_in := goodIn_r _ [10] (by decide +kernel) (by decide +kernel)
set_option maxRecDepth 20000 in
theorem gX5_fineIn_X5_in : GoodIn wsX5_fineIn (va_wsS RX5 32 yX5_in wsX5_in) := goodIn_app (goodIn_of _ (by decide +kernel)) ggX5_fineIn_X5_in
set_option maxRecDepth 20000 in
theorem ggX5_fineIn_X5_tries : GoodIn wsX5_fineIn wsX5_tries := goodIn_r _ [14, 1, 15, 16, 17, 18, 19, 20, 5, 21, 7, 26, 27, 28, 29, 30, 31, 32, 33, 34, 35, 36, 37, 38, 39] (by decide +kernel) (by decide +kernel)
set_option maxRecDepth 20000 in
theorem gX5_fineIn_X5_tries : GoodIn wsX5_fineIn (wsV RX5 80 RX5 yX5_tries wsX5_tries) := goodIn_app (goodIn_of _ (by decide +kernel)) ggX5_fineIn_X5_tries
set_option maxRecDepth 20000 in
theorem ggX5_fineIn_X5_passes : GoodIn wsX5_fineIn wsX5_passes := goodIn_r _ [25, 15, 7, 1, 16, 17, 26, 27, 28, 29, 30, 31, 32, 33, 34, 35, 36, 37, 38, 39] (by decide +kernel) (by decide +kernel)
set_option maxRecDepth 20000 in
theorem gX5_fineIn_X5_passes : GoodIn wsX5_fineIn (wsV RX5 84 RX5 yX5_passes wsX5_passes) := goodIn_app (goodIn_of _ (by decide +kernel)) ggX5_fineIn_X5_passes
theorem dX5_fineIn_0 : decode cX5_fineIn 0 = .ok (.aload_n 0, 1) := by decide +kernel
theorem dX5_fineIn_1 : decode cX5_fineIn 1 = .ok (.iload_n 1, 1) := by decide +kernel
theorem dX5_fineIn_2 : decode cX5_fineIn 2 = .ok (.invokevirtual 88, 3) := by decide +kernel
theorem dX5_fineIn_5 : decode cX5_fineIn 5 = .ok (.ifCond .ne 5, 3) := by decide +kernel
theorem dX5_fineIn_8 : decode cX5_fineIn 8 = .ok (.iconst (-1), 1) := by decide +kernel
theorem dX5_fineIn_9 : decode cX5_fineIn 9 = .ok (.ireturn, 1) := by decide +kernel
theorem dX5_fineIn_10 : decode cX5_fineIn 10 = .ok (.iload_n 2, 1) := by decide +kernel
theorem dX5_fineIn_11 : decode cX5_fineIn 11 = .ok (.i2l, 1) := by decide +kernel
theorem dX5_fineIn_12 : decode cX5_fineIn 12 = .ok (.iconst 0, 1) := by decide +kernel
theorem dX5_fineIn_13 : decode cX5_fineIn 13 = .ok (.sipush 999, 3) := by decide +kernel
theorem dX5_fineIn_16 : decode cX5_fineIn 16 = .ok (.invokestatic 32, 3) := by decide +kernel
theorem dX5_fineIn_19 : decode cX5_fineIn 19 = .ok (.ifCond .ne 6, 3) := by decide +kernel
theorem dX5_fineIn_22 : decode cX5_fineIn 22 = .ok (.bipush (-2), 2) := by decide +kernel
theorem dX5_fineIn_24 : decode cX5_fineIn 24 = .ok (.ireturn, 1) := by decide +kernel
theorem dX5_fineIn_25 : decode cX5_fineIn 25 = .ok (.aload_n 0, 1) := by decide +kernel
theorem dX5_fineIn_26 : decode cX5_fineIn 26 = .ok (.iload_n 1, 1) := by decide +kernel
theorem dX5_fineIn_27 : decode cX5_fineIn 27 = .ok (.invokevirtual 80, 3) := by decide +kernel
theorem dX5_fineIn_30 : decode cX5_fineIn 30 = .ok (.iconst 0, 1) := by decide +kernel
theorem dX5_fineIn_31 : decode cX5_fineIn 31 = .ok (.istore_n 3, 1) := by decide +kernel
theorem dX5_fineIn_32 : decode cX5_fineIn 32 = .ok (.iload_n 3, 1) := by decide +kernel
theorem dX5_fineIn_33 : decode cX5_fineIn 33 = .ok (.iload_n 2, 1) := by decide +kernel
theorem dX5_fineIn_34 : decode cX5_fineIn 34 = .ok (.if_icmp .ge 15, 3) := by decide +kernel
theorem dX5_fineIn_37 : decode cX5_fineIn 37 = .ok (.aload_n 0, 1) := by decide +kernel
theorem dX5_fineIn_38 : decode cX5_fineIn 38 = .ok (.invokevirtual 84, 3) := by decide +kernel
theorem dX5_fineIn_41 : decode cX5_fineIn 41 = .ok (.istore 4, 2) := by decide +kernel
theorem dX5_fineIn_43 : decode cX5_fineIn 43 = .ok (.iinc 3 1, 3) := by decide +kernel
theorem dX5_fineIn_46 : decode cX5_fineIn 46 = .ok (.goto (-14), 3) := by decide +kernel
theorem dX5_fineIn_49 : decode cX5_fineIn 49 = .ok (.aload_n 0, 1) := by decide +kernel
theorem dX5_fineIn_50 : decode cX5_fineIn 50 = .ok (.getfield 70, 3) := by decide +kernel
theorem dX5_fineIn_53 : decode cX5_fineIn 53 = .ok (.ireturn, 1) := by decide +kernel
set_option maxRecDepth 20000 in
theorem ggX5_isSteady_X5_held : GoodIn wsX5_isSteady wsX5_held := goodIn_r _ [8, 9] (by decide +kernel) (by decide +kernel)
set_option maxRecDepth 20000 in
theorem gX5_isSteady_X5_held : GoodIn wsX5_isSteady (va_wsS RX5 60 yX5_held wsX5_held) := goodIn_app (goodIn_of _ (by decide +kernel)) ggX5_isSteady_X5_held
set_option maxRecDepth 20000 in
theorem ggX5_isSteady_X5_passes : GoodIn wsX5_isSteady wsX5_passes := goodIn_r _ [13, 2, 4, 1, 3, 14, 15, 16, 17, 18, 19, 20, 21, 22, 23, 24, 25, 26, 27, 28] (by decide +kernel) (by decide +kernel)
set_option maxRecDepth 20000 in
theorem gX5_isSteady_X5_passes : GoodIn wsX5_isSteady (wsV RX5 84 RX5 yX5_passes wsX5_passes) := goodIn_app (goodIn_of _ (by decide +kernel)) ggX5_isSteady_X5_passes
theorem dX5_isSteady_0 : decode cX5_isSteady 0 = .ok (.aload_n 0, 1) := by decide +kernel
theorem dX5_isSteady_1 : decode cX5_isSteady 1 = .ok (.iconst 0, 1) := by decide +kernel
theorem dX5_isSteady_2 : decode cX5_isSteady 2 = .ok (.putfield 70, 3) := by decide +kernel
theorem dX5_isSteady_5 : decode cX5_isSteady 5 = .ok (.aload_n 0, 1) := by decide +kernel
theorem dX5_isSteady_6 : decode cX5_isSteady 6 = .ok (.iconst 0, 1) := by decide +kernel
theorem dX5_isSteady_7 : decode cX5_isSteady 7 = .ok (.putfield 67, 3) := by decide +kernel
theorem dX5_isSteady_10 : decode cX5_isSteady 10 = .ok (.aload_n 0, 1) := by decide +kernel
theorem dX5_isSteady_11 : decode cX5_isSteady 11 = .ok (.iconst 0, 1) := by decide +kernel
theorem dX5_isSteady_12 : decode cX5_isSteady 12 = .ok (.putfield 73, 3) := by decide +kernel
theorem dX5_isSteady_15 : decode cX5_isSteady 15 = .ok (.iconst 0, 1) := by decide +kernel
theorem dX5_isSteady_16 : decode cX5_isSteady 16 = .ok (.istore_n 2, 1) := by decide +kernel
theorem dX5_isSteady_17 : decode cX5_isSteady 17 = .ok (.iload_n 2, 1) := by decide +kernel
theorem dX5_isSteady_18 : decode cX5_isSteady 18 = .ok (.bipush 80, 2) := by decide +kernel
theorem dX5_isSteady_20 : decode cX5_isSteady 20 = .ok (.if_icmp .ge 71, 3) := by decide +kernel
theorem dX5_isSteady_23 : decode cX5_isSteady 23 = .ok (.aload_n 0, 1) := by decide +kernel
theorem dX5_isSteady_24 : decode cX5_isSteady 24 = .ok (.aload_n 0, 1) := by decide +kernel
theorem dX5_isSteady_25 : decode cX5_isSteady 25 = .ok (.getfield 70, 3) := by decide +kernel
theorem dX5_isSteady_28 : decode cX5_isSteady 28 = .ok (.aload_n 0, 1) := by decide +kernel
theorem dX5_isSteady_29 : decode cX5_isSteady 29 = .ok (.getfield 7, 3) := by decide +kernel
theorem dX5_isSteady_32 : decode cX5_isSteady 32 = .ok (.iload_n 2, 1) := by decide +kernel
theorem dX5_isSteady_33 : decode cX5_isSteady 33 = .ok (.iconst 2, 1) := by decide +kernel
theorem dX5_isSteady_34 : decode cX5_isSteady 34 = .ok (.irem, 1) := by decide +kernel
theorem dX5_isSteady_35 : decode cX5_isSteady 35 = .ok (.ifCond .ne 7, 3) := by decide +kernel
theorem dX5_isSteady_38 : decode cX5_isSteady 38 = .ok (.iconst 0, 1) := by decide +kernel
theorem dX5_isSteady_39 : decode cX5_isSteady 39 = .ok (.goto 4, 3) := by decide +kernel
theorem dX5_isSteady_42 : decode cX5_isSteady 42 = .ok (.iconst 1, 1) := by decide +kernel
theorem dX5_isSteady_43 : decode cX5_isSteady 43 = .ok (.iaload, 1) := by decide +kernel
theorem dX5_isSteady_44 : decode cX5_isSteady 44 = .ok (.iadd, 1) := by decide +kernel
theorem dX5_isSteady_45 : decode cX5_isSteady 45 = .ok (.invokestatic 60, 3) := by decide +kernel
theorem dX5_isSteady_48 : decode cX5_isSteady 48 = .ok (.putfield 70, 3) := by decide +kernel
theorem dX5_isSteady_51 : decode cX5_isSteady 51 = .ok (.aload_n 0, 1) := by decide +kernel
theorem dX5_isSteady_52 : decode cX5_isSteady 52 = .ok (.getfield 70, 3) := by decide +kernel
theorem dX5_isSteady_55 : decode cX5_isSteady 55 = .ok (.aload_n 0, 1) := by decide +kernel
theorem dX5_isSteady_56 : decode cX5_isSteady 56 = .ok (.getfield 7, 3) := by decide +kernel
theorem dX5_isSteady_59 : decode cX5_isSteady 59 = .ok (.iconst 4, 1) := by decide +kernel
theorem dX5_isSteady_60 : decode cX5_isSteady 60 = .ok (.iaload, 1) := by decide +kernel
theorem dX5_isSteady_61 : decode cX5_isSteady 61 = .ok (.if_icmp .le 5, 3) := by decide +kernel
theorem dX5_isSteady_64 : decode cX5_isSteady 64 = .ok (.iconst 0, 1) := by decide +kernel
theorem dX5_isSteady_65 : decode cX5_isSteady 65 = .ok (.ireturn, 1) := by decide +kernel
theorem dX5_isSteady_66 : decode cX5_isSteady 66 = .ok (.iconst 0, 1) := by decide +kernel
theorem dX5_isSteady_67 : decode cX5_isSteady 67 = .ok (.istore_n 3, 1) := by decide +kernel
theorem dX5_isSteady_68 : decode cX5_isSteady 68 = .ok (.iload_n 3, 1) := by decide +kernel
theorem dX5_isSteady_69 : decode cX5_isSteady 69 = .ok (.iload_n 1, 1) := by decide +kernel
theorem dX5_isSteady_70 : decode cX5_isSteady 70 = .ok (.if_icmp .ge 15, 3) := by decide +kernel
theorem dX5_isSteady_73 : decode cX5_isSteady 73 = .ok (.aload_n 0, 1) := by decide +kernel
theorem dX5_isSteady_74 : decode cX5_isSteady 74 = .ok (.invokevirtual 84, 3) := by decide +kernel
theorem dX5_isSteady_77 : decode cX5_isSteady 77 = .ok (.istore 4, 2) := by decide +kernel
theorem dX5_isSteady_79 : decode cX5_isSteady 79 = .ok (.iinc 3 1, 3) := by decide +kernel
theorem dX5_isSteady_82 : decode cX5_isSteady 82 = .ok (.goto (-14), 3) := by decide +kernel
theorem dX5_isSteady_85 : decode cX5_isSteady 85 = .ok (.iinc 2 1, 3) := by decide +kernel
theorem dX5_isSteady_88 : decode cX5_isSteady 88 = .ok (.goto (-71), 3) := by decide +kernel
theorem dX5_isSteady_91 : decode cX5_isSteady 91 = .ok (.iconst 1, 1) := by decide +kernel
theorem dX5_isSteady_92 : decode cX5_isSteady 92 = .ok (.ireturn, 1) := by decide +kernel
set_option maxRecDepth 20000 in
theorem ggX5_steady_X5_isSteady : GoodIn wsX5_steady wsX5_isSteady := goodIn_r _ [5, 6, 7, 8, 9, 10, 11, 4, 12, 13, 14, 15, 16, 17, 18, 19, 20, 21, 22, 23, 24, 25, 26, 27, 28, 29, 30, 31, 32] (by decide +kernel) (by decide +kernel)
set_option maxRecDepth 20000 in
theorem gX5_steady_X5_isSteady : GoodIn wsX5_steady (wsV RX5 120 RX5 yX5_isSteady wsX5_isSteady) := goodIn_app (goodIn_of _ (by decide +kernel)) ggX5_steady_X5_isSteady
theorem dX5_steady_0 : decode cX5_steady 0 = .ok (.iconst 0, 1) := by decide +kernel
theorem dX5_steady_1 : decode cX5_steady 1 = .ok (.istore_n 1, 1) := by decide +kernel
theorem dX5_steady_2 : decode cX5_steady 2 = .ok (.iload_n 1, 1) := by decide +kernel
theorem dX5_steady_3 : decode cX5_steady 3 = .ok (.sipush 200, 3) := by decide +kernel
theorem dX5_steady_6 : decode cX5_steady 6 = .ok (.if_icmp .gt 19, 3) := by decide +kernel
theorem dX5_steady_9 : decode cX5_steady 9 = .ok (.aload_n 0, 1) := by decide +kernel
theorem dX5_steady_10 : decode cX5_steady 10 = .ok (.iload_n 1, 1) := by decide +kernel
theorem dX5_steady_11 : decode cX5_steady 11 = .ok (.invokevirtual 120, 3) := by decide +kernel
theorem dX5_steady_14 : decode cX5_steady 14 = .ok (.ifCond .eq 5, 3) := by decide +kernel
theorem dX5_steady_17 : decode cX5_steady 17 = .ok (.iload_n 1, 1) := by decide +kernel
theorem dX5_steady_18 : decode cX5_steady 18 = .ok (.ireturn, 1) := by decide +kernel
theorem dX5_steady_19 : decode cX5_steady 19 = .ok (.iinc 1 1, 3) := by decide +kernel
theorem dX5_steady_22 : decode cX5_steady 22 = .ok (.goto (-20), 3) := by decide +kernel
theorem dX5_steady_25 : decode cX5_steady 25 = .ok (.bipush (-6), 2) := by decide +kernel
theorem dX5_steady_27 : decode cX5_steady 27 = .ok (.ireturn, 1) := by decide +kernel
set_option maxRecDepth 20000 in
theorem ggX5_put_X5_in : GoodIn wsX5_put wsX5_in := goodIn_r _ [8] (by decide +kernel) (by decide +kernel)
set_option maxRecDepth 20000 in
theorem gX5_put_X5_in : GoodIn wsX5_put (va_wsS RX5 32 yX5_in wsX5_in) := goodIn_app (goodIn_of _ (by decide +kernel)) ggX5_put_X5_in
theorem dX5_put_0 : decode cX5_put 0 = .ok (.lload_n 1, 1) := by decide +kernel
theorem dX5_put_1 : decode cX5_put 1 = .ok (.lstore_n 3, 1) := by decide +kernel
theorem dX5_put_2 : decode cX5_put 2 = .ok (.iconst 0, 1) := by decide +kernel
theorem dX5_put_3 : decode cX5_put 3 = .ok (.istore 5, 2) := by decide +kernel
theorem dX5_put_5 : decode cX5_put 5 = .ok (.lload_n 3, 1) := by decide +kernel
theorem dX5_put_6 : decode cX5_put 6 = .ok (.lconst 0, 1) := by decide +kernel
theorem dX5_put_7 : decode cX5_put 7 = .ok (.lcmp, 1) := by decide +kernel
theorem dX5_put_8 : decode cX5_put 8 = .ok (.ifCond .eq 55, 3) := by decide +kernel
theorem dX5_put_11 : decode cX5_put 11 = .ok (.iload 5, 2) := by decide +kernel
theorem dX5_put_13 : decode cX5_put 13 = .ok (.bipush 8, 2) := by decide +kernel
theorem dX5_put_15 : decode cX5_put 15 = .ok (.if_icmp .ge 48, 3) := by decide +kernel
theorem dX5_put_18 : decode cX5_put 18 = .ok (.aload_n 0, 1) := by decide +kernel
theorem dX5_put_19 : decode cX5_put 19 = .ok (.getfield 29, 3) := by decide +kernel
theorem dX5_put_22 : decode cX5_put 22 = .ok (.iload 5, 2) := by decide +kernel
theorem dX5_put_24 : decode cX5_put 24 = .ok (.lload_n 3, 1) := by decide +kernel
theorem dX5_put_25 : decode cX5_put 25 = .ok (.ldc2_w 123, 3) := by decide +kernel
theorem dX5_put_28 : decode cX5_put 28 = .ok (.land, 1) := by decide +kernel
theorem dX5_put_29 : decode cX5_put 29 = .ok (.l2i, 1) := by decide +kernel
theorem dX5_put_30 : decode cX5_put 30 = .ok (.iastore, 1) := by decide +kernel
theorem dX5_put_31 : decode cX5_put 31 = .ok (.aload_n 0, 1) := by decide +kernel
theorem dX5_put_32 : decode cX5_put 32 = .ok (.getfield 29, 3) := by decide +kernel
theorem dX5_put_35 : decode cX5_put 35 = .ok (.iload 5, 2) := by decide +kernel
theorem dX5_put_37 : decode cX5_put 37 = .ok (.iaload, 1) := by decide +kernel
theorem dX5_put_38 : decode cX5_put 38 = .ok (.i2l, 1) := by decide +kernel
theorem dX5_put_39 : decode cX5_put 39 = .ok (.bipush 33, 2) := by decide +kernel
theorem dX5_put_41 : decode cX5_put 41 = .ok (.bipush 126, 2) := by decide +kernel
theorem dX5_put_43 : decode cX5_put 43 = .ok (.invokestatic 32, 3) := by decide +kernel
theorem dX5_put_46 : decode cX5_put 46 = .ok (.ifCond .ne 6, 3) := by decide +kernel
theorem dX5_put_49 : decode cX5_put 49 = .ok (.bipush (-2), 2) := by decide +kernel
theorem dX5_put_51 : decode cX5_put 51 = .ok (.ireturn, 1) := by decide +kernel
theorem dX5_put_52 : decode cX5_put 52 = .ok (.lload_n 3, 1) := by decide +kernel
theorem dX5_put_53 : decode cX5_put 53 = .ok (.bipush 8, 2) := by decide +kernel
theorem dX5_put_55 : decode cX5_put 55 = .ok (.lushr, 1) := by decide +kernel
theorem dX5_put_56 : decode cX5_put 56 = .ok (.lstore_n 3, 1) := by decide +kernel
theorem dX5_put_57 : decode cX5_put 57 = .ok (.iinc 5 1, 3) := by decide +kernel
theorem dX5_put_60 : decode cX5_put 60 = .ok (.goto (-55), 3) := by decide +kernel
theorem dX5_put_63 : decode cX5_put 63 = .ok (.iload 5, 2) := by decide +kernel
theorem dX5_put_65 : decode cX5_put 65 = .ok (.ifCond .ne 6, 3) := by decide +kernel
theorem dX5_put_68 : decode cX5_put 68 = .ok (.bipush (-2), 2) := by decide +kernel
theorem dX5_put_70 : decode cX5_put 70 = .ok (.ireturn, 1) := by decide +kernel
theorem dX5_put_71 : decode cX5_put 71 = .ok (.aload_n 0, 1) := by decide +kernel
theorem dX5_put_72 : decode cX5_put 72 = .ok (.getfield 114, 3) := by decide +kernel
theorem dX5_put_75 : decode cX5_put 75 = .ok (.iload 5, 2) := by decide +kernel
theorem dX5_put_77 : decode cX5_put 77 = .ok (.iadd, 1) := by decide +kernel
theorem dX5_put_78 : decode cX5_put 78 = .ok (.bipush 80, 2) := by decide +kernel
theorem dX5_put_80 : decode cX5_put 80 = .ok (.if_icmp .le 6, 3) := by decide +kernel
theorem dX5_put_83 : decode cX5_put 83 = .ok (.bipush (-4), 2) := by decide +kernel
theorem dX5_put_85 : decode cX5_put 85 = .ok (.ireturn, 1) := by decide +kernel
theorem dX5_put_86 : decode cX5_put 86 = .ok (.iload 5, 2) := by decide +kernel
theorem dX5_put_88 : decode cX5_put 88 = .ok (.iconst 1, 1) := by decide +kernel
theorem dX5_put_89 : decode cX5_put 89 = .ok (.isub, 1) := by decide +kernel
theorem dX5_put_90 : decode cX5_put 90 = .ok (.istore 6, 2) := by decide +kernel
theorem dX5_put_92 : decode cX5_put 92 = .ok (.iload 6, 2) := by decide +kernel
theorem dX5_put_94 : decode cX5_put 94 = .ok (.ifCond .lt 35, 3) := by decide +kernel
theorem dX5_put_97 : decode cX5_put 97 = .ok (.aload_n 0, 1) := by decide +kernel
theorem dX5_put_98 : decode cX5_put 98 = .ok (.getfield 26, 3) := by decide +kernel
theorem dX5_put_101 : decode cX5_put 101 = .ok (.aload_n 0, 1) := by decide +kernel
theorem dX5_put_102 : decode cX5_put 102 = .ok (.getfield 114, 3) := by decide +kernel
theorem dX5_put_105 : decode cX5_put 105 = .ok (.aload_n 0, 1) := by decide +kernel
theorem dX5_put_106 : decode cX5_put 106 = .ok (.getfield 29, 3) := by decide +kernel
theorem dX5_put_109 : decode cX5_put 109 = .ok (.iload 6, 2) := by decide +kernel
theorem dX5_put_111 : decode cX5_put 111 = .ok (.iaload, 1) := by decide +kernel
theorem dX5_put_112 : decode cX5_put 112 = .ok (.iastore, 1) := by decide +kernel
theorem dX5_put_113 : decode cX5_put 113 = .ok (.aload_n 0, 1) := by decide +kernel
theorem dX5_put_114 : decode cX5_put 114 = .ok (.dup, 1) := by decide +kernel
theorem dX5_put_115 : decode cX5_put 115 = .ok (.getfield 114, 3) := by decide +kernel
theorem dX5_put_118 : decode cX5_put 118 = .ok (.iconst 1, 1) := by decide +kernel
theorem dX5_put_119 : decode cX5_put 119 = .ok (.iadd, 1) := by decide +kernel
theorem dX5_put_120 : decode cX5_put 120 = .ok (.putfield 114, 3) := by decide +kernel
theorem dX5_put_123 : decode cX5_put 123 = .ok (.iinc 6 (-1), 3) := by decide +kernel
theorem dX5_put_126 : decode cX5_put 126 = .ok (.goto (-34), 3) := by decide +kernel
theorem dX5_put_129 : decode cX5_put 129 = .ok (.aload_n 0, 1) := by decide +kernel
theorem dX5_put_130 : decode cX5_put 130 = .ok (.getfield 114, 3) := by decide +kernel
theorem dX5_put_133 : decode cX5_put 133 = .ok (.ireturn, 1) := by decide +kernel
theorem dX5_wipe_0 : decode cX5_wipe 0 = .ok (.aload_n 0, 1) := by decide +kernel
theorem dX5_wipe_1 : decode cX5_wipe 1 = .ok (.getfield 114, 3) := by decide +kernel
theorem dX5_wipe_4 : decode cX5_wipe 4 = .ok (.istore_n 1, 1) := by decide +kernel
theorem dX5_wipe_5 : decode cX5_wipe 5 = .ok (.aload_n 0, 1) := by decide +kernel
theorem dX5_wipe_6 : decode cX5_wipe 6 = .ok (.iconst 0, 1) := by decide +kernel
theorem dX5_wipe_7 : decode cX5_wipe 7 = .ok (.putfield 114, 3) := by decide +kernel
theorem dX5_wipe_10 : decode cX5_wipe 10 = .ok (.iload_n 1, 1) := by decide +kernel
theorem dX5_wipe_11 : decode cX5_wipe 11 = .ok (.ireturn, 1) := by decide +kernel
set_option maxRecDepth 20000 in
theorem ggX5_sees_X5_in : GoodIn wsX5_sees wsX5_in := goodIn_r _ [7] (by decide +kernel) (by decide +kernel)
set_option maxRecDepth 20000 in
theorem gX5_sees_X5_in : GoodIn wsX5_sees (va_wsS RX5 32 yX5_in wsX5_in) := goodIn_app (goodIn_of _ (by decide +kernel)) ggX5_sees_X5_in
theorem dX5_sees_0 : decode cX5_sees 0 = .ok (.aload_n 0, 1) := by decide +kernel
theorem dX5_sees_1 : decode cX5_sees 1 = .ok (.getfield 125, 3) := by decide +kernel
theorem dX5_sees_4 : decode cX5_sees 4 = .ok (.aload_n 0, 1) := by decide +kernel
theorem dX5_sees_5 : decode cX5_sees 5 = .ok (.getfield 114, 3) := by decide +kernel
theorem dX5_sees_8 : decode cX5_sees 8 = .ok (.if_icmp .ge 25, 3) := by decide +kernel
theorem dX5_sees_11 : decode cX5_sees 11 = .ok (.aload_n 0, 1) := by decide +kernel
theorem dX5_sees_12 : decode cX5_sees 12 = .ok (.getfield 26, 3) := by decide +kernel
theorem dX5_sees_15 : decode cX5_sees 15 = .ok (.aload_n 0, 1) := by decide +kernel
theorem dX5_sees_16 : decode cX5_sees 16 = .ok (.getfield 125, 3) := by decide +kernel
theorem dX5_sees_19 : decode cX5_sees 19 = .ok (.iaload, 1) := by decide +kernel
theorem dX5_sees_20 : decode cX5_sees 20 = .ok (.i2l, 1) := by decide +kernel
theorem dX5_sees_21 : decode cX5_sees 21 = .ok (.iload_n 1, 1) := by decide +kernel
theorem dX5_sees_22 : decode cX5_sees 22 = .ok (.iload_n 2, 1) := by decide +kernel
theorem dX5_sees_23 : decode cX5_sees 23 = .ok (.invokestatic 32, 3) := by decide +kernel
theorem dX5_sees_26 : decode cX5_sees 26 = .ok (.ifCond .eq 7, 3) := by decide +kernel
theorem dX5_sees_29 : decode cX5_sees 29 = .ok (.iconst 1, 1) := by decide +kernel
theorem dX5_sees_30 : decode cX5_sees 30 = .ok (.goto 4, 3) := by decide +kernel
theorem dX5_sees_33 : decode cX5_sees 33 = .ok (.iconst 0, 1) := by decide +kernel
theorem dX5_sees_34 : decode cX5_sees 34 = .ok (.ireturn, 1) := by decide +kernel
set_option maxRecDepth 20000 in
theorem ggX5_number_X5_sees : GoodIn wsX5_number wsX5_sees := goodIn_r _ [7, 2, 8, 1, 9, 10, 6, 11, 12, 13, 14, 15, 16, 17, 18, 19, 20, 21, 22, 23, 24, 25] (by decide +kernel) (by decide +kernel)
set_option maxRecDepth 20000 in
theorem gX5_number_X5_sees : GoodIn wsX5_number (wsV RX5 128 RX5 yX5_sees wsX5_sees) := goodIn_app (goodIn_of _ (by decide +kernel)) ggX5_number_X5_sees
theorem dX5_number_0 : decode cX5_number 0 = .ok (.aload_n 0, 1) := by decide +kernel
theorem dX5_number_1 : decode cX5_number 1 = .ok (.getfield 26, 3) := by decide +kernel
theorem dX5_number_4 : decode cX5_number 4 = .ok (.aload_n 0, 1) := by decide +kernel
theorem dX5_number_5 : decode cX5_number 5 = .ok (.getfield 125, 3) := by decide +kernel
theorem dX5_number_8 : decode cX5_number 8 = .ok (.iaload, 1) := by decide +kernel
theorem dX5_number_9 : decode cX5_number 9 = .ok (.bipush 48, 2) := by decide +kernel
theorem dX5_number_11 : decode cX5_number 11 = .ok (.isub, 1) := by decide +kernel
theorem dX5_number_12 : decode cX5_number 12 = .ok (.istore_n 1, 1) := by decide +kernel
theorem dX5_number_13 : decode cX5_number 13 = .ok (.aload_n 0, 1) := by decide +kernel
theorem dX5_number_14 : decode cX5_number 14 = .ok (.dup, 1) := by decide +kernel
theorem dX5_number_15 : decode cX5_number 15 = .ok (.getfield 125, 3) := by decide +kernel
theorem dX5_number_18 : decode cX5_number 18 = .ok (.iconst 1, 1) := by decide +kernel
theorem dX5_number_19 : decode cX5_number 19 = .ok (.iadd, 1) := by decide +kernel
theorem dX5_number_20 : decode cX5_number 20 = .ok (.putfield 125, 3) := by decide +kernel
theorem dX5_number_23 : decode cX5_number 23 = .ok (.iload_n 1, 1) := by decide +kernel
theorem dX5_number_24 : decode cX5_number 24 = .ok (.ifCond .le 68, 3) := by decide +kernel
theorem dX5_number_27 : decode cX5_number 27 = .ok (.aload_n 0, 1) := by decide +kernel
theorem dX5_number_28 : decode cX5_number 28 = .ok (.bipush 48, 2) := by decide +kernel
theorem dX5_number_30 : decode cX5_number 30 = .ok (.bipush 57, 2) := by decide +kernel
theorem dX5_number_32 : decode cX5_number 32 = .ok (.invokevirtual 128, 3) := by decide +kernel
theorem dX5_number_35 : decode cX5_number 35 = .ok (.ifCond .eq 57, 3) := by decide +kernel
theorem dX5_number_38 : decode cX5_number 38 = .ok (.bipush 10, 2) := by decide +kernel
theorem dX5_number_40 : decode cX5_number 40 = .ok (.iload_n 1, 1) := by decide +kernel
theorem dX5_number_41 : decode cX5_number 41 = .ok (.imul, 1) := by decide +kernel
theorem dX5_number_42 : decode cX5_number 42 = .ok (.aload_n 0, 1) := by decide +kernel
theorem dX5_number_43 : decode cX5_number 43 = .ok (.getfield 26, 3) := by decide +kernel
theorem dX5_number_46 : decode cX5_number 46 = .ok (.aload_n 0, 1) := by decide +kernel
theorem dX5_number_47 : decode cX5_number 47 = .ok (.getfield 125, 3) := by decide +kernel
theorem dX5_number_50 : decode cX5_number 50 = .ok (.iaload, 1) := by decide +kernel
theorem dX5_number_51 : decode cX5_number 51 = .ok (.iadd, 1) := by decide +kernel
theorem dX5_number_52 : decode cX5_number 52 = .ok (.bipush 48, 2) := by decide +kernel
theorem dX5_number_54 : decode cX5_number 54 = .ok (.isub, 1) := by decide +kernel
theorem dX5_number_55 : decode cX5_number 55 = .ok (.sipush 999, 3) := by decide +kernel
theorem dX5_number_58 : decode cX5_number 58 = .ok (.if_icmp .gt 34, 3) := by decide +kernel
theorem dX5_number_61 : decode cX5_number 61 = .ok (.bipush 10, 2) := by decide +kernel
theorem dX5_number_63 : decode cX5_number 63 = .ok (.iload_n 1, 1) := by decide +kernel
theorem dX5_number_64 : decode cX5_number 64 = .ok (.imul, 1) := by decide +kernel
theorem dX5_number_65 : decode cX5_number 65 = .ok (.aload_n 0, 1) := by decide +kernel
theorem dX5_number_66 : decode cX5_number 66 = .ok (.getfield 26, 3) := by decide +kernel
theorem dX5_number_69 : decode cX5_number 69 = .ok (.aload_n 0, 1) := by decide +kernel
theorem dX5_number_70 : decode cX5_number 70 = .ok (.getfield 125, 3) := by decide +kernel
theorem dX5_number_73 : decode cX5_number 73 = .ok (.iaload, 1) := by decide +kernel
theorem dX5_number_74 : decode cX5_number 74 = .ok (.iadd, 1) := by decide +kernel
theorem dX5_number_75 : decode cX5_number 75 = .ok (.bipush 48, 2) := by decide +kernel
theorem dX5_number_77 : decode cX5_number 77 = .ok (.isub, 1) := by decide +kernel
theorem dX5_number_78 : decode cX5_number 78 = .ok (.istore_n 1, 1) := by decide +kernel
theorem dX5_number_79 : decode cX5_number 79 = .ok (.aload_n 0, 1) := by decide +kernel
theorem dX5_number_80 : decode cX5_number 80 = .ok (.dup, 1) := by decide +kernel
theorem dX5_number_81 : decode cX5_number 81 = .ok (.getfield 125, 3) := by decide +kernel
theorem dX5_number_84 : decode cX5_number 84 = .ok (.iconst 1, 1) := by decide +kernel
theorem dX5_number_85 : decode cX5_number 85 = .ok (.iadd, 1) := by decide +kernel
theorem dX5_number_86 : decode cX5_number 86 = .ok (.putfield 125, 3) := by decide +kernel
theorem dX5_number_89 : decode cX5_number 89 = .ok (.goto (-66), 3) := by decide +kernel
theorem dX5_number_92 : decode cX5_number 92 = .ok (.iload_n 1, 1) := by decide +kernel
theorem dX5_number_93 : decode cX5_number 93 = .ok (.ireturn, 1) := by decide +kernel
theorem dX5_digit_0 : decode cX5_digit 0 = .ok (.aload_n 0, 1) := by decide +kernel
theorem dX5_digit_1 : decode cX5_digit 1 = .ok (.dup, 1) := by decide +kernel
theorem dX5_digit_2 : decode cX5_digit 2 = .ok (.getfield 125, 3) := by decide +kernel
theorem dX5_digit_5 : decode cX5_digit 5 = .ok (.iconst 1, 1) := by decide +kernel
theorem dX5_digit_6 : decode cX5_digit 6 = .ok (.iadd, 1) := by decide +kernel
theorem dX5_digit_7 : decode cX5_digit 7 = .ok (.putfield 125, 3) := by decide +kernel
theorem dX5_digit_10 : decode cX5_digit 10 = .ok (.aload_n 0, 1) := by decide +kernel
theorem dX5_digit_11 : decode cX5_digit 11 = .ok (.getfield 26, 3) := by decide +kernel
theorem dX5_digit_14 : decode cX5_digit 14 = .ok (.aload_n 0, 1) := by decide +kernel
theorem dX5_digit_15 : decode cX5_digit 15 = .ok (.getfield 125, 3) := by decide +kernel
theorem dX5_digit_18 : decode cX5_digit 18 = .ok (.iconst 1, 1) := by decide +kernel
theorem dX5_digit_19 : decode cX5_digit 19 = .ok (.isub, 1) := by decide +kernel
theorem dX5_digit_20 : decode cX5_digit 20 = .ok (.iaload, 1) := by decide +kernel
theorem dX5_digit_21 : decode cX5_digit 21 = .ok (.bipush 48, 2) := by decide +kernel
theorem dX5_digit_23 : decode cX5_digit 23 = .ok (.isub, 1) := by decide +kernel
theorem dX5_digit_24 : decode cX5_digit 24 = .ok (.ireturn, 1) := by decide +kernel
set_option maxRecDepth 20000 in
theorem ggX5_order_X5_sees : GoodIn wsX5_order wsX5_sees := goodIn_r _ [8, 1, 2, 3, 9, 10, 7, 11, 81, 82, 83, 84, 85, 86, 87, 88, 89, 90, 91, 92, 93, 94] (by decide +kernel) (by decide +kernel)
set_option maxRecDepth 20000 in
theorem gX5_order_X5_sees : GoodIn wsX5_order (wsV RX5 128 RX5 yX5_sees wsX5_sees) := goodIn_app (goodIn_of _ (by decide +kernel)) ggX5_order_X5_sees
set_option maxRecDepth 20000 in
theorem ggX5_order_X5_number : GoodIn wsX5_order wsX5_number := goodIn_r _ [15, 3, 1, 4, 5, 6, 7, 8, 2, 9, 10, 11, 81, 82, 83, 84, 85, 86, 87, 88, 89, 90, 91, 92, 93, 94] (by decide +kernel) (by decide +kernel)
set_option maxRecDepth 20000 in
theorem gX5_order_X5_number : GoodIn wsX5_order (wsV RX5 132 RX5 yX5_number wsX5_number) := goodIn_app (goodIn_of _ (by decide +kernel)) ggX5_order_X5_number
set_option maxRecDepth 20000 in
theorem ggX5_order_X5_digit : GoodIn wsX5_order wsX5_digit := goodIn_r _ [19, 1, 3, 81, 82, 83, 84, 85, 86, 87, 88, 89, 90, 91, 92, 93, 94] (by decide +kernel) (by decide +kernel)
set_option maxRecDepth 20000 in
theorem gX5_order_X5_digit : GoodIn wsX5_order (wsV RX5 135 RX5 yX5_digit wsX5_digit) := goodIn_app (goodIn_of _ (by decide +kernel)) ggX5_order_X5_digit
set_option maxRecDepth 20000 in
theorem ggX5_order_X5_comes : GoodIn wsX5_order wsX5_comes := goodIn_r _ [23, 24, 9, 10, 7, 11, 25, 26, 27, 28, 29, 30, 31, 32, 33, 34, 35, 36, 81, 82, 83, 84, 85, 86, 87, 88, 89, 90, 91, 92, 93, 94] (by decide +kernel) (by decide +kernel)
set_option maxRecDepth 20000 in
theorem gX5_order_X5_comes : GoodIn wsX5_order (wsV RX5 99 RX5 yX5_comes wsX5_comes) := goodIn_app (goodIn_of _ (by decide +kernel)) ggX5_order_X5_comes
set_option maxRecDepth 20000 in
theorem ggX5_order_X5_turns : GoodIn wsX5_order wsX5_turns := goodIn_r _ [40, 41, 42, 43, 7, 44, 24, 9, 10, 11, 29, 30, 31, 32, 45, 46, 47, 48, 25, 26, 27, 28, 33, 34, 35, 36, 49, 50, 51, 52, 53, 54, 55, 56, 81, 82, 83, 84, 85, 86, 87, 88, 89, 90, 91, 92, 93, 94] (by decide +kernel) (by decide +kernel)
set_option maxRecDepth 20000 in
theorem gX5_order_X5_turns : GoodIn wsX5_order (wsV RX5 102 RX5 yX5_turns wsX5_turns) := goodIn_app (goodIn_of _ (by decide +kernel)) ggX5_order_X5_turns
set_option maxRecDepth 20000 in
theorem ggX5_order_X5_costs : GoodIn wsX5_order wsX5_costs := goodIn_r _ [60, 41, 42, 43, 7, 44, 24, 9, 10, 11, 29, 30, 31, 32, 45, 46, 47, 48, 25, 26, 27, 28, 33, 34, 35, 36, 49, 50, 51, 52, 53, 54, 55, 56, 81, 82, 83, 84, 85, 86, 87, 88, 89, 90, 91, 92, 93, 94] (by decide +kernel) (by decide +kernel)
set_option maxRecDepth 20000 in
theorem gX5_order_X5_costs : GoodIn wsX5_order (wsV RX5 105 RX5 yX5_costs wsX5_costs) := goodIn_app (goodIn_of _ (by decide +kernel)) ggX5_order_X5_costs
set_option maxRecDepth 20000 in
theorem ggX5_order_X5_waits : GoodIn wsX5_order wsX5_waits := goodIn_r _ [64, 24, 52, 9, 10, 7, 11, 65, 66, 67, 68, 69, 70, 71, 72, 25, 26, 27, 28, 29, 30, 31, 32, 73, 74, 75, 76, 77, 78, 79, 80, 33, 34, 35, 36, 53, 54, 55, 56, 81, 82, 83, 84, 85, 86, 87, 88, 89, 90, 91, 92, 93, 94] (by decide +kernel) (by decide +kernel)
set_option maxRecDepth 20000 in
theorem gX5_order_X5_waits : GoodIn wsX5_order (wsV RX5 108 RX5 yX5_waits wsX5_waits) := goodIn_app (goodIn_of _ (by decide +kernel)) ggX5_order_X5_waits
theorem dX5_order_0 : decode cX5_order 0 = .ok (.aload_n 0, 1) := by decide +kernel
theorem dX5_order_1 : decode cX5_order 1 = .ok (.getfield 125, 3) := by decide +kernel
theorem dX5_order_4 : decode cX5_order 4 = .ok (.aload_n 0, 1) := by decide +kernel
theorem dX5_order_5 : decode cX5_order 5 = .ok (.getfield 114, 3) := by decide +kernel
theorem dX5_order_8 : decode cX5_order 8 = .ok (.if_icmp .ge 15, 3) := by decide +kernel
theorem dX5_order_11 : decode cX5_order 11 = .ok (.aload_n 0, 1) := by decide +kernel
theorem dX5_order_12 : decode cX5_order 12 = .ok (.getfield 26, 3) := by decide +kernel
theorem dX5_order_15 : decode cX5_order 15 = .ok (.aload_n 0, 1) := by decide +kernel
theorem dX5_order_16 : decode cX5_order 16 = .ok (.getfield 125, 3) := by decide +kernel
theorem dX5_order_19 : decode cX5_order 19 = .ok (.iaload, 1) := by decide +kernel
theorem dX5_order_20 : decode cX5_order 20 = .ok (.goto 4, 3) := by decide +kernel
theorem dX5_order_23 : decode cX5_order 23 = .ok (.iconst 0, 1) := by decide +kernel
theorem dX5_order_24 : decode cX5_order 24 = .ok (.istore_n 2, 1) := by decide +kernel
theorem dX5_order_25 : decode cX5_order 25 = .ok (.iload_n 2, 1) := by decide +kernel
theorem dX5_order_26 : decode cX5_order 26 = .ok (.bipush 43, 2) := by decide +kernel
theorem dX5_order_28 : decode cX5_order 28 = .ok (.if_icmp .eq 30, 3) := by decide +kernel
theorem dX5_order_31 : decode cX5_order 31 = .ok (.iload_n 2, 1) := by decide +kernel
theorem dX5_order_32 : decode cX5_order 32 = .ok (.bipush 111, 2) := by decide +kernel
theorem dX5_order_34 : decode cX5_order 34 = .ok (.if_icmp .eq 24, 3) := by decide +kernel
theorem dX5_order_37 : decode cX5_order 37 = .ok (.iload_n 2, 1) := by decide +kernel
theorem dX5_order_38 : decode cX5_order 38 = .ok (.bipush 99, 2) := by decide +kernel
theorem dX5_order_40 : decode cX5_order 40 = .ok (.if_icmp .eq 18, 3) := by decide +kernel
theorem dX5_order_43 : decode cX5_order 43 = .ok (.iload_n 2, 1) := by decide +kernel
theorem dX5_order_44 : decode cX5_order 44 = .ok (.bipush 112, 2) := by decide +kernel
theorem dX5_order_46 : decode cX5_order 46 = .ok (.if_icmp .eq 12, 3) := by decide +kernel
theorem dX5_order_49 : decode cX5_order 49 = .ok (.iload_n 2, 1) := by decide +kernel
theorem dX5_order_50 : decode cX5_order 50 = .ok (.bipush 116, 2) := by decide +kernel
theorem dX5_order_52 : decode cX5_order 52 = .ok (.if_icmp .eq 6, 3) := by decide +kernel
theorem dX5_order_55 : decode cX5_order 55 = .ok (.bipush (-3), 2) := by decide +kernel
theorem dX5_order_57 : decode cX5_order 57 = .ok (.ireturn, 1) := by decide +kernel
theorem dX5_order_58 : decode cX5_order 58 = .ok (.aload_n 0, 1) := by decide +kernel
theorem dX5_order_59 : decode cX5_order 59 = .ok (.dup, 1) := by decide +kernel
theorem dX5_order_60 : decode cX5_order 60 = .ok (.getfield 125, 3) := by decide +kernel
theorem dX5_order_63 : decode cX5_order 63 = .ok (.iconst 1, 1) := by decide +kernel
theorem dX5_order_64 : decode cX5_order 64 = .ok (.iadd, 1) := by decide +kernel
theorem dX5_order_65 : decode cX5_order 65 = .ok (.putfield 125, 3) := by decide +kernel
theorem dX5_order_68 : decode cX5_order 68 = .ok (.aload_n 0, 1) := by decide +kernel
theorem dX5_order_69 : decode cX5_order 69 = .ok (.bipush 48, 2) := by decide +kernel
theorem dX5_order_71 : decode cX5_order 71 = .ok (.bipush 57, 2) := by decide +kernel
theorem dX5_order_73 : decode cX5_order 73 = .ok (.invokevirtual 128, 3) := by decide +kernel
theorem dX5_order_76 : decode cX5_order 76 = .ok (.ifCond .ne 6, 3) := by decide +kernel
theorem dX5_order_79 : decode cX5_order 79 = .ok (.bipush (-3), 2) := by decide +kernel
theorem dX5_order_81 : decode cX5_order 81 = .ok (.ireturn, 1) := by decide +kernel
theorem dX5_order_82 : decode cX5_order 82 = .ok (.iload_n 2, 1) := by decide +kernel
theorem dX5_order_83 : decode cX5_order 83 = .ok (.bipush 43, 2) := by decide +kernel
theorem dX5_order_85 : decode cX5_order 85 = .ok (.if_icmp .eq 9, 3) := by decide +kernel
theorem dX5_order_88 : decode cX5_order 88 = .ok (.iload_n 2, 1) := by decide +kernel
theorem dX5_order_89 : decode cX5_order 89 = .ok (.bipush 116, 2) := by decide +kernel
theorem dX5_order_91 : decode cX5_order 91 = .ok (.if_icmp .ne 10, 3) := by decide +kernel
theorem dX5_order_94 : decode cX5_order 94 = .ok (.aload_n 0, 1) := by decide +kernel
theorem dX5_order_95 : decode cX5_order 95 = .ok (.invokevirtual 132, 3) := by decide +kernel
theorem dX5_order_98 : decode cX5_order 98 = .ok (.goto 7, 3) := by decide +kernel
theorem dX5_order_101 : decode cX5_order 101 = .ok (.aload_n 0, 1) := by decide +kernel
theorem dX5_order_102 : decode cX5_order 102 = .ok (.invokevirtual 135, 3) := by decide +kernel
theorem dX5_order_105 : decode cX5_order 105 = .ok (.istore_n 3, 1) := by decide +kernel
theorem dX5_order_106 : decode cX5_order 106 = .ok (.iconst 0, 1) := by decide +kernel
theorem dX5_order_107 : decode cX5_order 107 = .ok (.istore 4, 2) := by decide +kernel
theorem dX5_order_109 : decode cX5_order 109 = .ok (.iload_n 2, 1) := by decide +kernel
theorem dX5_order_110 : decode cX5_order 110 = .ok (.bipush 112, 2) := by decide +kernel
theorem dX5_order_112 : decode cX5_order 112 = .ok (.if_icmp .ne 47, 3) := by decide +kernel
theorem dX5_order_115 : decode cX5_order 115 = .ok (.aload_n 0, 1) := by decide +kernel
theorem dX5_order_116 : decode cX5_order 116 = .ok (.bipush 61, 2) := by decide +kernel
theorem dX5_order_118 : decode cX5_order 118 = .ok (.bipush 61, 2) := by decide +kernel
theorem dX5_order_120 : decode cX5_order 120 = .ok (.invokevirtual 128, 3) := by decide +kernel
theorem dX5_order_123 : decode cX5_order 123 = .ok (.ifCond .ne 6, 3) := by decide +kernel
theorem dX5_order_126 : decode cX5_order 126 = .ok (.bipush (-3), 2) := by decide +kernel
theorem dX5_order_128 : decode cX5_order 128 = .ok (.ireturn, 1) := by decide +kernel
theorem dX5_order_129 : decode cX5_order 129 = .ok (.aload_n 0, 1) := by decide +kernel
theorem dX5_order_130 : decode cX5_order 130 = .ok (.dup, 1) := by decide +kernel
theorem dX5_order_131 : decode cX5_order 131 = .ok (.getfield 125, 3) := by decide +kernel
theorem dX5_order_134 : decode cX5_order 134 = .ok (.iconst 1, 1) := by decide +kernel
theorem dX5_order_135 : decode cX5_order 135 = .ok (.iadd, 1) := by decide +kernel
theorem dX5_order_136 : decode cX5_order 136 = .ok (.putfield 125, 3) := by decide +kernel
theorem dX5_order_139 : decode cX5_order 139 = .ok (.aload_n 0, 1) := by decide +kernel
theorem dX5_order_140 : decode cX5_order 140 = .ok (.bipush 48, 2) := by decide +kernel
theorem dX5_order_142 : decode cX5_order 142 = .ok (.bipush 57, 2) := by decide +kernel
theorem dX5_order_144 : decode cX5_order 144 = .ok (.invokevirtual 128, 3) := by decide +kernel
theorem dX5_order_147 : decode cX5_order 147 = .ok (.ifCond .ne 6, 3) := by decide +kernel
theorem dX5_order_150 : decode cX5_order 150 = .ok (.bipush (-3), 2) := by decide +kernel
theorem dX5_order_152 : decode cX5_order 152 = .ok (.ireturn, 1) := by decide +kernel
theorem dX5_order_153 : decode cX5_order 153 = .ok (.aload_n 0, 1) := by decide +kernel
theorem dX5_order_154 : decode cX5_order 154 = .ok (.invokevirtual 132, 3) := by decide +kernel
theorem dX5_order_157 : decode cX5_order 157 = .ok (.istore 4, 2) := by decide +kernel
theorem dX5_order_159 : decode cX5_order 159 = .ok (.iload_n 1, 1) := by decide +kernel
theorem dX5_order_160 : decode cX5_order 160 = .ok (.ifCond .ne 5, 3) := by decide +kernel
theorem dX5_order_163 : decode cX5_order 163 = .ok (.iconst 0, 1) := by decide +kernel
theorem dX5_order_164 : decode cX5_order 164 = .ok (.ireturn, 1) := by decide +kernel
theorem dX5_order_165 : decode cX5_order 165 = .ok (.iload_n 2, 1) := by decide +kernel
theorem dX5_order_166 : decode cX5_order 166 = .ok (.bipush 43, 2) := by decide +kernel
theorem dX5_order_168 : decode cX5_order 168 = .ok (.if_icmp .ne 11, 3) := by decide +kernel
theorem dX5_order_171 : decode cX5_order 171 = .ok (.aload_n 0, 1) := by decide +kernel
theorem dX5_order_172 : decode cX5_order 172 = .ok (.iload_n 3, 1) := by decide +kernel
theorem dX5_order_173 : decode cX5_order 173 = .ok (.invokevirtual 99, 3) := by decide +kernel
theorem dX5_order_176 : decode cX5_order 176 = .ok (.goto 54, 3) := by decide +kernel
theorem dX5_order_179 : decode cX5_order 179 = .ok (.iload_n 2, 1) := by decide +kernel
theorem dX5_order_180 : decode cX5_order 180 = .ok (.bipush 111, 2) := by decide +kernel
theorem dX5_order_182 : decode cX5_order 182 = .ok (.if_icmp .ne 12, 3) := by decide +kernel
theorem dX5_order_185 : decode cX5_order 185 = .ok (.aload_n 0, 1) := by decide +kernel
theorem dX5_order_186 : decode cX5_order 186 = .ok (.iload_n 3, 1) := by decide +kernel
theorem dX5_order_187 : decode cX5_order 187 = .ok (.iconst 1, 1) := by decide +kernel
theorem dX5_order_188 : decode cX5_order 188 = .ok (.invokevirtual 102, 3) := by decide +kernel
theorem dX5_order_191 : decode cX5_order 191 = .ok (.goto 39, 3) := by decide +kernel
theorem dX5_order_194 : decode cX5_order 194 = .ok (.iload_n 2, 1) := by decide +kernel
theorem dX5_order_195 : decode cX5_order 195 = .ok (.bipush 99, 2) := by decide +kernel
theorem dX5_order_197 : decode cX5_order 197 = .ok (.if_icmp .ne 12, 3) := by decide +kernel
theorem dX5_order_200 : decode cX5_order 200 = .ok (.aload_n 0, 1) := by decide +kernel
theorem dX5_order_201 : decode cX5_order 201 = .ok (.iload_n 3, 1) := by decide +kernel
theorem dX5_order_202 : decode cX5_order 202 = .ok (.iconst 0, 1) := by decide +kernel
theorem dX5_order_203 : decode cX5_order 203 = .ok (.invokevirtual 102, 3) := by decide +kernel
theorem dX5_order_206 : decode cX5_order 206 = .ok (.goto 24, 3) := by decide +kernel
theorem dX5_order_209 : decode cX5_order 209 = .ok (.iload_n 2, 1) := by decide +kernel
theorem dX5_order_210 : decode cX5_order 210 = .ok (.bipush 112, 2) := by decide +kernel
theorem dX5_order_212 : decode cX5_order 212 = .ok (.if_icmp .ne 13, 3) := by decide +kernel
theorem dX5_order_215 : decode cX5_order 215 = .ok (.aload_n 0, 1) := by decide +kernel
theorem dX5_order_216 : decode cX5_order 216 = .ok (.iload_n 3, 1) := by decide +kernel
theorem dX5_order_217 : decode cX5_order 217 = .ok (.iload 4, 2) := by decide +kernel
theorem dX5_order_219 : decode cX5_order 219 = .ok (.invokevirtual 105, 3) := by decide +kernel
theorem dX5_order_222 : decode cX5_order 222 = .ok (.goto 8, 3) := by decide +kernel
theorem dX5_order_225 : decode cX5_order 225 = .ok (.aload_n 0, 1) := by decide +kernel
theorem dX5_order_226 : decode cX5_order 226 = .ok (.iload_n 3, 1) := by decide +kernel
theorem dX5_order_227 : decode cX5_order 227 = .ok (.invokevirtual 108, 3) := by decide +kernel
theorem dX5_order_230 : decode cX5_order 230 = .ok (.ireturn, 1) := by decide +kernel
set_option maxRecDepth 20000 in
theorem ggX5_isWell_X5_order : GoodIn wsX5_isWell wsX5_order := goodIn_r _ [7, 1, 2, 8, 9, 10, 11, 6, 12, 13, 14, 15, 16, 17, 18, 19, 20, 21, 22, 23, 24, 25, 26, 27, 28, 29, 30, 31, 32, 33, 34, 35, 36, 37, 38, 39, 40, 41, 42, 43, 44, 45, 46, 47, 48, 49, 50, 51, 52, 53, 54, 55, 56, 57, 58, 59, 60, 61, 62, 63, 64, 65, 66, 67, 68, 69, 70, 71, 72, 73, 74, 75, 76, 77, 78, 79, 80, 81, 82, 83, 84, 85, 86, 87, 88, 89, 90, 91, 92, 93, 94, 95, 96, 97, 98] (by decide +kernel) (by decide +kernel)
set_option maxRecDepth 20000 in
theorem gX5_isWell_X5_order : GoodIn wsX5_isWell (wsV RX5 138 RX5 yX5_order wsX5_order) := goodIn_app (goodIn_of _ (by decide +kernel)) ggX5_isWell_X5_order
set_option maxRecDepth 20000 in
theorem ggX5_isWell_X5_sees : GoodIn wsX5_isWell wsX5_sees := goodIn_r _ [12, 1, 2, 8, 13, 14, 6, 15, 85, 86, 87, 88, 89, 90, 91, 92, 93, 94, 95, 96, 97, 98] (by decide +kernel) (by decide +kernel)
set_option maxRecDepth 20000 in
theorem gX5_isWell_X5_sees : GoodIn wsX5_isWell (wsV RX5 128 RX5 yX5_sees wsX5_sees) := goodIn_app (goodIn_of _ (by decide +kernel)) ggX5_isWell_X5_sees
theorem dX5_isWell_0 : decode cX5_isWell 0 = .ok (.aload_n 0, 1) := by decide +kernel
theorem dX5_isWell_1 : decode cX5_isWell 1 = .ok (.iconst 0, 1) := by decide +kernel
theorem dX5_isWell_2 : decode cX5_isWell 2 = .ok (.putfield 125, 3) := by decide +kernel
theorem dX5_isWell_5 : decode cX5_isWell 5 = .ok (.aload_n 0, 1) := by decide +kernel
theorem dX5_isWell_6 : decode cX5_isWell 6 = .ok (.iconst 0, 1) := by decide +kernel
theorem dX5_isWell_7 : decode cX5_isWell 7 = .ok (.invokevirtual 138, 3) := by decide +kernel
theorem dX5_isWell_10 : decode cX5_isWell 10 = .ok (.ifCond .ne 7, 3) := by decide +kernel
theorem dX5_isWell_13 : decode cX5_isWell 13 = .ok (.iconst 1, 1) := by decide +kernel
theorem dX5_isWell_14 : decode cX5_isWell 14 = .ok (.goto 4, 3) := by decide +kernel
theorem dX5_isWell_17 : decode cX5_isWell 17 = .ok (.iconst 0, 1) := by decide +kernel
theorem dX5_isWell_18 : decode cX5_isWell 18 = .ok (.istore_n 1, 1) := by decide +kernel
theorem dX5_isWell_19 : decode cX5_isWell 19 = .ok (.iload_n 1, 1) := by decide +kernel
theorem dX5_isWell_20 : decode cX5_isWell 20 = .ok (.ifCond .eq 62, 3) := by decide +kernel
theorem dX5_isWell_23 : decode cX5_isWell 23 = .ok (.aload_n 0, 1) := by decide +kernel
theorem dX5_isWell_24 : decode cX5_isWell 24 = .ok (.getfield 125, 3) := by decide +kernel
theorem dX5_isWell_27 : decode cX5_isWell 27 = .ok (.aload_n 0, 1) := by decide +kernel
theorem dX5_isWell_28 : decode cX5_isWell 28 = .ok (.getfield 114, 3) := by decide +kernel
theorem dX5_isWell_31 : decode cX5_isWell 31 = .ok (.if_icmp .ge 51, 3) := by decide +kernel
theorem dX5_isWell_34 : decode cX5_isWell 34 = .ok (.aload_n 0, 1) := by decide +kernel
theorem dX5_isWell_35 : decode cX5_isWell 35 = .ok (.bipush 59, 2) := by decide +kernel
theorem dX5_isWell_37 : decode cX5_isWell 37 = .ok (.bipush 59, 2) := by decide +kernel
theorem dX5_isWell_39 : decode cX5_isWell 39 = .ok (.invokevirtual 128, 3) := by decide +kernel
theorem dX5_isWell_42 : decode cX5_isWell 42 = .ok (.istore_n 1, 1) := by decide +kernel
theorem dX5_isWell_43 : decode cX5_isWell 43 = .ok (.aload_n 0, 1) := by decide +kernel
theorem dX5_isWell_44 : decode cX5_isWell 44 = .ok (.dup, 1) := by decide +kernel
theorem dX5_isWell_45 : decode cX5_isWell 45 = .ok (.getfield 125, 3) := by decide +kernel
theorem dX5_isWell_48 : decode cX5_isWell 48 = .ok (.iload_n 1, 1) := by decide +kernel
theorem dX5_isWell_49 : decode cX5_isWell 49 = .ok (.ifCond .eq 7, 3) := by decide +kernel
theorem dX5_isWell_52 : decode cX5_isWell 52 = .ok (.iconst 1, 1) := by decide +kernel
theorem dX5_isWell_53 : decode cX5_isWell 53 = .ok (.goto 4, 3) := by decide +kernel
theorem dX5_isWell_56 : decode cX5_isWell 56 = .ok (.iconst 0, 1) := by decide +kernel
theorem dX5_isWell_57 : decode cX5_isWell 57 = .ok (.iadd, 1) := by decide +kernel
theorem dX5_isWell_58 : decode cX5_isWell 58 = .ok (.putfield 125, 3) := by decide +kernel
theorem dX5_isWell_61 : decode cX5_isWell 61 = .ok (.iload_n 1, 1) := by decide +kernel
theorem dX5_isWell_62 : decode cX5_isWell 62 = .ok (.ifCond .eq 15, 3) := by decide +kernel
theorem dX5_isWell_65 : decode cX5_isWell 65 = .ok (.aload_n 0, 1) := by decide +kernel
theorem dX5_isWell_66 : decode cX5_isWell 66 = .ok (.iconst 0, 1) := by decide +kernel
theorem dX5_isWell_67 : decode cX5_isWell 67 = .ok (.invokevirtual 138, 3) := by decide +kernel
theorem dX5_isWell_70 : decode cX5_isWell 70 = .ok (.ifCond .ne 7, 3) := by decide +kernel
theorem dX5_isWell_73 : decode cX5_isWell 73 = .ok (.iconst 1, 1) := by decide +kernel
theorem dX5_isWell_74 : decode cX5_isWell 74 = .ok (.goto 4, 3) := by decide +kernel
theorem dX5_isWell_77 : decode cX5_isWell 77 = .ok (.iconst 0, 1) := by decide +kernel
theorem dX5_isWell_78 : decode cX5_isWell 78 = .ok (.istore_n 1, 1) := by decide +kernel
theorem dX5_isWell_79 : decode cX5_isWell 79 = .ok (.goto (-60), 3) := by decide +kernel
theorem dX5_isWell_82 : decode cX5_isWell 82 = .ok (.iload_n 1, 1) := by decide +kernel
theorem dX5_isWell_83 : decode cX5_isWell 83 = .ok (.ireturn, 1) := by decide +kernel
set_option maxRecDepth 20000 in
theorem ggX5_fault_X5_isWell : GoodIn wsX5_fault wsX5_isWell := goodIn_r _ [6, 1, 7, 8, 9, 10, 5, 11, 12, 13, 14, 15, 16, 17, 18, 19, 20, 21, 22, 23, 24, 25, 26, 27, 28, 29, 30, 31, 32, 33, 34, 35, 36, 37, 38, 39, 40, 41, 42, 43, 44, 45, 46, 47, 48, 49, 50, 51, 52, 53, 54, 55, 56, 57, 58, 59, 60, 61, 62, 63, 64, 65, 66, 67, 68, 69, 70, 71, 72, 73, 74, 75, 76, 77, 78, 79, 80, 81, 82, 83, 84, 85, 86, 87, 88, 89, 90, 91, 92, 93, 94, 95, 96, 97, 98, 99, 100, 101, 102] (by decide +kernel) (by decide +kernel)
set_option maxRecDepth 20000 in
theorem gX5_fault_X5_isWell : GoodIn wsX5_fault (wsV RX5 142 RX5 yX5_isWell wsX5_isWell) := goodIn_app (goodIn_of _ (by decide +kernel)) ggX5_fault_X5_isWell
theorem dX5_fault_0 : decode cX5_fault 0 = .ok (.aload_n 0, 1) := by decide +kernel
theorem dX5_fault_1 : decode cX5_fault 1 = .ok (.invokevirtual 142, 3) := by decide +kernel
theorem dX5_fault_4 : decode cX5_fault 4 = .ok (.ifCond .eq 8, 3) := by decide +kernel
theorem dX5_fault_7 : decode cX5_fault 7 = .ok (.bipush (-6), 2) := by decide +kernel
theorem dX5_fault_9 : decode cX5_fault 9 = .ok (.goto 7, 3) := by decide +kernel
theorem dX5_fault_12 : decode cX5_fault 12 = .ok (.aload_n 0, 1) := by decide +kernel
theorem dX5_fault_13 : decode cX5_fault 13 = .ok (.getfield 125, 3) := by decide +kernel
theorem dX5_fault_16 : decode cX5_fault 16 = .ok (.ireturn, 1) := by decide +kernel
set_option maxRecDepth 20000 in
theorem ggX5_carryOut_X5_isWell : GoodIn wsX5_carryOut wsX5_isWell := goodIn_r _ [7, 1, 2, 8, 9, 10, 6, 11, 12, 13, 14, 15, 16, 17, 18, 19, 20, 21, 22, 23, 24, 25, 26, 27, 28, 29, 30, 31, 32, 33, 34, 35, 36, 37, 38, 39, 40, 41, 42, 43, 44, 45, 46, 47, 48, 49, 50, 51, 52, 53, 54, 55, 56, 57, 58, 59, 60, 61, 62, 63, 64, 65, 66, 67, 68, 69, 70, 71, 72, 73, 74, 75, 76, 77, 78, 79, 80, 81, 82, 83, 84, 85, 86, 87, 88, 100, 101, 102, 103, 104, 105, 106, 107, 108, 109, 110, 111, 112, 113] (by decide +kernel) (by decide +kernel)
set_option maxRecDepth 20000 in
theorem gX5_carryOut_X5_isWell : GoodIn wsX5_carryOut (wsV RX5 142 RX5 yX5_isWell wsX5_isWell) := goodIn_app (goodIn_of _ (by decide +kernel)) ggX5_carryOut_X5_isWell
set_option maxRecDepth 20000 in
theorem ggX5_carryOut_X5_remember : GoodIn wsX5_carryOut wsX5_remember := goodIn_r _ [92, 93, 32, 100, 101, 102, 103, 104, 105, 106, 107, 108, 109, 110, 111, 112, 113] (by decide +kernel) (by decide +kernel)
set_option maxRecDepth 20000 in
theorem gX5_carryOut_X5_remember : GoodIn wsX5_carryOut (wsV RX5 40 RX5 yX5_remember wsX5_remember) := goodIn_app (goodIn_of _ (by decide +kernel)) ggX5_carryOut_X5_remember
set_option maxRecDepth 20000 in
theorem ggX5_carryOut_X5_order : GoodIn wsX5_carryOut wsX5_order := goodIn_r _ [11, 1, 2, 12, 13, 14, 15, 6, 16, 17, 18, 19, 20, 21, 22, 23, 24, 25, 26, 27, 28, 29, 30, 31, 32, 33, 34, 35, 36, 37, 38, 39, 40, 41, 42, 43, 44, 45, 46, 47, 48, 49, 50, 51, 52, 53, 54, 55, 56, 57, 58, 59, 60, 61, 62, 63, 64, 65, 66, 67, 68, 69, 70, 71, 72, 73, 74, 75, 76, 77, 78, 79, 80, 81, 82, 83, 84, 85, 86, 87, 88, 100, 101, 102, 103, 104, 105, 106, 107, 108, 109, 110, 111, 112, 113] (by decide +kernel) (by decide +kernel)
set_option maxRecDepth 20000 in
theorem gX5_carryOut_X5_order : GoodIn wsX5_carryOut (wsV RX5 138 RX5 yX5_order wsX5_order) := goodIn_app (goodIn_of _ (by decide +kernel)) ggX5_carryOut_X5_order
set_option maxRecDepth 20000 in
theorem ggX5_carryOut_X5_record : GoodIn wsX5_carryOut wsX5_record := goodIn_r _ [97, 98, 99, 93, 100, 101, 102, 103, 104, 105, 106, 107, 108, 109, 110, 111, 112, 113] (by decide +kernel) (by decide +kernel)
set_option maxRecDepth 20000 in
theorem gX5_carryOut_X5_record : GoodIn wsX5_carryOut (wsV RX5 43 RX5 yX5_record wsX5_record) := goodIn_app (goodIn_of _ (by decide +kernel)) ggX5_carryOut_X5_record
theorem dX5_carryOut_0 : decode cX5_carryOut 0 = .ok (.aload_n 0, 1) := by decide +kernel
theorem dX5_carryOut_1 : decode cX5_carryOut 1 = .ok (.invokevirtual 142, 3) := by decide +kernel
theorem dX5_carryOut_4 : decode cX5_carryOut 4 = .ok (.ifCond .ne 6, 3) := by decide +kernel
theorem dX5_carryOut_7 : decode cX5_carryOut 7 = .ok (.bipush (-3), 2) := by decide +kernel
theorem dX5_carryOut_9 : decode cX5_carryOut 9 = .ok (.ireturn, 1) := by decide +kernel
theorem dX5_carryOut_10 : decode cX5_carryOut 10 = .ok (.aload_n 0, 1) := by decide +kernel
theorem dX5_carryOut_11 : decode cX5_carryOut 11 = .ok (.invokevirtual 40, 3) := by decide +kernel
theorem dX5_carryOut_14 : decode cX5_carryOut 14 = .ok (.aload_n 0, 1) := by decide +kernel
theorem dX5_carryOut_15 : decode cX5_carryOut 15 = .ok (.iconst 0, 1) := by decide +kernel
theorem dX5_carryOut_16 : decode cX5_carryOut 16 = .ok (.putfield 125, 3) := by decide +kernel
theorem dX5_carryOut_19 : decode cX5_carryOut 19 = .ok (.iconst 0, 1) := by decide +kernel
theorem dX5_carryOut_20 : decode cX5_carryOut 20 = .ok (.istore_n 1, 1) := by decide +kernel
theorem dX5_carryOut_21 : decode cX5_carryOut 21 = .ok (.iconst 1, 1) := by decide +kernel
theorem dX5_carryOut_22 : decode cX5_carryOut 22 = .ok (.istore_n 2, 1) := by decide +kernel
theorem dX5_carryOut_23 : decode cX5_carryOut 23 = .ok (.iload_n 2, 1) := by decide +kernel
theorem dX5_carryOut_24 : decode cX5_carryOut 24 = .ok (.ifCond .eq 53, 3) := by decide +kernel
theorem dX5_carryOut_27 : decode cX5_carryOut 27 = .ok (.aload_n 0, 1) := by decide +kernel
theorem dX5_carryOut_28 : decode cX5_carryOut 28 = .ok (.getfield 125, 3) := by decide +kernel
theorem dX5_carryOut_31 : decode cX5_carryOut 31 = .ok (.aload_n 0, 1) := by decide +kernel
theorem dX5_carryOut_32 : decode cX5_carryOut 32 = .ok (.getfield 114, 3) := by decide +kernel
theorem dX5_carryOut_35 : decode cX5_carryOut 35 = .ok (.if_icmp .ge 42, 3) := by decide +kernel
theorem dX5_carryOut_38 : decode cX5_carryOut 38 = .ok (.aload_n 0, 1) := by decide +kernel
theorem dX5_carryOut_39 : decode cX5_carryOut 39 = .ok (.iconst 1, 1) := by decide +kernel
theorem dX5_carryOut_40 : decode cX5_carryOut 40 = .ok (.invokevirtual 138, 3) := by decide +kernel
theorem dX5_carryOut_43 : decode cX5_carryOut 43 = .ok (.ifCond .lt 7, 3) := by decide +kernel
theorem dX5_carryOut_46 : decode cX5_carryOut 46 = .ok (.iconst 1, 1) := by decide +kernel
theorem dX5_carryOut_47 : decode cX5_carryOut 47 = .ok (.goto 4, 3) := by decide +kernel
theorem dX5_carryOut_50 : decode cX5_carryOut 50 = .ok (.iconst 0, 1) := by decide +kernel
theorem dX5_carryOut_51 : decode cX5_carryOut 51 = .ok (.istore_n 2, 1) := by decide +kernel
theorem dX5_carryOut_52 : decode cX5_carryOut 52 = .ok (.iload_n 1, 1) := by decide +kernel
theorem dX5_carryOut_53 : decode cX5_carryOut 53 = .ok (.iload_n 2, 1) := by decide +kernel
theorem dX5_carryOut_54 : decode cX5_carryOut 54 = .ok (.ifCond .eq 7, 3) := by decide +kernel
theorem dX5_carryOut_57 : decode cX5_carryOut 57 = .ok (.iconst 1, 1) := by decide +kernel
theorem dX5_carryOut_58 : decode cX5_carryOut 58 = .ok (.goto 4, 3) := by decide +kernel
theorem dX5_carryOut_61 : decode cX5_carryOut 61 = .ok (.iconst 0, 1) := by decide +kernel
theorem dX5_carryOut_62 : decode cX5_carryOut 62 = .ok (.iadd, 1) := by decide +kernel
theorem dX5_carryOut_63 : decode cX5_carryOut 63 = .ok (.istore_n 1, 1) := by decide +kernel
theorem dX5_carryOut_64 : decode cX5_carryOut 64 = .ok (.aload_n 0, 1) := by decide +kernel
theorem dX5_carryOut_65 : decode cX5_carryOut 65 = .ok (.dup, 1) := by decide +kernel
theorem dX5_carryOut_66 : decode cX5_carryOut 66 = .ok (.getfield 125, 3) := by decide +kernel
theorem dX5_carryOut_69 : decode cX5_carryOut 69 = .ok (.iconst 1, 1) := by decide +kernel
theorem dX5_carryOut_70 : decode cX5_carryOut 70 = .ok (.iadd, 1) := by decide +kernel
theorem dX5_carryOut_71 : decode cX5_carryOut 71 = .ok (.putfield 125, 3) := by decide +kernel
theorem dX5_carryOut_74 : decode cX5_carryOut 74 = .ok (.goto (-51), 3) := by decide +kernel
theorem dX5_carryOut_77 : decode cX5_carryOut 77 = .ok (.aload_n 0, 1) := by decide +kernel
theorem dX5_carryOut_78 : decode cX5_carryOut 78 = .ok (.iconst 0, 1) := by decide +kernel
theorem dX5_carryOut_79 : decode cX5_carryOut 79 = .ok (.putfield 114, 3) := by decide +kernel
theorem dX5_carryOut_82 : decode cX5_carryOut 82 = .ok (.aload_n 0, 1) := by decide +kernel
theorem dX5_carryOut_83 : decode cX5_carryOut 83 = .ok (.iload_n 1, 1) := by decide +kernel
theorem dX5_carryOut_84 : decode cX5_carryOut 84 = .ok (.invokevirtual 43, 3) := by decide +kernel
theorem dX5_carryOut_87 : decode cX5_carryOut 87 = .ok (.ireturn, 1) := by decide +kernel
