theorem dX5_tries_41 : decode cX5_tries 41 = .ok (.iload_n 1, 1) := by decide +kernel
theorem dX5_tries_42 : decode cX5_tries 42 = .ok (.iconst 4, 1) := by decide +kernel
theorem dX5_tries_43 : decode cX5_tries 43 = .ok (.invokevirtual 47, 3) := by decide +kernel
theorem dX5_tries_46 : decode cX5_tries 46 = .ok (.putfield 77, 3) := by decide +kernel
theorem dX5_tries_49 : decode cX5_tries 49 = .ok (.return_, 1) := by decide +kernel
set_option maxRecDepth 20000 in
theorem ggX5_minute_X5_taken : GoodIn wsX5_minute wsX5_taken := goodIn_r _ [10, 1, 11, 12, 13, 9, 14, 31, 32, 33, 34, 35, 36, 37, 38, 39, 40, 41, 42, 43, 44] (by decide +kernel) (by decide +kernel)
set_option maxRecDepth 20000 in
theorem gX5_minute_X5_taken : GoodIn wsX5_minute (wsV RX5 52 RX5 yX5_taken wsX5_taken) := goodIn_app (goodIn_of _ (by decide +kernel)) ggX5_minute_X5_taken
set_option maxRecDepth 20000 in
theorem ggX5_minute_X5_tries : GoodIn wsX5_minute wsX5_tries := goodIn_r _ [18, 2, 3, 4, 5, 11, 12, 13, 9, 14, 1, 31, 32, 33, 34, 35, 36, 37, 38, 39, 40, 41, 42, 43, 44] (by decide +kernel) (by decide +kernel)
set_option maxRecDepth 20000 in
theorem gX5_minute_X5_tries : GoodIn wsX5_minute (wsV RX5 80 RX5 yX5_tries wsX5_tries) := goodIn_app (goodIn_of _ (by decide +kernel)) ggX5_minute_X5_tries
set_option maxRecDepth 20000 in
theorem ggX5_minute_X5_passes : GoodIn wsX5_minute wsX5_passes := goodIn_r _ [22, 3, 1, 2, 4, 5, 31, 32, 33, 34, 35, 36, 37, 38, 39, 40, 41, 42, 43, 44] (by decide +kernel) (by decide +kernel)
set_option maxRecDepth 20000 in
theorem gX5_minute_X5_passes : GoodIn wsX5_minute (wsV RX5 84 RX5 yX5_passes wsX5_passes) := goodIn_app (goodIn_of _ (by decide +kernel)) ggX5_minute_X5_passes
set_option maxRecDepth 20000 in
theorem ggX5_minute_X5_lay : GoodIn wsX5_minute wsX5_lay := goodIn_r _ [26, 1, 31, 32, 33, 34, 35, 36, 37, 38, 39, 40, 41, 42, 43, 44] (by decide +kernel) (by decide +kernel)
set_option maxRecDepth 20000 in
theorem gX5_minute_X5_lay : GoodIn wsX5_minute (wsV RX5 56 RX5 yX5_lay wsX5_lay) := goodIn_app (goodIn_of _ (by decide +kernel)) ggX5_minute_X5_lay
set_option maxRecDepth 20000 in
theorem ggX5_minute_X5_note : GoodIn wsX5_minute wsX5_note := goodIn_r _ [30, 1, 31, 32, 33, 34, 35, 36, 37, 38, 39, 40, 41, 42, 43, 44] (by decide +kernel) (by decide +kernel)
set_option maxRecDepth 20000 in
theorem gX5_minute_X5_note : GoodIn wsX5_minute (wsV RX5 63 RX5 yX5_note wsX5_note) := goodIn_app (goodIn_of _ (by decide +kernel)) ggX5_minute_X5_note
theorem dX5_minute_0 : decode cX5_minute 0 = .ok (.aload_n 0, 1) := by decide +kernel
theorem dX5_minute_1 : decode cX5_minute 1 = .ok (.invokevirtual 52, 3) := by decide +kernel
theorem dX5_minute_4 : decode cX5_minute 4 = .ok (.istore_n 1, 1) := by decide +kernel
theorem dX5_minute_5 : decode cX5_minute 5 = .ok (.iconst 0, 1) := by decide +kernel
theorem dX5_minute_6 : decode cX5_minute 6 = .ok (.istore_n 2, 1) := by decide +kernel
theorem dX5_minute_7 : decode cX5_minute 7 = .ok (.aload_n 0, 1) := by decide +kernel
theorem dX5_minute_8 : decode cX5_minute 8 = .ok (.getfield 7, 3) := by decide +kernel
theorem dX5_minute_11 : decode cX5_minute 11 = .ok (.bipush 7, 2) := by decide +kernel
theorem dX5_minute_13 : decode cX5_minute 13 = .ok (.dup2, 1) := by decide +kernel
theorem dX5_minute_14 : decode cX5_minute 14 = .ok (.iaload, 1) := by decide +kernel
theorem dX5_minute_15 : decode cX5_minute 15 = .ok (.iconst 1, 1) := by decide +kernel
theorem dX5_minute_16 : decode cX5_minute 16 = .ok (.iadd, 1) := by decide +kernel
theorem dX5_minute_17 : decode cX5_minute 17 = .ok (.iastore, 1) := by decide +kernel
theorem dX5_minute_18 : decode cX5_minute 18 = .ok (.iconst 0, 1) := by decide +kernel
theorem dX5_minute_19 : decode cX5_minute 19 = .ok (.istore_n 3, 1) := by decide +kernel
theorem dX5_minute_20 : decode cX5_minute 20 = .ok (.iload_n 3, 1) := by decide +kernel
theorem dX5_minute_21 : decode cX5_minute 21 = .ok (.aload_n 0, 1) := by decide +kernel
theorem dX5_minute_22 : decode cX5_minute 22 = .ok (.getfield 7, 3) := by decide +kernel
theorem dX5_minute_25 : decode cX5_minute 25 = .ok (.bipush 8, 2) := by decide +kernel
theorem dX5_minute_27 : decode cX5_minute 27 = .ok (.iaload, 1) := by decide +kernel
theorem dX5_minute_28 : decode cX5_minute 28 = .ok (.if_icmp .ge 82, 3) := by decide +kernel
theorem dX5_minute_31 : decode cX5_minute 31 = .ok (.aload_n 0, 1) := by decide +kernel
theorem dX5_minute_32 : decode cX5_minute 32 = .ok (.iload_n 3, 1) := by decide +kernel
theorem dX5_minute_33 : decode cX5_minute 33 = .ok (.invokevirtual 80, 3) := by decide +kernel
theorem dX5_minute_36 : decode cX5_minute 36 = .ok (.aload_n 0, 1) := by decide +kernel
theorem dX5_minute_37 : decode cX5_minute 37 = .ok (.invokevirtual 84, 3) := by decide +kernel
theorem dX5_minute_40 : decode cX5_minute 40 = .ok (.istore 4, 2) := by decide +kernel
theorem dX5_minute_42 : decode cX5_minute 42 = .ok (.aload_n 0, 1) := by decide +kernel
theorem dX5_minute_43 : decode cX5_minute 43 = .ok (.iload_n 3, 1) := by decide +kernel
theorem dX5_minute_44 : decode cX5_minute 44 = .ok (.iconst 2, 1) := by decide +kernel
theorem dX5_minute_45 : decode cX5_minute 45 = .ok (.aload_n 0, 1) := by decide +kernel
theorem dX5_minute_46 : decode cX5_minute 46 = .ok (.getfield 70, 3) := by decide +kernel
theorem dX5_minute_49 : decode cX5_minute 49 = .ok (.invokevirtual 56, 3) := by decide +kernel
theorem dX5_minute_52 : decode cX5_minute 52 = .ok (.aload_n 0, 1) := by decide +kernel
theorem dX5_minute_53 : decode cX5_minute 53 = .ok (.iload_n 3, 1) := by decide +kernel
theorem dX5_minute_54 : decode cX5_minute 54 = .ok (.iconst 5, 1) := by decide +kernel
theorem dX5_minute_55 : decode cX5_minute 55 = .ok (.aload_n 0, 1) := by decide +kernel
theorem dX5_minute_56 : decode cX5_minute 56 = .ok (.getfield 67, 3) := by decide +kernel
theorem dX5_minute_59 : decode cX5_minute 59 = .ok (.invokevirtual 56, 3) := by decide +kernel
theorem dX5_minute_62 : decode cX5_minute 62 = .ok (.aload_n 0, 1) := by decide +kernel
theorem dX5_minute_63 : decode cX5_minute 63 = .ok (.iload_n 3, 1) := by decide +kernel
theorem dX5_minute_64 : decode cX5_minute 64 = .ok (.iconst 3, 1) := by decide +kernel
theorem dX5_minute_65 : decode cX5_minute 65 = .ok (.aload_n 0, 1) := by decide +kernel
theorem dX5_minute_66 : decode cX5_minute 66 = .ok (.getfield 73, 3) := by decide +kernel
theorem dX5_minute_69 : decode cX5_minute 69 = .ok (.ifCond .eq 7, 3) := by decide +kernel
theorem dX5_minute_72 : decode cX5_minute 72 = .ok (.iconst 1, 1) := by decide +kernel
theorem dX5_minute_73 : decode cX5_minute 73 = .ok (.goto 4, 3) := by decide +kernel
theorem dX5_minute_76 : decode cX5_minute 76 = .ok (.iconst 0, 1) := by decide +kernel
theorem dX5_minute_77 : decode cX5_minute 77 = .ok (.invokevirtual 56, 3) := by decide +kernel
theorem dX5_minute_80 : decode cX5_minute 80 = .ok (.aload_n 0, 1) := by decide +kernel
theorem dX5_minute_81 : decode cX5_minute 81 = .ok (.iload_n 3, 1) := by decide +kernel
theorem dX5_minute_82 : decode cX5_minute 82 = .ok (.iconst 4, 1) := by decide +kernel
theorem dX5_minute_83 : decode cX5_minute 83 = .ok (.aload_n 0, 1) := by decide +kernel
theorem dX5_minute_84 : decode cX5_minute 84 = .ok (.getfield 77, 3) := by decide +kernel
theorem dX5_minute_87 : decode cX5_minute 87 = .ok (.invokevirtual 56, 3) := by decide +kernel
theorem dX5_minute_90 : decode cX5_minute 90 = .ok (.iload 4, 2) := by decide +kernel
theorem dX5_minute_92 : decode cX5_minute 92 = .ok (.ifCond .eq 12, 3) := by decide +kernel
theorem dX5_minute_95 : decode cX5_minute 95 = .ok (.aload_n 0, 1) := by decide +kernel
theorem dX5_minute_96 : decode cX5_minute 96 = .ok (.iconst 4, 1) := by decide +kernel
theorem dX5_minute_97 : decode cX5_minute 97 = .ok (.iload_n 3, 1) := by decide +kernel
theorem dX5_minute_98 : decode cX5_minute 98 = .ok (.invokevirtual 63, 3) := by decide +kernel
theorem dX5_minute_101 : decode cX5_minute 101 = .ok (.iinc 2 1, 3) := by decide +kernel
theorem dX5_minute_104 : decode cX5_minute 104 = .ok (.iinc 3 1, 3) := by decide +kernel
theorem dX5_minute_107 : decode cX5_minute 107 = .ok (.goto (-87), 3) := by decide +kernel
theorem dX5_minute_110 : decode cX5_minute 110 = .ok (.aload_n 0, 1) := by decide +kernel
theorem dX5_minute_111 : decode cX5_minute 111 = .ok (.getfield 7, 3) := by decide +kernel
theorem dX5_minute_114 : decode cX5_minute 114 = .ok (.bipush 9, 2) := by decide +kernel
theorem dX5_minute_116 : decode cX5_minute 116 = .ok (.dup2, 1) := by decide +kernel
theorem dX5_minute_117 : decode cX5_minute 117 = .ok (.iaload, 1) := by decide +kernel
theorem dX5_minute_118 : decode cX5_minute 118 = .ok (.aload_n 0, 1) := by decide +kernel
theorem dX5_minute_119 : decode cX5_minute 119 = .ok (.invokevirtual 52, 3) := by decide +kernel
theorem dX5_minute_122 : decode cX5_minute 122 = .ok (.iload_n 1, 1) := by decide +kernel
theorem dX5_minute_123 : decode cX5_minute 123 = .ok (.if_icmp .eq 7, 3) := by decide +kernel
theorem dX5_minute_126 : decode cX5_minute 126 = .ok (.iconst 1, 1) := by decide +kernel
theorem dX5_minute_127 : decode cX5_minute 127 = .ok (.goto 4, 3) := by decide +kernel
theorem dX5_minute_130 : decode cX5_minute 130 = .ok (.iconst 0, 1) := by decide +kernel
theorem dX5_minute_131 : decode cX5_minute 131 = .ok (.iadd, 1) := by decide +kernel
theorem dX5_minute_132 : decode cX5_minute 132 = .ok (.iastore, 1) := by decide +kernel
theorem dX5_minute_133 : decode cX5_minute 133 = .ok (.iload_n 2, 1) := by decide +kernel
theorem dX5_minute_134 : decode cX5_minute 134 = .ok (.ireturn, 1) := by decide +kernel
set_option maxRecDepth 20000 in
theorem ggX5_comes_X5_in : GoodIn wsX5_comes wsX5_in := goodIn_r _ [5] (by decide +kernel) (by decide +kernel)
set_option maxRecDepth 20000 in
theorem gX5_comes_X5_in : GoodIn wsX5_comes (va_wsS RX5 32 yX5_in wsX5_in) := goodIn_app (goodIn_of _ (by decide +kernel)) ggX5_comes_X5_in
set_option maxRecDepth 20000 in
theorem ggX5_comes_X5_taken : GoodIn wsX5_comes wsX5_taken := goodIn_r _ [9, 1, 10, 11, 12, 4, 13, 18, 19, 20, 21, 22, 23, 24, 25, 26, 27, 28, 29, 30, 31] (by decide +kernel) (by decide +kernel)
set_option maxRecDepth 20000 in
theorem gX5_comes_X5_taken : GoodIn wsX5_comes (wsV RX5 52 RX5 yX5_taken wsX5_taken) := goodIn_app (goodIn_of _ (by decide +kernel)) ggX5_comes_X5_taken
set_option maxRecDepth 20000 in
theorem ggX5_comes_X5_lay : GoodIn wsX5_comes wsX5_lay := goodIn_r _ [17, 1, 18, 19, 20, 21, 22, 23, 24, 25, 26, 27, 28, 29, 30, 31] (by decide +kernel) (by decide +kernel)
set_option maxRecDepth 20000 in
theorem gX5_comes_X5_lay : GoodIn wsX5_comes (wsV RX5 56 RX5 yX5_lay wsX5_lay) := goodIn_app (goodIn_of _ (by decide +kernel)) ggX5_comes_X5_lay
theorem dX5_comes_0 : decode cX5_comes 0 = .ok (.iload_n 1, 1) := by decide +kernel
theorem dX5_comes_1 : decode cX5_comes 1 = .ok (.i2l, 1) := by decide +kernel
theorem dX5_comes_2 : decode cX5_comes 2 = .ok (.iconst 0, 1) := by decide +kernel
theorem dX5_comes_3 : decode cX5_comes 3 = .ok (.sipush 999, 3) := by decide +kernel
theorem dX5_comes_6 : decode cX5_comes 6 = .ok (.invokestatic 32, 3) := by decide +kernel
theorem dX5_comes_9 : decode cX5_comes 9 = .ok (.ifCond .ne 6, 3) := by decide +kernel
theorem dX5_comes_12 : decode cX5_comes 12 = .ok (.bipush (-2), 2) := by decide +kernel
theorem dX5_comes_14 : decode cX5_comes 14 = .ok (.ireturn, 1) := by decide +kernel
theorem dX5_comes_15 : decode cX5_comes 15 = .ok (.aload_n 0, 1) := by decide +kernel
theorem dX5_comes_16 : decode cX5_comes 16 = .ok (.getfield 7, 3) := by decide +kernel
theorem dX5_comes_19 : decode cX5_comes 19 = .ok (.bipush 8, 2) := by decide +kernel
theorem dX5_comes_21 : decode cX5_comes 21 = .ok (.iaload, 1) := by decide +kernel
theorem dX5_comes_22 : decode cX5_comes 22 = .ok (.istore_n 2, 1) := by decide +kernel
theorem dX5_comes_23 : decode cX5_comes 23 = .ok (.iload_n 2, 1) := by decide +kernel
theorem dX5_comes_24 : decode cX5_comes 24 = .ok (.bipush 8, 2) := by decide +kernel
theorem dX5_comes_26 : decode cX5_comes 26 = .ok (.if_icmp .ne 6, 3) := by decide +kernel
theorem dX5_comes_29 : decode cX5_comes 29 = .ok (.bipush (-4), 2) := by decide +kernel
theorem dX5_comes_31 : decode cX5_comes 31 = .ok (.ireturn, 1) := by decide +kernel
theorem dX5_comes_32 : decode cX5_comes 32 = .ok (.aload_n 0, 1) := by decide +kernel
theorem dX5_comes_33 : decode cX5_comes 33 = .ok (.invokevirtual 52, 3) := by decide +kernel
theorem dX5_comes_36 : decode cX5_comes 36 = .ok (.istore_n 3, 1) := by decide +kernel
theorem dX5_comes_37 : decode cX5_comes 37 = .ok (.iconst 0, 1) := by decide +kernel
theorem dX5_comes_38 : decode cX5_comes 38 = .ok (.istore 4, 2) := by decide +kernel
theorem dX5_comes_40 : decode cX5_comes 40 = .ok (.iload 4, 2) := by decide +kernel
theorem dX5_comes_42 : decode cX5_comes 42 = .ok (.bipush 8, 2) := by decide +kernel
theorem dX5_comes_44 : decode cX5_comes 44 = .ok (.if_icmp .ge 36, 3) := by decide +kernel
theorem dX5_comes_47 : decode cX5_comes 47 = .ok (.aload_n 0, 1) := by decide +kernel
theorem dX5_comes_48 : decode cX5_comes 48 = .ok (.iload_n 2, 1) := by decide +kernel
theorem dX5_comes_49 : decode cX5_comes 49 = .ok (.iload 4, 2) := by decide +kernel
theorem dX5_comes_51 : decode cX5_comes 51 = .ok (.iload 4, 2) := by decide +kernel
theorem dX5_comes_53 : decode cX5_comes 53 = .ok (.ifCond .ne 7, 3) := by decide +kernel
theorem dX5_comes_56 : decode cX5_comes 56 = .ok (.iconst 1, 1) := by decide +kernel
theorem dX5_comes_57 : decode cX5_comes 57 = .ok (.goto 14, 3) := by decide +kernel
theorem dX5_comes_60 : decode cX5_comes 60 = .ok (.iload 4, 2) := by decide +kernel
theorem dX5_comes_62 : decode cX5_comes 62 = .ok (.iconst 1, 1) := by decide +kernel
theorem dX5_comes_63 : decode cX5_comes 63 = .ok (.if_icmp .ne 7, 3) := by decide +kernel
theorem dX5_comes_66 : decode cX5_comes 66 = .ok (.iload_n 1, 1) := by decide +kernel
theorem dX5_comes_67 : decode cX5_comes 67 = .ok (.goto 4, 3) := by decide +kernel
theorem dX5_comes_70 : decode cX5_comes 70 = .ok (.iconst 0, 1) := by decide +kernel
theorem dX5_comes_71 : decode cX5_comes 71 = .ok (.invokevirtual 56, 3) := by decide +kernel
theorem dX5_comes_74 : decode cX5_comes 74 = .ok (.iinc 4 1, 3) := by decide +kernel
theorem dX5_comes_77 : decode cX5_comes 77 = .ok (.goto (-37), 3) := by decide +kernel
theorem dX5_comes_80 : decode cX5_comes 80 = .ok (.aload_n 0, 1) := by decide +kernel
theorem dX5_comes_81 : decode cX5_comes 81 = .ok (.getfield 7, 3) := by decide +kernel
theorem dX5_comes_84 : decode cX5_comes 84 = .ok (.bipush 8, 2) := by decide +kernel
theorem dX5_comes_86 : decode cX5_comes 86 = .ok (.dup2, 1) := by decide +kernel
theorem dX5_comes_87 : decode cX5_comes 87 = .ok (.iaload, 1) := by decide +kernel
theorem dX5_comes_88 : decode cX5_comes 88 = .ok (.iconst 1, 1) := by decide +kernel
theorem dX5_comes_89 : decode cX5_comes 89 = .ok (.iadd, 1) := by decide +kernel
theorem dX5_comes_90 : decode cX5_comes 90 = .ok (.iastore, 1) := by decide +kernel
theorem dX5_comes_91 : decode cX5_comes 91 = .ok (.aload_n 0, 1) := by decide +kernel
theorem dX5_comes_92 : decode cX5_comes 92 = .ok (.getfield 7, 3) := by decide +kernel
theorem dX5_comes_95 : decode cX5_comes 95 = .ok (.bipush 9, 2) := by decide +kernel
theorem dX5_comes_97 : decode cX5_comes 97 = .ok (.dup2, 1) := by decide +kernel
theorem dX5_comes_98 : decode cX5_comes 98 = .ok (.iaload, 1) := by decide +kernel
theorem dX5_comes_99 : decode cX5_comes 99 = .ok (.aload_n 0, 1) := by decide +kernel
theorem dX5_comes_100 : decode cX5_comes 100 = .ok (.invokevirtual 52, 3) := by decide +kernel
theorem dX5_comes_103 : decode cX5_comes 103 = .ok (.iload_n 3, 1) := by decide +kernel
theorem dX5_comes_104 : decode cX5_comes 104 = .ok (.if_icmp .eq 7, 3) := by decide +kernel
theorem dX5_comes_107 : decode cX5_comes 107 = .ok (.iconst 1, 1) := by decide +kernel
theorem dX5_comes_108 : decode cX5_comes 108 = .ok (.goto 4, 3) := by decide +kernel
theorem dX5_comes_111 : decode cX5_comes 111 = .ok (.iconst 0, 1) := by decide +kernel
theorem dX5_comes_112 : decode cX5_comes 112 = .ok (.iadd, 1) := by decide +kernel
theorem dX5_comes_113 : decode cX5_comes 113 = .ok (.iastore, 1) := by decide +kernel
theorem dX5_comes_114 : decode cX5_comes 114 = .ok (.iload_n 2, 1) := by decide +kernel
theorem dX5_comes_115 : decode cX5_comes 115 = .ok (.ireturn, 1) := by decide +kernel
set_option maxRecDepth 20000 in
theorem ggX5_turns_X5_isLanding : GoodIn wsX5_turns wsX5_isLanding := goodIn_r _ [5, 6, 7, 8, 4, 9, 34, 35, 36, 37, 38, 39, 40, 41, 42, 43, 44, 45, 46, 47] (by decide +kernel) (by decide +kernel)
set_option maxRecDepth 20000 in
theorem gX5_turns_X5_isLanding : GoodIn wsX5_turns (wsV RX5 88 RX5 yX5_isLanding wsX5_isLanding) := goodIn_app (goodIn_of _ (by decide +kernel)) ggX5_turns_X5_isLanding
set_option maxRecDepth 20000 in
theorem ggX5_turns_X5_its : GoodIn wsX5_turns wsX5_its := goodIn_r _ [13, 6, 34, 35, 36, 37, 38, 39, 40, 41, 42, 43, 44, 45, 46, 47] (by decide +kernel) (by decide +kernel)
set_option maxRecDepth 20000 in
theorem gX5_turns_X5_its : GoodIn wsX5_turns (wsV RX5 47 RX5 yX5_its wsX5_its) := goodIn_app (goodIn_of _ (by decide +kernel)) ggX5_turns_X5_its
set_option maxRecDepth 20000 in
theorem ggX5_turns_X5_change : GoodIn wsX5_turns wsX5_change := goodIn_r _ [17, 6, 18, 19, 20, 4, 21, 10, 11, 12, 13, 22, 23, 24, 25, 26, 27, 28, 29, 30, 31, 32, 33, 34, 35, 36, 37, 38, 39, 40, 41, 42, 43, 44, 45, 46, 47] (by decide +kernel) (by decide +kernel)
set_option maxRecDepth 20000 in
theorem gX5_turns_X5_change : GoodIn wsX5_turns (wsV RX5 92 RX5 yX5_change wsX5_change) := goodIn_app (goodIn_of _ (by decide +kernel)) ggX5_turns_X5_change
theorem dX5_turns_0 : decode cX5_turns 0 = .ok (.aload_n 0, 1) := by decide +kernel
theorem dX5_turns_1 : decode cX5_turns 1 = .ok (.iload_n 1, 1) := by decide +kernel
theorem dX5_turns_2 : decode cX5_turns 2 = .ok (.invokevirtual 88, 3) := by decide +kernel
theorem dX5_turns_5 : decode cX5_turns 5 = .ok (.ifCond .ne 5, 3) := by decide +kernel
theorem dX5_turns_8 : decode cX5_turns 8 = .ok (.iconst (-1), 1) := by decide +kernel
theorem dX5_turns_9 : decode cX5_turns 9 = .ok (.ireturn, 1) := by decide +kernel
theorem dX5_turns_10 : decode cX5_turns 10 = .ok (.aload_n 0, 1) := by decide +kernel
theorem dX5_turns_11 : decode cX5_turns 11 = .ok (.iload_n 1, 1) := by decide +kernel
theorem dX5_turns_12 : decode cX5_turns 12 = .ok (.iconst 0, 1) := by decide +kernel
theorem dX5_turns_13 : decode cX5_turns 13 = .ok (.invokevirtual 47, 3) := by decide +kernel
theorem dX5_turns_16 : decode cX5_turns 16 = .ok (.iload_n 2, 1) := by decide +kernel
theorem dX5_turns_17 : decode cX5_turns 17 = .ok (.if_icmp .ne 8, 3) := by decide +kernel
theorem dX5_turns_20 : decode cX5_turns 20 = .ok (.bipush (-5), 2) := by decide +kernel
theorem dX5_turns_22 : decode cX5_turns 22 = .ok (.goto 20, 3) := by decide +kernel
theorem dX5_turns_25 : decode cX5_turns 25 = .ok (.aload_n 0, 1) := by decide +kernel
theorem dX5_turns_26 : decode cX5_turns 26 = .ok (.iload_n 1, 1) := by decide +kernel
theorem dX5_turns_27 : decode cX5_turns 27 = .ok (.iconst 0, 1) := by decide +kernel
theorem dX5_turns_28 : decode cX5_turns 28 = .ok (.iload_n 2, 1) := by decide +kernel
theorem dX5_turns_29 : decode cX5_turns 29 = .ok (.iload_n 2, 1) := by decide +kernel
theorem dX5_turns_30 : decode cX5_turns 30 = .ok (.iconst 1, 1) := by decide +kernel
theorem dX5_turns_31 : decode cX5_turns 31 = .ok (.if_icmp .ne 7, 3) := by decide +kernel
theorem dX5_turns_34 : decode cX5_turns 34 = .ok (.iconst 1, 1) := by decide +kernel
theorem dX5_turns_35 : decode cX5_turns 35 = .ok (.goto 4, 3) := by decide +kernel
theorem dX5_turns_38 : decode cX5_turns 38 = .ok (.iconst 0, 1) := by decide +kernel
theorem dX5_turns_39 : decode cX5_turns 39 = .ok (.invokevirtual 92, 3) := by decide +kernel
theorem dX5_turns_42 : decode cX5_turns 42 = .ok (.ireturn, 1) := by decide +kernel
set_option maxRecDepth 20000 in
theorem ggX5_costs_X5_isLanding : GoodIn wsX5_costs wsX5_isLanding := goodIn_r _ [5, 6, 7, 8, 4, 9, 34, 35, 36, 37, 38, 39, 40, 41, 42, 43, 44, 45, 46, 47] (by decide +kernel) (by decide +kernel)
set_option maxRecDepth 20000 in
theorem gX5_costs_X5_isLanding : GoodIn wsX5_costs (wsV RX5 88 RX5 yX5_isLanding wsX5_isLanding) := goodIn_app (goodIn_of _ (by decide +kernel)) ggX5_costs_X5_isLanding
set_option maxRecDepth 20000 in
theorem ggX5_costs_X5_in : GoodIn wsX5_costs wsX5_in := goodIn_r _ [9] (by decide +kernel) (by decide +kernel)
set_option maxRecDepth 20000 in
theorem gX5_costs_X5_in : GoodIn wsX5_costs (va_wsS RX5 32 yX5_in wsX5_in) := goodIn_app (goodIn_of _ (by decide +kernel)) ggX5_costs_X5_in
set_option maxRecDepth 20000 in
theorem ggX5_costs_X5_its : GoodIn wsX5_costs wsX5_its := goodIn_r _ [13, 6, 34, 35, 36, 37, 38, 39, 40, 41, 42, 43, 44, 45, 46, 47] (by decide +kernel) (by decide +kernel)
set_option maxRecDepth 20000 in
theorem gX5_costs_X5_its : GoodIn wsX5_costs (wsV RX5 47 RX5 yX5_its wsX5_its) := goodIn_app (goodIn_of _ (by decide +kernel)) ggX5_costs_X5_its
set_option maxRecDepth 20000 in
theorem ggX5_costs_X5_change : GoodIn wsX5_costs wsX5_change := goodIn_r _ [17, 6, 18, 19, 20, 4, 21, 10, 11, 12, 13, 22, 23, 24, 25, 26, 27, 28, 29, 30, 31, 32, 33, 34, 35, 36, 37, 38, 39, 40, 41, 42, 43, 44, 45, 46, 47] (by decide +kernel) (by decide +kernel)
set_option maxRecDepth 20000 in
theorem gX5_costs_X5_change : GoodIn wsX5_costs (wsV RX5 92 RX5 yX5_change wsX5_change) := goodIn_app (goodIn_of _ (by decide +kernel)) ggX5_costs_X5_change
theorem dX5_costs_0 : decode cX5_costs 0 = .ok (.aload_n 0, 1) := by decide +kernel
theorem dX5_costs_1 : decode cX5_costs 1 = .ok (.iload_n 1, 1) := by decide +kernel
theorem dX5_costs_2 : decode cX5_costs 2 = .ok (.invokevirtual 88, 3) := by decide +kernel
theorem dX5_costs_5 : decode cX5_costs 5 = .ok (.ifCond .ne 5, 3) := by decide +kernel
theorem dX5_costs_8 : decode cX5_costs 8 = .ok (.iconst (-1), 1) := by decide +kernel
theorem dX5_costs_9 : decode cX5_costs 9 = .ok (.ireturn, 1) := by decide +kernel
theorem dX5_costs_10 : decode cX5_costs 10 = .ok (.iload_n 2, 1) := by decide +kernel
theorem dX5_costs_11 : decode cX5_costs 11 = .ok (.i2l, 1) := by decide +kernel
theorem dX5_costs_12 : decode cX5_costs 12 = .ok (.iconst 0, 1) := by decide +kernel
theorem dX5_costs_13 : decode cX5_costs 13 = .ok (.sipush 999, 3) := by decide +kernel
theorem dX5_costs_16 : decode cX5_costs 16 = .ok (.invokestatic 32, 3) := by decide +kernel
theorem dX5_costs_19 : decode cX5_costs 19 = .ok (.ifCond .ne 6, 3) := by decide +kernel
theorem dX5_costs_22 : decode cX5_costs 22 = .ok (.bipush (-2), 2) := by decide +kernel
theorem dX5_costs_24 : decode cX5_costs 24 = .ok (.ireturn, 1) := by decide +kernel
theorem dX5_costs_25 : decode cX5_costs 25 = .ok (.aload_n 0, 1) := by decide +kernel
theorem dX5_costs_26 : decode cX5_costs 26 = .ok (.iload_n 1, 1) := by decide +kernel
theorem dX5_costs_27 : decode cX5_costs 27 = .ok (.iconst 1, 1) := by decide +kernel
theorem dX5_costs_28 : decode cX5_costs 28 = .ok (.invokevirtual 47, 3) := by decide +kernel
theorem dX5_costs_31 : decode cX5_costs 31 = .ok (.iload_n 2, 1) := by decide +kernel
theorem dX5_costs_32 : decode cX5_costs 32 = .ok (.if_icmp .ne 8, 3) := by decide +kernel
theorem dX5_costs_35 : decode cX5_costs 35 = .ok (.bipush (-5), 2) := by decide +kernel
theorem dX5_costs_37 : decode cX5_costs 37 = .ok (.goto 11, 3) := by decide +kernel
theorem dX5_costs_40 : decode cX5_costs 40 = .ok (.aload_n 0, 1) := by decide +kernel
theorem dX5_costs_41 : decode cX5_costs 41 = .ok (.iload_n 1, 1) := by decide +kernel
theorem dX5_costs_42 : decode cX5_costs 42 = .ok (.iconst 1, 1) := by decide +kernel
theorem dX5_costs_43 : decode cX5_costs 43 = .ok (.iload_n 2, 1) := by decide +kernel
theorem dX5_costs_44 : decode cX5_costs 44 = .ok (.iconst 2, 1) := by decide +kernel
theorem dX5_costs_45 : decode cX5_costs 45 = .ok (.invokevirtual 92, 3) := by decide +kernel
theorem dX5_costs_48 : decode cX5_costs 48 = .ok (.ireturn, 1) := by decide +kernel
set_option maxRecDepth 20000 in
theorem ggX5_waits_X5_in : GoodIn wsX5_waits wsX5_in := goodIn_r _ [6] (by decide +kernel) (by decide +kernel)
set_option maxRecDepth 20000 in
theorem gX5_waits_X5_in : GoodIn wsX5_waits (va_wsS RX5 32 yX5_in wsX5_in) := goodIn_app (goodIn_of _ (by decide +kernel)) ggX5_waits_X5_in
set_option maxRecDepth 20000 in
theorem ggX5_waits_X5_minute : GoodIn wsX5_waits wsX5_minute := goodIn_r _ [10, 1, 11, 12, 13, 14, 15, 16, 17, 5, 18, 19, 20, 21, 22, 23, 24, 25, 26, 27, 28, 29, 30, 31, 32, 33, 34, 35, 36, 37, 38, 39, 40, 41, 42, 43, 44, 45, 46, 47, 48, 49, 50, 51, 52] (by decide +kernel) (by decide +kernel)
set_option maxRecDepth 20000 in
theorem gX5_waits_X5_minute : GoodIn wsX5_waits (wsV RX5 96 RX5 yX5_minute wsX5_minute) := goodIn_app (goodIn_of _ (by decide +kernel)) ggX5_waits_X5_minute
theorem dX5_waits_0 : decode cX5_waits 0 = .ok (.iload_n 1, 1) := by decide +kernel
theorem dX5_waits_1 : decode cX5_waits 1 = .ok (.i2l, 1) := by decide +kernel
theorem dX5_waits_2 : decode cX5_waits 2 = .ok (.iconst 1, 1) := by decide +kernel
theorem dX5_waits_3 : decode cX5_waits 3 = .ok (.sipush 999, 3) := by decide +kernel
theorem dX5_waits_6 : decode cX5_waits 6 = .ok (.invokestatic 32, 3) := by decide +kernel
theorem dX5_waits_9 : decode cX5_waits 9 = .ok (.ifCond .ne 6, 3) := by decide +kernel
theorem dX5_waits_12 : decode cX5_waits 12 = .ok (.bipush (-2), 2) := by decide +kernel
theorem dX5_waits_14 : decode cX5_waits 14 = .ok (.ireturn, 1) := by decide +kernel
theorem dX5_waits_15 : decode cX5_waits 15 = .ok (.aload_n 0, 1) := by decide +kernel
theorem dX5_waits_16 : decode cX5_waits 16 = .ok (.getfield 7, 3) := by decide +kernel
theorem dX5_waits_19 : decode cX5_waits 19 = .ok (.bipush 7, 2) := by decide +kernel
theorem dX5_waits_21 : decode cX5_waits 21 = .ok (.iaload, 1) := by decide +kernel
theorem dX5_waits_22 : decode cX5_waits 22 = .ok (.iload_n 1, 1) := by decide +kernel
theorem dX5_waits_23 : decode cX5_waits 23 = .ok (.iadd, 1) := by decide +kernel
theorem dX5_waits_24 : decode cX5_waits 24 = .ok (.ldc 51, 2) := by decide +kernel
theorem dX5_waits_26 : decode cX5_waits 26 = .ok (.if_icmp .le 6, 3) := by decide +kernel
theorem dX5_waits_29 : decode cX5_waits 29 = .ok (.bipush (-5), 2) := by decide +kernel
theorem dX5_waits_31 : decode cX5_waits 31 = .ok (.ireturn, 1) := by decide +kernel
theorem dX5_waits_32 : decode cX5_waits 32 = .ok (.iconst 0, 1) := by decide +kernel
theorem dX5_waits_33 : decode cX5_waits 33 = .ok (.istore_n 2, 1) := by decide +kernel
theorem dX5_waits_34 : decode cX5_waits 34 = .ok (.iconst 0, 1) := by decide +kernel
theorem dX5_waits_35 : decode cX5_waits 35 = .ok (.istore_n 3, 1) := by decide +kernel
theorem dX5_waits_36 : decode cX5_waits 36 = .ok (.iload_n 3, 1) := by decide +kernel
theorem dX5_waits_37 : decode cX5_waits 37 = .ok (.iload_n 1, 1) := by decide +kernel
theorem dX5_waits_38 : decode cX5_waits 38 = .ok (.if_icmp .ge 16, 3) := by decide +kernel
theorem dX5_waits_41 : decode cX5_waits 41 = .ok (.iload_n 2, 1) := by decide +kernel
theorem dX5_waits_42 : decode cX5_waits 42 = .ok (.aload_n 0, 1) := by decide +kernel
theorem dX5_waits_43 : decode cX5_waits 43 = .ok (.invokevirtual 96, 3) := by decide +kernel
theorem dX5_waits_46 : decode cX5_waits 46 = .ok (.iadd, 1) := by decide +kernel
theorem dX5_waits_47 : decode cX5_waits 47 = .ok (.istore_n 2, 1) := by decide +kernel
theorem dX5_waits_48 : decode cX5_waits 48 = .ok (.iinc 3 1, 3) := by decide +kernel
theorem dX5_waits_51 : decode cX5_waits 51 = .ok (.goto (-15), 3) := by decide +kernel
theorem dX5_waits_54 : decode cX5_waits 54 = .ok (.iload_n 2, 1) := by decide +kernel
theorem dX5_waits_55 : decode cX5_waits 55 = .ok (.ireturn, 1) := by decide +kernel
set_option maxRecDepth 20000 in
theorem ggX5_set_X5_in : GoodIn wsX5_set wsX5_in := goodIn_r _ [6] (by decide +kernel) (by decide +kernel)
set_option maxRecDepth 20000 in
theorem gX5_set_X5_in : GoodIn wsX5_set (va_wsS RX5 32 yX5_in wsX5_in) := goodIn_app (goodIn_of _ (by decide +kernel)) ggX5_set_X5_in
set_option maxRecDepth 20000 in
theorem ggX5_set_X5_remember : GoodIn wsX5_set wsX5_remember := goodIn_r _ [10, 11, 2, 18, 19, 20, 21, 22, 23, 24, 25, 26, 27, 28, 29, 30, 31] (by decide +kernel) (by decide +kernel)
set_option maxRecDepth 20000 in
theorem gX5_set_X5_remember : GoodIn wsX5_set (wsV RX5 40 RX5 yX5_remember wsX5_remember) := goodIn_app (goodIn_of _ (by decide +kernel)) ggX5_set_X5_remember
set_option maxRecDepth 20000 in
theorem ggX5_set_X5_record : GoodIn wsX5_set wsX5_record := goodIn_r _ [15, 16, 17, 11, 18, 19, 20, 21, 22, 23, 24, 25, 26, 27, 28, 29, 30, 31] (by decide +kernel) (by decide +kernel)
set_option maxRecDepth 20000 in
theorem gX5_set_X5_record : GoodIn wsX5_set (wsV RX5 43 RX5 yX5_record wsX5_record) := goodIn_app (goodIn_of _ (by decide +kernel)) ggX5_set_X5_record
theorem dX5_set_0 : decode cX5_set 0 = .ok (.iload_n 1, 1) := by decide +kernel
theorem dX5_set_1 : decode cX5_set 1 = .ok (.i2l, 1) := by decide +kernel
theorem dX5_set_2 : decode cX5_set 2 = .ok (.iconst 0, 1) := by decide +kernel
theorem dX5_set_3 : decode cX5_set 3 = .ok (.bipush 6, 2) := by decide +kernel
theorem dX5_set_5 : decode cX5_set 5 = .ok (.invokestatic 32, 3) := by decide +kernel
theorem dX5_set_8 : decode cX5_set 8 = .ok (.ifCond .ne 6, 3) := by decide +kernel
theorem dX5_set_11 : decode cX5_set 11 = .ok (.bipush (-2), 2) := by decide +kernel
theorem dX5_set_13 : decode cX5_set 13 = .ok (.ireturn, 1) := by decide +kernel
theorem dX5_set_14 : decode cX5_set 14 = .ok (.iload_n 1, 1) := by decide +kernel
theorem dX5_set_15 : decode cX5_set 15 = .ok (.iconst 3, 1) := by decide +kernel
theorem dX5_set_16 : decode cX5_set 16 = .ok (.if_icmp .ge 7, 3) := by decide +kernel
theorem dX5_set_19 : decode cX5_set 19 = .ok (.iconst 0, 1) := by decide +kernel
theorem dX5_set_20 : decode cX5_set 20 = .ok (.goto 4, 3) := by decide +kernel
theorem dX5_set_23 : decode cX5_set 23 = .ok (.iconst 1, 1) := by decide +kernel
theorem dX5_set_24 : decode cX5_set 24 = .ok (.istore_n 3, 1) := by decide +kernel
theorem dX5_set_25 : decode cX5_set 25 = .ok (.iload_n 1, 1) := by decide +kernel
theorem dX5_set_26 : decode cX5_set 26 = .ok (.iconst 3, 1) := by decide +kernel
theorem dX5_set_27 : decode cX5_set 27 = .ok (.if_icmp .ge 9, 3) := by decide +kernel
theorem dX5_set_30 : decode cX5_set 30 = .ok (.sipush 9999, 3) := by decide +kernel
theorem dX5_set_33 : decode cX5_set 33 = .ok (.goto 27, 3) := by decide +kernel
theorem dX5_set_36 : decode cX5_set 36 = .ok (.iload_n 1, 1) := by decide +kernel
theorem dX5_set_37 : decode cX5_set 37 = .ok (.iconst 3, 1) := by decide +kernel
theorem dX5_set_38 : decode cX5_set 38 = .ok (.if_icmp .ne 8, 3) := by decide +kernel
theorem dX5_set_41 : decode cX5_set 41 = .ok (.bipush 99, 2) := by decide +kernel
theorem dX5_set_43 : decode cX5_set 43 = .ok (.goto 17, 3) := by decide +kernel
theorem dX5_set_46 : decode cX5_set 46 = .ok (.iload_n 1, 1) := by decide +kernel
theorem dX5_set_47 : decode cX5_set 47 = .ok (.bipush 6, 2) := by decide +kernel
theorem dX5_set_49 : decode cX5_set 49 = .ok (.if_icmp .ne 9, 3) := by decide +kernel
theorem dX5_set_52 : decode cX5_set 52 = .ok (.sipush 999, 3) := by decide +kernel
theorem dX5_set_55 : decode cX5_set 55 = .ok (.goto 5, 3) := by decide +kernel
theorem dX5_set_58 : decode cX5_set 58 = .ok (.ldc 51, 2) := by decide +kernel
theorem dX5_set_60 : decode cX5_set 60 = .ok (.istore 4, 2) := by decide +kernel
theorem dX5_set_62 : decode cX5_set 62 = .ok (.iload_n 2, 1) := by decide +kernel
theorem dX5_set_63 : decode cX5_set 63 = .ok (.i2l, 1) := by decide +kernel
theorem dX5_set_64 : decode cX5_set 64 = .ok (.iload_n 3, 1) := by decide +kernel
theorem dX5_set_65 : decode cX5_set 65 = .ok (.iload 4, 2) := by decide +kernel
theorem dX5_set_67 : decode cX5_set 67 = .ok (.invokestatic 32, 3) := by decide +kernel
theorem dX5_set_70 : decode cX5_set 70 = .ok (.ifCond .ne 6, 3) := by decide +kernel
theorem dX5_set_73 : decode cX5_set 73 = .ok (.bipush (-2), 2) := by decide +kernel
theorem dX5_set_75 : decode cX5_set 75 = .ok (.ireturn, 1) := by decide +kernel
theorem dX5_set_76 : decode cX5_set 76 = .ok (.aload_n 0, 1) := by decide +kernel
theorem dX5_set_77 : decode cX5_set 77 = .ok (.invokevirtual 40, 3) := by decide +kernel
theorem dX5_set_80 : decode cX5_set 80 = .ok (.aload_n 0, 1) := by decide +kernel
theorem dX5_set_81 : decode cX5_set 81 = .ok (.getfield 7, 3) := by decide +kernel
theorem dX5_set_84 : decode cX5_set 84 = .ok (.iload_n 1, 1) := by decide +kernel
theorem dX5_set_85 : decode cX5_set 85 = .ok (.iaload, 1) := by decide +kernel
theorem dX5_set_86 : decode cX5_set 86 = .ok (.istore 5, 2) := by decide +kernel
theorem dX5_set_88 : decode cX5_set 88 = .ok (.aload_n 0, 1) := by decide +kernel
theorem dX5_set_89 : decode cX5_set 89 = .ok (.getfield 7, 3) := by decide +kernel
theorem dX5_set_92 : decode cX5_set 92 = .ok (.iload_n 1, 1) := by decide +kernel
theorem dX5_set_93 : decode cX5_set 93 = .ok (.iload_n 2, 1) := by decide +kernel
theorem dX5_set_94 : decode cX5_set 94 = .ok (.iastore, 1) := by decide +kernel
theorem dX5_set_95 : decode cX5_set 95 = .ok (.aload_n 0, 1) := by decide +kernel
theorem dX5_set_96 : decode cX5_set 96 = .ok (.iload 5, 2) := by decide +kernel
theorem dX5_set_98 : decode cX5_set 98 = .ok (.invokevirtual 43, 3) := by decide +kernel
theorem dX5_set_101 : decode cX5_set 101 = .ok (.ireturn, 1) := by decide +kernel
set_option maxRecDepth 20000 in
theorem ggX5_landing_X5_remember : GoodIn wsX5_landing wsX5_remember := goodIn_r _ [5, 6, 7, 33, 34, 35, 36, 37, 38, 39, 40, 41, 42, 43, 44, 45, 46] (by decide +kernel) (by decide +kernel)
set_option maxRecDepth 20000 in
theorem gX5_landing_X5_remember : GoodIn wsX5_landing (wsV RX5 40 RX5 yX5_remember wsX5_remember) := goodIn_app (goodIn_of _ (by decide +kernel)) ggX5_landing_X5_remember
set_option maxRecDepth 20000 in
theorem ggX5_landing_X5_comes : GoodIn wsX5_landing wsX5_comes := goodIn_r _ [11, 7, 12, 13, 4, 14, 15, 16, 17, 18, 19, 20, 21, 22, 23, 24, 25, 26, 33, 34, 35, 36, 37, 38, 39, 40, 41, 42, 43, 44, 45, 46] (by decide +kernel) (by decide +kernel)
set_option maxRecDepth 20000 in
theorem gX5_landing_X5_comes : GoodIn wsX5_landing (wsV RX5 99 RX5 yX5_comes wsX5_comes) := goodIn_app (goodIn_of _ (by decide +kernel)) ggX5_landing_X5_comes
set_option maxRecDepth 20000 in
theorem ggX5_landing_X5_record : GoodIn wsX5_landing wsX5_record := goodIn_r _ [30, 31, 32, 6, 33, 34, 35, 36, 37, 38, 39, 40, 41, 42, 43, 44, 45, 46] (by decide +kernel) (by decide +kernel)
set_option maxRecDepth 20000 in
theorem gX5_landing_X5_record : GoodIn wsX5_landing (wsV RX5 43 RX5 yX5_record wsX5_record) := goodIn_app (goodIn_of _ (by decide +kernel)) ggX5_landing_X5_record
theorem dX5_landing_0 : decode cX5_landing 0 = .ok (.aload_n 0, 1) := by decide +kernel
theorem dX5_landing_1 : decode cX5_landing 1 = .ok (.invokevirtual 40, 3) := by decide +kernel
theorem dX5_landing_4 : decode cX5_landing 4 = .ok (.aload_n 0, 1) := by decide +kernel
theorem dX5_landing_5 : decode cX5_landing 5 = .ok (.aload_n 0, 1) := by decide +kernel
theorem dX5_landing_6 : decode cX5_landing 6 = .ok (.iload_n 1, 1) := by decide +kernel
theorem dX5_landing_7 : decode cX5_landing 7 = .ok (.invokevirtual 99, 3) := by decide +kernel
theorem dX5_landing_10 : decode cX5_landing 10 = .ok (.invokevirtual 43, 3) := by decide +kernel
theorem dX5_landing_13 : decode cX5_landing 13 = .ok (.ireturn, 1) := by decide +kernel
set_option maxRecDepth 20000 in
theorem ggX5_open_X5_remember : GoodIn wsX5_open wsX5_remember := goodIn_r _ [5, 6, 7, 49, 50, 51, 52, 53, 54, 55, 56, 57, 58, 59, 60, 61, 62] (by decide +kernel) (by decide +kernel)
set_option maxRecDepth 20000 in
theorem gX5_open_X5_remember : GoodIn wsX5_open (wsV RX5 40 RX5 yX5_remember wsX5_remember) := goodIn_app (goodIn_of _ (by decide +kernel)) ggX5_open_X5_remember
set_option maxRecDepth 20000 in
theorem ggX5_open_X5_turns : GoodIn wsX5_open wsX5_turns := goodIn_r _ [11, 12, 13, 14, 4, 15, 7, 16, 17, 18, 19, 20, 21, 22, 23, 24, 25, 26, 27, 28, 29, 30, 31, 32, 33, 34, 35, 36, 37, 38, 39, 40, 41, 42, 49, 50, 51, 52, 53, 54, 55, 56, 57, 58, 59, 60, 61, 62] (by decide +kernel) (by decide +kernel)
set_option maxRecDepth 20000 in
theorem gX5_open_X5_turns : GoodIn wsX5_open (wsV RX5 102 RX5 yX5_turns wsX5_turns) := goodIn_app (goodIn_of _ (by decide +kernel)) ggX5_open_X5_turns
set_option maxRecDepth 20000 in
theorem ggX5_open_X5_record : GoodIn wsX5_open wsX5_record := goodIn_r _ [46, 47, 48, 6, 49, 50, 51, 52, 53, 54, 55, 56, 57, 58, 59, 60, 61, 62] (by decide +kernel) (by decide +kernel)
set_option maxRecDepth 20000 in
theorem gX5_open_X5_record : GoodIn wsX5_open (wsV RX5 43 RX5 yX5_record wsX5_record) := goodIn_app (goodIn_of _ (by decide +kernel)) ggX5_open_X5_record
theorem dX5_open_0 : decode cX5_open 0 = .ok (.aload_n 0, 1) := by decide +kernel
theorem dX5_open_1 : decode cX5_open 1 = .ok (.invokevirtual 40, 3) := by decide +kernel
theorem dX5_open_4 : decode cX5_open 4 = .ok (.aload_n 0, 1) := by decide +kernel
theorem dX5_open_5 : decode cX5_open 5 = .ok (.aload_n 0, 1) := by decide +kernel
theorem dX5_open_6 : decode cX5_open 6 = .ok (.iload_n 1, 1) := by decide +kernel
theorem dX5_open_7 : decode cX5_open 7 = .ok (.iconst 1, 1) := by decide +kernel
theorem dX5_open_8 : decode cX5_open 8 = .ok (.invokevirtual 102, 3) := by decide +kernel
theorem dX5_open_11 : decode cX5_open 11 = .ok (.invokevirtual 43, 3) := by decide +kernel
theorem dX5_open_14 : decode cX5_open 14 = .ok (.ireturn, 1) := by decide +kernel
set_option maxRecDepth 20000 in
theorem ggX5_close_X5_remember : GoodIn wsX5_close wsX5_remember := goodIn_r _ [5, 6, 7, 49, 50, 51, 52, 53, 54, 55, 56, 57, 58, 59, 60, 61, 62] (by decide +kernel) (by decide +kernel)
set_option maxRecDepth 20000 in
theorem gX5_close_X5_remember : GoodIn wsX5_close (wsV RX5 40 RX5 yX5_remember wsX5_remember) := goodIn_app (goodIn_of _ (by decide +kernel)) ggX5_close_X5_remember
set_option maxRecDepth 20000 in
theorem ggX5_close_X5_turns : GoodIn wsX5_close wsX5_turns := goodIn_r _ [11, 12, 13, 14, 4, 15, 7, 16, 17, 18, 19, 20, 21, 22, 23, 24, 25, 26, 27, 28, 29, 30, 31, 32, 33, 34, 35, 36, 37, 38, 39, 40, 41, 42, 49, 50, 51, 52, 53, 54, 55, 56, 57, 58, 59, 60, 61, 62] (by decide +kernel) (by decide +kernel)
set_option maxRecDepth 20000 in
theorem gX5_close_X5_turns : GoodIn wsX5_close (wsV RX5 102 RX5 yX5_turns wsX5_turns) := goodIn_app (goodIn_of _ (by decide +kernel)) ggX5_close_X5_turns
set_option maxRecDepth 20000 in
theorem ggX5_close_X5_record : GoodIn wsX5_close wsX5_record := goodIn_r _ [46, 47, 48, 6, 49, 50, 51, 52, 53, 54, 55, 56, 57, 58, 59, 60, 61, 62] (by decide +kernel) (by decide +kernel)
set_option maxRecDepth 20000 in
theorem gX5_close_X5_record : GoodIn wsX5_close (wsV RX5 43 RX5 yX5_record wsX5_record) := goodIn_app (goodIn_of _ (by decide +kernel)) ggX5_close_X5_record
theorem dX5_close_0 : decode cX5_close 0 = .ok (.aload_n 0, 1) := by decide +kernel
theorem dX5_close_1 : decode cX5_close 1 = .ok (.invokevirtual 40, 3) := by decide +kernel
theorem dX5_close_4 : decode cX5_close 4 = .ok (.aload_n 0, 1) := by decide +kernel
theorem dX5_close_5 : decode cX5_close 5 = .ok (.aload_n 0, 1) := by decide +kernel
theorem dX5_close_6 : decode cX5_close 6 = .ok (.iload_n 1, 1) := by decide +kernel
theorem dX5_close_7 : decode cX5_close 7 = .ok (.iconst 0, 1) := by decide +kernel
theorem dX5_close_8 : decode cX5_close 8 = .ok (.invokevirtual 102, 3) := by decide +kernel
theorem dX5_close_11 : decode cX5_close 11 = .ok (.invokevirtual 43, 3) := by decide +kernel
theorem dX5_close_14 : decode cX5_close 14 = .ok (.ireturn, 1) := by decide +kernel
set_option maxRecDepth 20000 in
theorem ggX5_price_X5_remember : GoodIn wsX5_price wsX5_remember := goodIn_r _ [5, 6, 7, 49, 50, 51, 52, 53, 54, 55, 56, 57, 58, 59, 60, 61, 62] (by decide +kernel) (by decide +kernel)
set_option maxRecDepth 20000 in
theorem gX5_price_X5_remember : GoodIn wsX5_price (wsV RX5 40 RX5 yX5_remember wsX5_remember) := goodIn_app (goodIn_of _ (by decide +kernel)) ggX5_price_X5_remember
set_option maxRecDepth 20000 in
theorem ggX5_price_X5_costs : GoodIn wsX5_price wsX5_costs := goodIn_r _ [11, 12, 13, 14, 4, 15, 7, 16, 17, 18, 19, 20, 21, 22, 23, 24, 25, 26, 27, 28, 29, 30, 31, 32, 33, 34, 35, 36, 37, 38, 39, 40, 41, 42, 49, 50, 51, 52, 53, 54, 55, 56, 57, 58, 59, 60, 61, 62] (by decide +kernel) (by decide +kernel)
set_option maxRecDepth 20000 in
theorem gX5_price_X5_costs : GoodIn wsX5_price (wsV RX5 105 RX5 yX5_costs wsX5_costs) := goodIn_app (goodIn_of _ (by decide +kernel)) ggX5_price_X5_costs
set_option maxRecDepth 20000 in
theorem ggX5_price_X5_record : GoodIn wsX5_price wsX5_record := goodIn_r _ [46, 47, 48, 6, 49, 50, 51, 52, 53, 54, 55, 56, 57, 58, 59, 60, 61, 62] (by decide +kernel) (by decide +kernel)
set_option maxRecDepth 20000 in
theorem gX5_price_X5_record : GoodIn wsX5_price (wsV RX5 43 RX5 yX5_record wsX5_record) := goodIn_app (goodIn_of _ (by decide +kernel)) ggX5_price_X5_record
theorem dX5_price_0 : decode cX5_price 0 = .ok (.aload_n 0, 1) := by decide +kernel
theorem dX5_price_1 : decode cX5_price 1 = .ok (.invokevirtual 40, 3) := by decide +kernel
theorem dX5_price_4 : decode cX5_price 4 = .ok (.aload_n 0, 1) := by decide +kernel
theorem dX5_price_5 : decode cX5_price 5 = .ok (.aload_n 0, 1) := by decide +kernel
theorem dX5_price_6 : decode cX5_price 6 = .ok (.iload_n 1, 1) := by decide +kernel
theorem dX5_price_7 : decode cX5_price 7 = .ok (.iload_n 2, 1) := by decide +kernel
theorem dX5_price_8 : decode cX5_price 8 = .ok (.invokevirtual 105, 3) := by decide +kernel
theorem dX5_price_11 : decode cX5_price 11 = .ok (.invokevirtual 43, 3) := by decide +kernel
theorem dX5_price_14 : decode cX5_price 14 = .ok (.ireturn, 1) := by decide +kernel
set_option maxRecDepth 20000 in
theorem ggX5_pass_X5_remember : GoodIn wsX5_pass wsX5_remember := goodIn_r _ [5, 6, 7, 54, 55, 56, 57, 58, 59, 60, 61, 62, 63, 64, 65, 66, 67] (by decide +kernel) (by decide +kernel)
set_option maxRecDepth 20000 in
theorem gX5_pass_X5_remember : GoodIn wsX5_pass (wsV RX5 40 RX5 yX5_remember wsX5_remember) := goodIn_app (goodIn_of _ (by decide +kernel)) ggX5_pass_X5_remember
set_option maxRecDepth 20000 in
theorem ggX5_pass_X5_waits : GoodIn wsX5_pass wsX5_waits := goodIn_r _ [11, 7, 12, 13, 14, 4, 15, 16, 17, 18, 19, 20, 21, 22, 23, 24, 25, 26, 27, 28, 29, 30, 31, 32, 33, 34, 35, 36, 37, 38, 39, 40, 41, 42, 43, 44, 45, 46, 47, 54, 55, 56, 57, 58, 59, 60, 61, 62, 63, 64, 65, 66, 67] (by decide +kernel) (by decide +kernel)
set_option maxRecDepth 20000 in
theorem gX5_pass_X5_waits : GoodIn wsX5_pass (wsV RX5 108 RX5 yX5_waits wsX5_waits) := goodIn_app (goodIn_of _ (by decide +kernel)) ggX5_pass_X5_waits
set_option maxRecDepth 20000 in
theorem ggX5_pass_X5_record : GoodIn wsX5_pass wsX5_record := goodIn_r _ [51, 52, 53, 6, 54, 55, 56, 57, 58, 59, 60, 61, 62, 63, 64, 65, 66, 67] (by decide +kernel) (by decide +kernel)
set_option maxRecDepth 20000 in
theorem gX5_pass_X5_record : GoodIn wsX5_pass (wsV RX5 43 RX5 yX5_record wsX5_record) := goodIn_app (goodIn_of _ (by decide +kernel)) ggX5_pass_X5_record
theorem dX5_pass_0 : decode cX5_pass 0 = .ok (.aload_n 0, 1) := by decide +kernel
theorem dX5_pass_1 : decode cX5_pass 1 = .ok (.invokevirtual 40, 3) := by decide +kernel
theorem dX5_pass_4 : decode cX5_pass 4 = .ok (.aload_n 0, 1) := by decide +kernel
theorem dX5_pass_5 : decode cX5_pass 5 = .ok (.aload_n 0, 1) := by decide +kernel
theorem dX5_pass_6 : decode cX5_pass 6 = .ok (.iload_n 1, 1) := by decide +kernel
theorem dX5_pass_7 : decode cX5_pass 7 = .ok (.invokevirtual 108, 3) := by decide +kernel
theorem dX5_pass_10 : decode cX5_pass 10 = .ok (.invokevirtual 43, 3) := by decide +kernel
theorem dX5_pass_13 : decode cX5_pass 13 = .ok (.ireturn, 1) := by decide +kernel
set_option maxRecDepth 20000 in
theorem ggX5_of_X5_isLanding : GoodIn wsX5_of wsX5_isLanding := goodIn_r _ [5, 6, 7, 8, 4, 9, 14, 15, 16, 17, 18, 19, 20, 21, 22, 23, 24, 25, 26, 27] (by decide +kernel) (by decide +kernel)
set_option maxRecDepth 20000 in
theorem gX5_of_X5_isLanding : GoodIn wsX5_of (wsV RX5 88 RX5 yX5_isLanding wsX5_isLanding) := goodIn_app (goodIn_of _ (by decide +kernel)) ggX5_of_X5_isLanding
set_option maxRecDepth 20000 in
theorem ggX5_of_X5_in : GoodIn wsX5_of wsX5_in := goodIn_r _ [9] (by decide +kernel) (by decide +kernel)
set_option maxRecDepth 20000 in
theorem gX5_of_X5_in : GoodIn wsX5_of (va_wsS RX5 32 yX5_in wsX5_in) := goodIn_app (goodIn_of _ (by decide +kernel)) ggX5_of_X5_in
set_option maxRecDepth 20000 in
theorem ggX5_of_X5_its : GoodIn wsX5_of wsX5_its := goodIn_r _ [13, 6, 14, 15, 16, 17, 18, 19, 20, 21, 22, 23, 24, 25, 26, 27] (by decide +kernel) (by decide +kernel)
set_option maxRecDepth 20000 in
theorem gX5_of_X5_its : GoodIn wsX5_of (wsV RX5 47 RX5 yX5_its wsX5_its) := goodIn_app (goodIn_of _ (by decide +kernel)) ggX5_of_X5_its
theorem dX5_of_0 : decode cX5_of 0 = .ok (.aload_n 0, 1) := by decide +kernel
theorem dX5_of_1 : decode cX5_of 1 = .ok (.iload_n 1, 1) := by decide +kernel
theorem dX5_of_2 : decode cX5_of 2 = .ok (.invokevirtual 88, 3) := by decide +kernel
theorem dX5_of_5 : decode cX5_of 5 = .ok (.ifCond .ne 7, 3) := by decide +kernel
theorem dX5_of_8 : decode cX5_of 8 = .ok (.iconst (-1), 1) := by decide +kernel
theorem dX5_of_9 : decode cX5_of 9 = .ok (.goto 25, 3) := by decide +kernel
theorem dX5_of_12 : decode cX5_of 12 = .ok (.iload_n 2, 1) := by decide +kernel
theorem dX5_of_13 : decode cX5_of 13 = .ok (.i2l, 1) := by decide +kernel
theorem dX5_of_14 : decode cX5_of 14 = .ok (.iconst 0, 1) := by decide +kernel
theorem dX5_of_15 : decode cX5_of 15 = .ok (.bipush 7, 2) := by decide +kernel
theorem dX5_of_17 : decode cX5_of 17 = .ok (.invokestatic 32, 3) := by decide +kernel
theorem dX5_of_20 : decode cX5_of 20 = .ok (.ifCond .eq 12, 3) := by decide +kernel
theorem dX5_of_23 : decode cX5_of 23 = .ok (.aload_n 0, 1) := by decide +kernel
theorem dX5_of_24 : decode cX5_of 24 = .ok (.iload_n 1, 1) := by decide +kernel
theorem dX5_of_25 : decode cX5_of 25 = .ok (.iload_n 2, 1) := by decide +kernel
theorem dX5_of_26 : decode cX5_of 26 = .ok (.invokevirtual 47, 3) := by decide +kernel
theorem dX5_of_29 : decode cX5_of 29 = .ok (.goto 5, 3) := by decide +kernel
theorem dX5_of_32 : decode cX5_of 32 = .ok (.bipush (-2), 2) := by decide +kernel
theorem dX5_of_34 : decode cX5_of 34 = .ok (.ireturn, 1) := by decide +kernel
set_option maxRecDepth 20000 in
theorem ggX5_mask_X5_its : GoodIn wsX5_mask wsX5_its := goodIn_r _ [6, 1, 7, 8, 9, 10, 11, 12, 13, 14, 15, 16, 17, 18, 19, 20] (by decide +kernel) (by decide +kernel)
set_option maxRecDepth 20000 in
theorem gX5_mask_X5_its : GoodIn wsX5_mask (wsV RX5 47 RX5 yX5_its wsX5_its) := goodIn_app (goodIn_of _ (by decide +kernel)) ggX5_mask_X5_its
theorem dX5_mask_0 : decode cX5_mask 0 = .ok (.iconst 0, 1) := by decide +kernel
theorem dX5_mask_1 : decode cX5_mask 1 = .ok (.istore_n 2, 1) := by decide +kernel
theorem dX5_mask_2 : decode cX5_mask 2 = .ok (.iconst 0, 1) := by decide +kernel
theorem dX5_mask_3 : decode cX5_mask 3 = .ok (.istore_n 3, 1) := by decide +kernel
theorem dX5_mask_4 : decode cX5_mask 4 = .ok (.iload_n 3, 1) := by decide +kernel
theorem dX5_mask_5 : decode cX5_mask 5 = .ok (.aload_n 0, 1) := by decide +kernel
theorem dX5_mask_6 : decode cX5_mask 6 = .ok (.getfield 7, 3) := by decide +kernel
theorem dX5_mask_9 : decode cX5_mask 9 = .ok (.bipush 8, 2) := by decide +kernel
theorem dX5_mask_11 : decode cX5_mask 11 = .ok (.iaload, 1) := by decide +kernel
theorem dX5_mask_12 : decode cX5_mask 12 = .ok (.if_icmp .ge 20, 3) := by decide +kernel
theorem dX5_mask_15 : decode cX5_mask 15 = .ok (.iload_n 2, 1) := by decide +kernel
theorem dX5_mask_16 : decode cX5_mask 16 = .ok (.aload_n 0, 1) := by decide +kernel
theorem dX5_mask_17 : decode cX5_mask 17 = .ok (.iload_n 3, 1) := by decide +kernel
theorem dX5_mask_18 : decode cX5_mask 18 = .ok (.iload_n 1, 1) := by decide +kernel
theorem dX5_mask_19 : decode cX5_mask 19 = .ok (.invokevirtual 47, 3) := by decide +kernel
theorem dX5_mask_22 : decode cX5_mask 22 = .ok (.iload_n 3, 1) := by decide +kernel
theorem dX5_mask_23 : decode cX5_mask 23 = .ok (.ishl, 1) := by decide +kernel
theorem dX5_mask_24 : decode cX5_mask 24 = .ok (.ior, 1) := by decide +kernel
theorem dX5_mask_25 : decode cX5_mask 25 = .ok (.istore_n 2, 1) := by decide +kernel
theorem dX5_mask_26 : decode cX5_mask 26 = .ok (.iinc 3 1, 3) := by decide +kernel
theorem dX5_mask_29 : decode cX5_mask 29 = .ok (.goto (-25), 3) := by decide +kernel
theorem dX5_mask_32 : decode cX5_mask 32 = .ok (.iload_n 2, 1) := by decide +kernel
theorem dX5_mask_33 : decode cX5_mask 33 = .ok (.ireturn, 1) := by decide +kernel
set_option maxRecDepth 20000 in
theorem ggX5_count_X5_in : GoodIn wsX5_count wsX5_in := goodIn_r _ [7] (by decide +kernel) (by decide +kernel)
set_option maxRecDepth 20000 in
theorem gX5_count_X5_in : GoodIn wsX5_count (va_wsS RX5 32 yX5_in wsX5_in) := goodIn_app (goodIn_of _ (by decide +kernel)) ggX5_count_X5_in
set_option maxRecDepth 20000 in
theorem ggX5_count_X5_mask : GoodIn wsX5_count wsX5_mask := goodIn_r _ [11, 1, 12, 13, 14, 6, 15, 20, 21, 22, 23, 24, 25, 26, 27, 28, 29, 30, 31, 32, 33] (by decide +kernel) (by decide +kernel)
set_option maxRecDepth 20000 in
theorem gX5_count_X5_mask : GoodIn wsX5_count (wsV RX5 111 RX5 yX5_mask wsX5_mask) := goodIn_app (goodIn_of _ (by decide +kernel)) ggX5_count_X5_mask
set_option maxRecDepth 20000 in
theorem ggX5_count_X5_taken : GoodIn wsX5_count wsX5_taken := goodIn_r _ [19, 1, 12, 13, 14, 6, 15, 20, 21, 22, 23, 24, 25, 26, 27, 28, 29, 30, 31, 32, 33] (by decide +kernel) (by decide +kernel)
set_option maxRecDepth 20000 in
theorem gX5_count_X5_taken : GoodIn wsX5_count (wsV RX5 52 RX5 yX5_taken wsX5_taken) := goodIn_app (goodIn_of _ (by decide +kernel)) ggX5_count_X5_taken
theorem dX5_count_0 : decode cX5_count 0 = .ok (.iload_n 1, 1) := by decide +kernel
theorem dX5_count_1 : decode cX5_count 1 = .ok (.i2l, 1) := by decide +kernel
theorem dX5_count_2 : decode cX5_count 2 = .ok (.bipush 7, 2) := by decide +kernel
theorem dX5_count_4 : decode cX5_count 4 = .ok (.bipush 13, 2) := by decide +kernel
theorem dX5_count_6 : decode cX5_count 6 = .ok (.invokestatic 32, 3) := by decide +kernel
theorem dX5_count_9 : decode cX5_count 9 = .ok (.ifCond .eq 13, 3) := by decide +kernel
theorem dX5_count_12 : decode cX5_count 12 = .ok (.aload_n 0, 1) := by decide +kernel
theorem dX5_count_13 : decode cX5_count 13 = .ok (.getfield 7, 3) := by decide +kernel
theorem dX5_count_16 : decode cX5_count 16 = .ok (.iload_n 1, 1) := by decide +kernel
theorem dX5_count_17 : decode cX5_count 17 = .ok (.bipush 7, 2) := by decide +kernel
theorem dX5_count_19 : decode cX5_count 19 = .ok (.isub, 1) := by decide +kernel
theorem dX5_count_20 : decode cX5_count 20 = .ok (.iaload, 1) := by decide +kernel
theorem dX5_count_21 : decode cX5_count 21 = .ok (.ireturn, 1) := by decide +kernel
theorem dX5_count_22 : decode cX5_count 22 = .ok (.iload_n 1, 1) := by decide +kernel
theorem dX5_count_23 : decode cX5_count 23 = .ok (.tableswitch 136 0 15 #[77, 85, 93, 99, 105, 110, 118, 136, 136, 136, 136, 136, 136, 136, 126, 131], 77) := by decide +kernel
theorem dX5_count_100 : decode cX5_count 100 = .ok (.aload_n 0, 1) := by decide +kernel
theorem dX5_count_101 : decode cX5_count 101 = .ok (.getfield 7, 3) := by decide +kernel
theorem dX5_count_104 : decode cX5_count 104 = .ok (.bipush 7, 2) := by decide +kernel
theorem dX5_count_106 : decode cX5_count 106 = .ok (.iaload, 1) := by decide +kernel
theorem dX5_count_107 : decode cX5_count 107 = .ok (.ireturn, 1) := by decide +kernel
theorem dX5_count_108 : decode cX5_count 108 = .ok (.aload_n 0, 1) := by decide +kernel
theorem dX5_count_109 : decode cX5_count 109 = .ok (.getfield 7, 3) := by decide +kernel
theorem dX5_count_112 : decode cX5_count 112 = .ok (.bipush 8, 2) := by decide +kernel
theorem dX5_count_114 : decode cX5_count 114 = .ok (.iaload, 1) := by decide +kernel
theorem dX5_count_115 : decode cX5_count 115 = .ok (.ireturn, 1) := by decide +kernel
theorem dX5_count_116 : decode cX5_count 116 = .ok (.aload_n 0, 1) := by decide +kernel
theorem dX5_count_117 : decode cX5_count 117 = .ok (.iconst 0, 1) := by decide +kernel
theorem dX5_count_118 : decode cX5_count 118 = .ok (.invokevirtual 111, 3) := by decide +kernel
theorem dX5_count_121 : decode cX5_count 121 = .ok (.ireturn, 1) := by decide +kernel
theorem dX5_count_122 : decode cX5_count 122 = .ok (.aload_n 0, 1) := by decide +kernel
theorem dX5_count_123 : decode cX5_count 123 = .ok (.iconst 3, 1) := by decide +kernel
theorem dX5_count_124 : decode cX5_count 124 = .ok (.invokevirtual 111, 3) := by decide +kernel
theorem dX5_count_127 : decode cX5_count 127 = .ok (.ireturn, 1) := by decide +kernel
theorem dX5_count_128 : decode cX5_count 128 = .ok (.aload_n 0, 1) := by decide +kernel
theorem dX5_count_129 : decode cX5_count 129 = .ok (.invokevirtual 52, 3) := by decide +kernel
theorem dX5_count_132 : decode cX5_count 132 = .ok (.ireturn, 1) := by decide +kernel
theorem dX5_count_133 : decode cX5_count 133 = .ok (.aload_n 0, 1) := by decide +kernel
theorem dX5_count_134 : decode cX5_count 134 = .ok (.getfield 7, 3) := by decide +kernel
theorem dX5_count_137 : decode cX5_count 137 = .ok (.bipush 9, 2) := by decide +kernel
theorem dX5_count_139 : decode cX5_count 139 = .ok (.iaload, 1) := by decide +kernel
theorem dX5_count_140 : decode cX5_count 140 = .ok (.ireturn, 1) := by decide +kernel
theorem dX5_count_141 : decode cX5_count 141 = .ok (.aload_n 0, 1) := by decide +kernel
theorem dX5_count_142 : decode cX5_count 142 = .ok (.getfield 7, 3) := by decide +kernel
theorem dX5_count_145 : decode cX5_count 145 = .ok (.bipush 10, 2) := by decide +kernel
theorem dX5_count_147 : decode cX5_count 147 = .ok (.iaload, 1) := by decide +kernel
theorem dX5_count_148 : decode cX5_count 148 = .ok (.ireturn, 1) := by decide +kernel
theorem dX5_count_149 : decode cX5_count 149 = .ok (.aload_n 0, 1) := by decide +kernel
theorem dX5_count_150 : decode cX5_count 150 = .ok (.getfield 114, 3) := by decide +kernel
theorem dX5_count_153 : decode cX5_count 153 = .ok (.ireturn, 1) := by decide +kernel
theorem dX5_count_154 : decode cX5_count 154 = .ok (.aload_n 0, 1) := by decide +kernel
theorem dX5_count_155 : decode cX5_count 155 = .ok (.getfield 36, 3) := by decide +kernel
theorem dX5_count_158 : decode cX5_count 158 = .ok (.ireturn, 1) := by decide +kernel
theorem dX5_count_159 : decode cX5_count 159 = .ok (.bipush (-2), 2) := by decide +kernel
theorem dX5_count_161 : decode cX5_count 161 = .ok (.ireturn, 1) := by decide +kernel
set_option maxRecDepth 20000 in
theorem ggX5_rank_X5_its : GoodIn wsX5_rank wsX5_its := goodIn_r _ [6, 1, 7, 8, 9, 10, 11, 12, 13, 14, 15, 16, 17, 18, 19, 20] (by decide +kernel) (by decide +kernel)
set_option maxRecDepth 20000 in
theorem gX5_rank_X5_its : GoodIn wsX5_rank (wsV RX5 47 RX5 yX5_its wsX5_its) := goodIn_app (goodIn_of _ (by decide +kernel)) ggX5_rank_X5_its
theorem dX5_rank_0 : decode cX5_rank 0 = .ok (.iconst 0, 1) := by decide +kernel
theorem dX5_rank_1 : decode cX5_rank 1 = .ok (.istore_n 2, 1) := by decide +kernel
theorem dX5_rank_2 : decode cX5_rank 2 = .ok (.iconst 0, 1) := by decide +kernel
theorem dX5_rank_3 : decode cX5_rank 3 = .ok (.istore_n 3, 1) := by decide +kernel
theorem dX5_rank_4 : decode cX5_rank 4 = .ok (.iload_n 3, 1) := by decide +kernel
theorem dX5_rank_5 : decode cX5_rank 5 = .ok (.aload_n 0, 1) := by decide +kernel
theorem dX5_rank_6 : decode cX5_rank 6 = .ok (.getfield 7, 3) := by decide +kernel
theorem dX5_rank_9 : decode cX5_rank 9 = .ok (.bipush 8, 2) := by decide +kernel
theorem dX5_rank_11 : decode cX5_rank 11 = .ok (.iaload, 1) := by decide +kernel
theorem dX5_rank_12 : decode cX5_rank 12 = .ok (.if_icmp .ge 83, 3) := by decide +kernel
theorem dX5_rank_15 : decode cX5_rank 15 = .ok (.aload_n 0, 1) := by decide +kernel
theorem dX5_rank_16 : decode cX5_rank 16 = .ok (.iload_n 3, 1) := by decide +kernel
theorem dX5_rank_17 : decode cX5_rank 17 = .ok (.iconst 0, 1) := by decide +kernel
theorem dX5_rank_18 : decode cX5_rank 18 = .ok (.invokevirtual 47, 3) := by decide +kernel
theorem dX5_rank_21 : decode cX5_rank 21 = .ok (.iconst 1, 1) := by decide +kernel
theorem dX5_rank_22 : decode cX5_rank 22 = .ok (.if_icmp .ne 16, 3) := by decide +kernel
theorem dX5_rank_25 : decode cX5_rank 25 = .ok (.aload_n 0, 1) := by decide +kernel
theorem dX5_rank_26 : decode cX5_rank 26 = .ok (.iload_n 3, 1) := by decide +kernel
theorem dX5_rank_27 : decode cX5_rank 27 = .ok (.iconst 3, 1) := by decide +kernel
theorem dX5_rank_28 : decode cX5_rank 28 = .ok (.invokevirtual 47, 3) := by decide +kernel
theorem dX5_rank_31 : decode cX5_rank 31 = .ok (.ifCond .ne 7, 3) := by decide +kernel
theorem dX5_rank_34 : decode cX5_rank 34 = .ok (.iconst 1, 1) := by decide +kernel
theorem dX5_rank_35 : decode cX5_rank 35 = .ok (.goto 4, 3) := by decide +kernel
theorem dX5_rank_38 : decode cX5_rank 38 = .ok (.iconst 0, 1) := by decide +kernel
theorem dX5_rank_39 : decode cX5_rank 39 = .ok (.istore 4, 2) := by decide +kernel
theorem dX5_rank_41 : decode cX5_rank 41 = .ok (.iload_n 2, 1) := by decide +kernel
theorem dX5_rank_42 : decode cX5_rank 42 = .ok (.iload 4, 2) := by decide +kernel
theorem dX5_rank_44 : decode cX5_rank 44 = .ok (.ifCond .eq 42, 3) := by decide +kernel
theorem dX5_rank_47 : decode cX5_rank 47 = .ok (.aload_n 0, 1) := by decide +kernel
theorem dX5_rank_48 : decode cX5_rank 48 = .ok (.iload_n 3, 1) := by decide +kernel
theorem dX5_rank_49 : decode cX5_rank 49 = .ok (.iconst 1, 1) := by decide +kernel
theorem dX5_rank_50 : decode cX5_rank 50 = .ok (.invokevirtual 47, 3) := by decide +kernel
theorem dX5_rank_53 : decode cX5_rank 53 = .ok (.aload_n 0, 1) := by decide +kernel
theorem dX5_rank_54 : decode cX5_rank 54 = .ok (.iload_n 1, 1) := by decide +kernel
theorem dX5_rank_55 : decode cX5_rank 55 = .ok (.iconst 1, 1) := by decide +kernel
theorem dX5_rank_56 : decode cX5_rank 56 = .ok (.invokevirtual 47, 3) := by decide +kernel
theorem dX5_rank_59 : decode cX5_rank 59 = .ok (.if_icmp .lt 23, 3) := by decide +kernel
theorem dX5_rank_62 : decode cX5_rank 62 = .ok (.aload_n 0, 1) := by decide +kernel
theorem dX5_rank_63 : decode cX5_rank 63 = .ok (.iload_n 3, 1) := by decide +kernel
theorem dX5_rank_64 : decode cX5_rank 64 = .ok (.iconst 1, 1) := by decide +kernel
theorem dX5_rank_65 : decode cX5_rank 65 = .ok (.invokevirtual 47, 3) := by decide +kernel
theorem dX5_rank_68 : decode cX5_rank 68 = .ok (.aload_n 0, 1) := by decide +kernel
theorem dX5_rank_69 : decode cX5_rank 69 = .ok (.iload_n 1, 1) := by decide +kernel
theorem dX5_rank_70 : decode cX5_rank 70 = .ok (.iconst 1, 1) := by decide +kernel
theorem dX5_rank_71 : decode cX5_rank 71 = .ok (.invokevirtual 47, 3) := by decide +kernel
theorem dX5_rank_74 : decode cX5_rank 74 = .ok (.if_icmp .ne 12, 3) := by decide +kernel
theorem dX5_rank_77 : decode cX5_rank 77 = .ok (.iload_n 3, 1) := by decide +kernel
theorem dX5_rank_78 : decode cX5_rank 78 = .ok (.iload_n 1, 1) := by decide +kernel
theorem dX5_rank_79 : decode cX5_rank 79 = .ok (.if_icmp .ge 7, 3) := by decide +kernel
theorem dX5_rank_82 : decode cX5_rank 82 = .ok (.iconst 1, 1) := by decide +kernel
theorem dX5_rank_83 : decode cX5_rank 83 = .ok (.goto 4, 3) := by decide +kernel
theorem dX5_rank_86 : decode cX5_rank 86 = .ok (.iconst 0, 1) := by decide +kernel
theorem dX5_rank_87 : decode cX5_rank 87 = .ok (.iadd, 1) := by decide +kernel
theorem dX5_rank_88 : decode cX5_rank 88 = .ok (.istore_n 2, 1) := by decide +kernel
theorem dX5_rank_89 : decode cX5_rank 89 = .ok (.iinc 3 1, 3) := by decide +kernel
theorem dX5_rank_92 : decode cX5_rank 92 = .ok (.goto (-88), 3) := by decide +kernel
theorem dX5_rank_95 : decode cX5_rank 95 = .ok (.iload_n 2, 1) := by decide +kernel
theorem dX5_rank_96 : decode cX5_rank 96 = .ok (.ireturn, 1) := by decide +kernel
set_option maxRecDepth 20000 in
theorem ggX5_choice_X5_its : GoodIn wsX5_choice wsX5_its := goodIn_r _ [6, 1, 11, 12, 13, 14, 15, 16, 17, 18, 19, 20, 21, 22, 23, 24] (by decide +kernel) (by decide +kernel)
set_option maxRecDepth 20000 in
theorem gX5_choice_X5_its : GoodIn wsX5_choice (wsV RX5 47 RX5 yX5_its wsX5_its) := goodIn_app (goodIn_of _ (by decide +kernel)) ggX5_choice_X5_its
set_option maxRecDepth 20000 in
theorem ggX5_choice_X5_rank : GoodIn wsX5_choice wsX5_rank := goodIn_r _ [10, 1, 2, 3, 4, 5, 6, 11, 12, 13, 14, 15, 16, 17, 18, 19, 20, 21, 22, 23, 24] (by decide +kernel) (by decide +kernel)
set_option maxRecDepth 20000 in
theorem gX5_choice_X5_rank : GoodIn wsX5_choice (wsV RX5 117 RX5 yX5_rank wsX5_rank) := goodIn_app (goodIn_of _ (by decide +kernel)) ggX5_choice_X5_rank
theorem dX5_choice_0 : decode cX5_choice 0 = .ok (.iconst 0, 1) := by decide +kernel
theorem dX5_choice_1 : decode cX5_choice 1 = .ok (.istore_n 2, 1) := by decide +kernel
theorem dX5_choice_2 : decode cX5_choice 2 = .ok (.iload_n 2, 1) := by decide +kernel
theorem dX5_choice_3 : decode cX5_choice 3 = .ok (.aload_n 0, 1) := by decide +kernel
theorem dX5_choice_4 : decode cX5_choice 4 = .ok (.getfield 7, 3) := by decide +kernel
theorem dX5_choice_7 : decode cX5_choice 7 = .ok (.bipush 8, 2) := by decide +kernel
theorem dX5_choice_9 : decode cX5_choice 9 = .ok (.iaload, 1) := by decide +kernel
theorem dX5_choice_10 : decode cX5_choice 10 = .ok (.if_icmp .ge 39, 3) := by decide +kernel
theorem dX5_choice_13 : decode cX5_choice 13 = .ok (.aload_n 0, 1) := by decide +kernel
theorem dX5_choice_14 : decode cX5_choice 14 = .ok (.iload_n 2, 1) := by decide +kernel
theorem dX5_choice_15 : decode cX5_choice 15 = .ok (.iconst 0, 1) := by decide +kernel
theorem dX5_choice_16 : decode cX5_choice 16 = .ok (.invokevirtual 47, 3) := by decide +kernel
theorem dX5_choice_19 : decode cX5_choice 19 = .ok (.iconst 1, 1) := by decide +kernel
theorem dX5_choice_20 : decode cX5_choice 20 = .ok (.if_icmp .ne 23, 3) := by decide +kernel
theorem dX5_choice_23 : decode cX5_choice 23 = .ok (.aload_n 0, 1) := by decide +kernel
theorem dX5_choice_24 : decode cX5_choice 24 = .ok (.iload_n 2, 1) := by decide +kernel
theorem dX5_choice_25 : decode cX5_choice 25 = .ok (.iconst 3, 1) := by decide +kernel
theorem dX5_choice_26 : decode cX5_choice 26 = .ok (.invokevirtual 47, 3) := by decide +kernel
theorem dX5_choice_29 : decode cX5_choice 29 = .ok (.ifCond .ne 14, 3) := by decide +kernel
theorem dX5_choice_32 : decode cX5_choice 32 = .ok (.aload_n 0, 1) := by decide +kernel
theorem dX5_choice_33 : decode cX5_choice 33 = .ok (.iload_n 2, 1) := by decide +kernel
theorem dX5_choice_34 : decode cX5_choice 34 = .ok (.invokevirtual 117, 3) := by decide +kernel
theorem dX5_choice_37 : decode cX5_choice 37 = .ok (.iload_n 1, 1) := by decide +kernel
theorem dX5_choice_38 : decode cX5_choice 38 = .ok (.if_icmp .ne 5, 3) := by decide +kernel
theorem dX5_choice_41 : decode cX5_choice 41 = .ok (.iload_n 2, 1) := by decide +kernel
theorem dX5_choice_42 : decode cX5_choice 42 = .ok (.ireturn, 1) := by decide +kernel
theorem dX5_choice_43 : decode cX5_choice 43 = .ok (.iinc 2 1, 3) := by decide +kernel
theorem dX5_choice_46 : decode cX5_choice 46 = .ok (.goto (-44), 3) := by decide +kernel
theorem dX5_choice_49 : decode cX5_choice 49 = .ok (.iconst (-1), 1) := by decide +kernel
theorem dX5_choice_50 : decode cX5_choice 50 = .ok (.ireturn, 1) := by decide +kernel
set_option maxRecDepth 20000 in
theorem ggX5_log_X5_in : GoodIn wsX5_log wsX5_in := goodIn_r _ [5] (by decide +kernel) (by decide +kernel)
set_option maxRecDepth 20000 in
theorem gX5_log_X5_in : GoodIn wsX5_log (va_wsS RX5 32 yX5_in wsX5_in) := goodIn_app (goodIn_of _ (by decide +kernel)) ggX5_log_X5_in
theorem dX5_log_0 : decode cX5_log 0 = .ok (.iload_n 1, 1) := by decide +kernel
theorem dX5_log_1 : decode cX5_log 1 = .ok (.i2l, 1) := by decide +kernel
theorem dX5_log_2 : decode cX5_log 2 = .ok (.iconst 0, 1) := by decide +kernel
theorem dX5_log_3 : decode cX5_log 3 = .ok (.aload_n 0, 1) := by decide +kernel
theorem dX5_log_4 : decode cX5_log 4 = .ok (.getfield 7, 3) := by decide +kernel
theorem dX5_log_7 : decode cX5_log 7 = .ok (.bipush 10, 2) := by decide +kernel
theorem dX5_log_9 : decode cX5_log 9 = .ok (.iaload, 1) := by decide +kernel
theorem dX5_log_10 : decode cX5_log 10 = .ok (.iconst 1, 1) := by decide +kernel
theorem dX5_log_11 : decode cX5_log 11 = .ok (.isub, 1) := by decide +kernel
theorem dX5_log_12 : decode cX5_log 12 = .ok (.invokestatic 32, 3) := by decide +kernel
theorem dX5_log_15 : decode cX5_log 15 = .ok (.ifCond .ne 7, 3) := by decide +kernel
theorem dX5_log_18 : decode cX5_log 18 = .ok (.iconst (-1), 1) := by decide +kernel
theorem dX5_log_19 : decode cX5_log 19 = .ok (.goto 31, 3) := by decide +kernel
