theorem dL_cell_0 : decode cL_cell 0 = .ok (.iload_n 1, 1) := by decide +kernel
theorem dL_cell_1 : decode cL_cell 1 = .ok (.aload_n 0, 1) := by decide +kernel
theorem dL_cell_2 : decode cL_cell 2 = .ok (.arraylength, 1) := by decide +kernel
theorem dL_cell_3 : decode cL_cell 3 = .ok (.if_icmp .ge 9, 3) := by decide +kernel
theorem dL_cell_6 : decode cL_cell 6 = .ok (.aload_n 0, 1) := by decide +kernel
theorem dL_cell_7 : decode cL_cell 7 = .ok (.iload_n 1, 1) := by decide +kernel
theorem dL_cell_8 : decode cL_cell 8 = .ok (.iaload, 1) := by decide +kernel
theorem dL_cell_9 : decode cL_cell 9 = .ok (.goto 11, 3) := by decide +kernel
theorem dL_cell_12 : decode cL_cell 12 = .ok (.ldc 7, 2) := by decide +kernel
theorem dL_cell_14 : decode cL_cell 14 = .ok (.iload_n 1, 1) := by decide +kernel
theorem dL_cell_15 : decode cL_cell 15 = .ok (.imul, 1) := by decide +kernel
theorem dL_cell_16 : decode cL_cell 16 = .ok (.sipush 18313, 3) := by decide +kernel
theorem dL_cell_19 : decode cL_cell 19 = .ok (.iadd, 1) := by decide +kernel
theorem dL_cell_20 : decode cL_cell 20 = .ok (.ireturn, 1) := by decide +kernel
theorem dL_low_0 : decode cL_low 0 = .ok (.iload_n 0, 1) := by decide +kernel
theorem dL_low_1 : decode cL_low 1 = .ok (.ldc 8, 2) := by decide +kernel
theorem dL_low_3 : decode cL_low 3 = .ok (.iand, 1) := by decide +kernel
theorem dL_low_4 : decode cL_low 4 = .ok (.iload_n 1, 1) := by decide +kernel
theorem dL_low_5 : decode cL_low 5 = .ok (.irem, 1) := by decide +kernel
theorem dL_low_6 : decode cL_low 6 = .ok (.ireturn, 1) := by decide +kernel
set_option maxRecDepth 20000 in
theorem ggL_told_X4_count : GoodIn wsL_told wsX4_count := goodIn_r _ [6, 7, 8, 9, 10, 11, 12, 13, 14, 15, 16, 17, 18, 19, 20, 21, 22, 23, 24, 25, 26, 27, 28, 29, 30, 31, 32, 33, 55, 56, 57, 58, 59, 60, 61, 62, 63, 64, 65, 66, 67, 68, 69, 70, 71, 72, 73, 74, 75, 76, 77, 78, 79, 80, 81, 82, 83, 84, 85, 86, 87] (by decide +kernel) (by decide +kernel)
set_option maxRecDepth 20000 in
theorem gL_told_X4_count : GoodIn wsL_told (wsV RL 9 RX4 yX4_count wsX4_count) := goodIn_app (goodIn_of _ (by decide +kernel)) ggL_told_X4_count
set_option maxRecDepth 20000 in
theorem ggL_told_X4_of : GoodIn wsL_told wsX4_of := goodIn_r _ [37, 10, 38, 39, 40, 14, 41, 17, 27, 42, 43, 44, 45, 46, 47, 48, 49, 50, 51, 52, 53, 54, 55, 56, 57, 58, 59, 60, 61, 68, 69, 70, 71, 72, 73, 74, 80, 81, 82, 83, 84, 85, 86, 87] (by decide +kernel) (by decide +kernel)
set_option maxRecDepth 20000 in
theorem gL_told_X4_of : GoodIn wsL_told (wsV RL 15 RX4 yX4_of wsX4_of) := goodIn_app (goodIn_of _ (by decide +kernel)) ggL_told_X4_of
theorem dL_told_0 : decode cL_told 0 = .ok (.bipush 64, 2) := by decide +kernel
theorem dL_told_2 : decode cL_told 2 = .ok (.newarray .int, 2) := by decide +kernel
theorem dL_told_4 : decode cL_told 4 = .ok (.astore_n 1, 1) := by decide +kernel
theorem dL_told_5 : decode cL_told 5 = .ok (.iconst 0, 1) := by decide +kernel
theorem dL_told_6 : decode cL_told 6 = .ok (.istore_n 2, 1) := by decide +kernel
theorem dL_told_7 : decode cL_told 7 = .ok (.iload_n 2, 1) := by decide +kernel
theorem dL_told_8 : decode cL_told 8 = .ok (.bipush 8, 2) := by decide +kernel
theorem dL_told_10 : decode cL_told 10 = .ok (.aload_n 0, 1) := by decide +kernel
theorem dL_told_11 : decode cL_told 11 = .ok (.iconst 1, 1) := by decide +kernel
theorem dL_told_12 : decode cL_told 12 = .ok (.invokevirtual 9, 3) := by decide +kernel
theorem dL_told_15 : decode cL_told 15 = .ok (.imul, 1) := by decide +kernel
theorem dL_told_16 : decode cL_told 16 = .ok (.if_icmp .ge 24, 3) := by decide +kernel
theorem dL_told_19 : decode cL_told 19 = .ok (.aload_n 1, 1) := by decide +kernel
theorem dL_told_20 : decode cL_told 20 = .ok (.iload_n 2, 1) := by decide +kernel
theorem dL_told_21 : decode cL_told 21 = .ok (.aload_n 0, 1) := by decide +kernel
theorem dL_told_22 : decode cL_told 22 = .ok (.iload_n 2, 1) := by decide +kernel
theorem dL_told_23 : decode cL_told 23 = .ok (.bipush 8, 2) := by decide +kernel
theorem dL_told_25 : decode cL_told 25 = .ok (.idiv, 1) := by decide +kernel
theorem dL_told_26 : decode cL_told 26 = .ok (.iload_n 2, 1) := by decide +kernel
theorem dL_told_27 : decode cL_told 27 = .ok (.bipush 8, 2) := by decide +kernel
theorem dL_told_29 : decode cL_told 29 = .ok (.irem, 1) := by decide +kernel
theorem dL_told_30 : decode cL_told 30 = .ok (.invokevirtual 15, 3) := by decide +kernel
theorem dL_told_33 : decode cL_told 33 = .ok (.iastore, 1) := by decide +kernel
theorem dL_told_34 : decode cL_told 34 = .ok (.iinc 2 1, 3) := by decide +kernel
theorem dL_told_37 : decode cL_told 37 = .ok (.goto (-30), 3) := by decide +kernel
theorem dL_told_40 : decode cL_told 40 = .ok (.aload_n 1, 1) := by decide +kernel
theorem dL_told_41 : decode cL_told 41 = .ok (.areturn, 1) := by decide +kernel
set_option maxRecDepth 20000 in
theorem ggL_taken_X4_count : GoodIn wsL_taken wsX4_count := goodIn_r _ [5, 6, 7, 8, 9, 10, 11, 12, 13, 14, 15, 16, 17, 18, 19, 20, 21, 22, 23, 24, 25, 26, 27, 28, 29, 30, 31, 32, 54, 55, 56, 57, 58, 59, 60, 61, 62, 63, 64, 65, 66, 67, 68, 69, 70, 71, 72, 73, 74, 75, 76, 77, 78, 79, 80, 81, 82, 83, 84, 85, 86] (by decide +kernel) (by decide +kernel)
set_option maxRecDepth 20000 in
theorem gL_taken_X4_count : GoodIn wsL_taken (wsV RL 9 RX4 yX4_count wsX4_count) := goodIn_app (goodIn_of _ (by decide +kernel)) ggL_taken_X4_count
set_option maxRecDepth 20000 in
theorem ggL_taken_X4_of : GoodIn wsL_taken wsX4_of := goodIn_r _ [36, 9, 37, 38, 39, 13, 40, 16, 26, 41, 42, 43, 44, 45, 46, 47, 48, 49, 50, 51, 52, 53, 54, 55, 56, 57, 58, 59, 60, 67, 68, 69, 70, 71, 72, 73, 79, 80, 81, 82, 83, 84, 85, 86] (by decide +kernel) (by decide +kernel)
set_option maxRecDepth 20000 in
theorem gL_taken_X4_of : GoodIn wsL_taken (wsV RL 15 RX4 yX4_of wsX4_of) := goodIn_app (goodIn_of _ (by decide +kernel)) ggL_taken_X4_of
theorem dL_taken_0 : decode cL_taken 0 = .ok (.bipush (-6), 2) := by decide +kernel
theorem dL_taken_2 : decode cL_taken 2 = .ok (.istore_n 1, 1) := by decide +kernel
theorem dL_taken_3 : decode cL_taken 3 = .ok (.iconst 0, 1) := by decide +kernel
theorem dL_taken_4 : decode cL_taken 4 = .ok (.istore_n 2, 1) := by decide +kernel
theorem dL_taken_5 : decode cL_taken 5 = .ok (.iload_n 2, 1) := by decide +kernel
theorem dL_taken_6 : decode cL_taken 6 = .ok (.aload_n 0, 1) := by decide +kernel
theorem dL_taken_7 : decode cL_taken 7 = .ok (.iconst 1, 1) := by decide +kernel
theorem dL_taken_8 : decode cL_taken 8 = .ok (.invokevirtual 9, 3) := by decide +kernel
theorem dL_taken_11 : decode cL_taken 11 = .ok (.if_icmp .ge 63, 3) := by decide +kernel
theorem dL_taken_14 : decode cL_taken 14 = .ok (.aload_n 0, 1) := by decide +kernel
theorem dL_taken_15 : decode cL_taken 15 = .ok (.iload_n 2, 1) := by decide +kernel
theorem dL_taken_16 : decode cL_taken 16 = .ok (.iconst 0, 1) := by decide +kernel
theorem dL_taken_17 : decode cL_taken 17 = .ok (.invokevirtual 15, 3) := by decide +kernel
theorem dL_taken_20 : decode cL_taken 20 = .ok (.iconst 1, 1) := by decide +kernel
theorem dL_taken_21 : decode cL_taken 21 = .ok (.if_icmp .ne 16, 3) := by decide +kernel
theorem dL_taken_24 : decode cL_taken 24 = .ok (.aload_n 0, 1) := by decide +kernel
theorem dL_taken_25 : decode cL_taken 25 = .ok (.iload_n 2, 1) := by decide +kernel
theorem dL_taken_26 : decode cL_taken 26 = .ok (.iconst 3, 1) := by decide +kernel
theorem dL_taken_27 : decode cL_taken 27 = .ok (.invokevirtual 15, 3) := by decide +kernel
theorem dL_taken_30 : decode cL_taken 30 = .ok (.ifCond .ne 7, 3) := by decide +kernel
theorem dL_taken_33 : decode cL_taken 33 = .ok (.iconst 1, 1) := by decide +kernel
theorem dL_taken_34 : decode cL_taken 34 = .ok (.goto 4, 3) := by decide +kernel
theorem dL_taken_37 : decode cL_taken 37 = .ok (.iconst 0, 1) := by decide +kernel
theorem dL_taken_38 : decode cL_taken 38 = .ok (.istore_n 3, 1) := by decide +kernel
theorem dL_taken_39 : decode cL_taken 39 = .ok (.iload_n 3, 1) := by decide +kernel
theorem dL_taken_40 : decode cL_taken 40 = .ok (.ifCond .eq 26, 3) := by decide +kernel
theorem dL_taken_43 : decode cL_taken 43 = .ok (.iload_n 1, 1) := by decide +kernel
theorem dL_taken_44 : decode cL_taken 44 = .ok (.ifCond .lt 18, 3) := by decide +kernel
theorem dL_taken_47 : decode cL_taken 47 = .ok (.aload_n 0, 1) := by decide +kernel
theorem dL_taken_48 : decode cL_taken 48 = .ok (.iload_n 2, 1) := by decide +kernel
theorem dL_taken_49 : decode cL_taken 49 = .ok (.iconst 1, 1) := by decide +kernel
theorem dL_taken_50 : decode cL_taken 50 = .ok (.invokevirtual 15, 3) := by decide +kernel
theorem dL_taken_53 : decode cL_taken 53 = .ok (.aload_n 0, 1) := by decide +kernel
theorem dL_taken_54 : decode cL_taken 54 = .ok (.iload_n 1, 1) := by decide +kernel
theorem dL_taken_55 : decode cL_taken 55 = .ok (.iconst 1, 1) := by decide +kernel
theorem dL_taken_56 : decode cL_taken 56 = .ok (.invokevirtual 15, 3) := by decide +kernel
theorem dL_taken_59 : decode cL_taken 59 = .ok (.if_icmp .ge 7, 3) := by decide +kernel
theorem dL_taken_62 : decode cL_taken 62 = .ok (.iload_n 2, 1) := by decide +kernel
theorem dL_taken_63 : decode cL_taken 63 = .ok (.goto 4, 3) := by decide +kernel
theorem dL_taken_66 : decode cL_taken 66 = .ok (.iload_n 1, 1) := by decide +kernel
theorem dL_taken_67 : decode cL_taken 67 = .ok (.istore_n 1, 1) := by decide +kernel
theorem dL_taken_68 : decode cL_taken 68 = .ok (.iinc 2 1, 3) := by decide +kernel
theorem dL_taken_71 : decode cL_taken 71 = .ok (.goto (-66), 3) := by decide +kernel
theorem dL_taken_74 : decode cL_taken 74 = .ok (.iload_n 1, 1) := by decide +kernel
theorem dL_taken_75 : decode cL_taken 75 = .ok (.ireturn, 1) := by decide +kernel
set_option maxRecDepth 20000 in
theorem ggL_chosen_L_taken : GoodIn wsL_chosen wsL_taken := goodIn_r _ [4, 5, 6, 7, 8, 9, 10, 11, 12, 13, 14, 15, 16, 17, 18, 19, 20, 21, 22, 23, 24, 25, 26, 27, 28, 29, 30, 31, 32, 33, 34, 35, 36, 37, 38, 39, 40, 41, 42, 43, 44, 45, 46, 47, 48, 49, 50, 51, 52, 53, 54, 55, 56, 57, 97, 98, 99, 100, 101, 102, 103, 104, 105, 106, 107, 108, 109, 110, 111, 112, 113, 114, 115, 116, 117, 118, 119, 120, 121, 122, 123, 124, 125, 126, 127, 128, 129] (by decide +kernel) (by decide +kernel)
set_option maxRecDepth 20000 in
theorem gL_chosen_L_taken : GoodIn wsL_chosen (va_wsS RL 19 yL_taken wsL_taken) := goodIn_app (goodIn_of _ (by decide +kernel)) ggL_chosen_L_taken
set_option maxRecDepth 20000 in
theorem ggL_chosen_X4_count : GoodIn wsL_chosen wsX4_count := goodIn_r _ [9, 10, 11, 12, 13, 14, 15, 16, 17, 18, 19, 20, 21, 22, 23, 24, 25, 26, 27, 28, 29, 30, 31, 32, 33, 34, 35, 36, 97, 98, 99, 100, 101, 102, 103, 104, 105, 106, 107, 108, 109, 110, 111, 112, 113, 114, 115, 116, 117, 118, 119, 120, 121, 122, 123, 124, 125, 126, 127, 128, 129] (by decide +kernel) (by decide +kernel)
set_option maxRecDepth 20000 in
theorem gL_chosen_X4_count : GoodIn wsL_chosen (wsV RL 9 RX4 yX4_count wsX4_count) := goodIn_app (goodIn_of _ (by decide +kernel)) ggL_chosen_X4_count
set_option maxRecDepth 20000 in
theorem ggL_chosen_X4_choice : GoodIn wsL_chosen wsX4_choice := goodIn_r _ [61, 13, 62, 63, 64, 17, 65, 20, 30, 66, 67, 68, 48, 69, 50, 53, 70, 71, 72, 73, 74, 97, 98, 99, 100, 101, 102, 103, 110, 111, 112, 113, 114, 115, 116, 122, 123, 124, 125, 126, 127, 128, 129] (by decide +kernel) (by decide +kernel)
set_option maxRecDepth 20000 in
theorem gL_chosen_X4_choice : GoodIn wsL_chosen (wsV RL 25 RX4 yX4_choice wsX4_choice) := goodIn_app (goodIn_of _ (by decide +kernel)) ggL_chosen_X4_choice
set_option maxRecDepth 20000 in
theorem ggL_chosen_X4_log : GoodIn wsL_chosen wsX4_log := goodIn_r _ [78, 13, 79, 80, 81, 82, 83, 84, 85, 86, 87, 88, 89, 97, 98, 99, 100, 101, 102, 103, 110, 111, 112, 113, 114, 115, 116, 117, 118, 119, 120, 121] (by decide +kernel) (by decide +kernel)
set_option maxRecDepth 20000 in
theorem gL_chosen_X4_log : GoodIn wsL_chosen (wsV RL 28 RX4 yX4_log wsX4_log) := goodIn_app (goodIn_of _ (by decide +kernel)) ggL_chosen_X4_log
set_option maxRecDepth 20000 in
theorem ggL_chosen_X4_of : GoodIn wsL_chosen wsX4_of := goodIn_r _ [40, 13, 41, 42, 43, 17, 44, 20, 30, 45, 46, 47, 48, 49, 50, 51, 52, 53, 54, 55, 56, 57, 97, 98, 99, 100, 101, 102, 103, 110, 111, 112, 113, 114, 115, 116, 122, 123, 124, 125, 126, 127, 128, 129] (by decide +kernel) (by decide +kernel)
set_option maxRecDepth 20000 in
theorem gL_chosen_X4_of : GoodIn wsL_chosen (wsV RL 15 RX4 yX4_of wsX4_of) := goodIn_app (goodIn_of _ (by decide +kernel)) ggL_chosen_X4_of
set_option maxRecDepth 20000 in
theorem ggL_chosen_X4_why : GoodIn wsL_chosen wsX4_why := goodIn_r _ [93, 13, 94, 95, 96, 41, 42, 43, 17, 44, 20, 30, 97, 98, 99, 100, 101, 102, 103, 110, 111, 112, 113, 114, 115, 116, 122, 123, 124, 125, 126, 127, 128, 129] (by decide +kernel) (by decide +kernel)
set_option maxRecDepth 20000 in
theorem gL_chosen_X4_why : GoodIn wsL_chosen (wsV RL 31 RX4 yX4_why wsX4_why) := goodIn_app (goodIn_of _ (by decide +kernel)) ggL_chosen_X4_why
theorem dL_chosen_0 : decode cL_chosen 0 = .ok (.aload_n 0, 1) := by decide +kernel
theorem dL_chosen_1 : decode cL_chosen 1 = .ok (.invokestatic 19, 3) := by decide +kernel
theorem dL_chosen_4 : decode cL_chosen 4 = .ok (.istore_n 1, 1) := by decide +kernel
theorem dL_chosen_5 : decode cL_chosen 5 = .ok (.aload_n 0, 1) := by decide +kernel
theorem dL_chosen_6 : decode cL_chosen 6 = .ok (.iconst 4, 1) := by decide +kernel
theorem dL_chosen_7 : decode cL_chosen 7 = .ok (.invokevirtual 9, 3) := by decide +kernel
theorem dL_chosen_10 : decode cL_chosen 10 = .ok (.iload_n 1, 1) := by decide +kernel
theorem dL_chosen_11 : decode cL_chosen 11 = .ok (.if_icmp .ne 44, 3) := by decide +kernel
theorem dL_chosen_14 : decode cL_chosen 14 = .ok (.aload_n 0, 1) := by decide +kernel
theorem dL_chosen_15 : decode cL_chosen 15 = .ok (.iconst 0, 1) := by decide +kernel
theorem dL_chosen_16 : decode cL_chosen 16 = .ok (.invokevirtual 25, 3) := by decide +kernel
theorem dL_chosen_19 : decode cL_chosen 19 = .ok (.iload_n 1, 1) := by decide +kernel
theorem dL_chosen_20 : decode cL_chosen 20 = .ok (.ifCond .ge 7, 3) := by decide +kernel
theorem dL_chosen_23 : decode cL_chosen 23 = .ok (.iconst (-1), 1) := by decide +kernel
theorem dL_chosen_24 : decode cL_chosen 24 = .ok (.goto 4, 3) := by decide +kernel
theorem dL_chosen_27 : decode cL_chosen 27 = .ok (.iload_n 1, 1) := by decide +kernel
theorem dL_chosen_28 : decode cL_chosen 28 = .ok (.if_icmp .ne 27, 3) := by decide +kernel
theorem dL_chosen_31 : decode cL_chosen 31 = .ok (.aload_n 0, 1) := by decide +kernel
theorem dL_chosen_32 : decode cL_chosen 32 = .ok (.iconst (-1), 1) := by decide +kernel
theorem dL_chosen_33 : decode cL_chosen 33 = .ok (.invokevirtual 25, 3) := by decide +kernel
theorem dL_chosen_36 : decode cL_chosen 36 = .ok (.iconst (-1), 1) := by decide +kernel
theorem dL_chosen_37 : decode cL_chosen 37 = .ok (.if_icmp .ne 18, 3) := by decide +kernel
theorem dL_chosen_40 : decode cL_chosen 40 = .ok (.aload_n 0, 1) := by decide +kernel
theorem dL_chosen_41 : decode cL_chosen 41 = .ok (.aload_n 0, 1) := by decide +kernel
theorem dL_chosen_42 : decode cL_chosen 42 = .ok (.bipush 6, 2) := by decide +kernel
theorem dL_chosen_44 : decode cL_chosen 44 = .ok (.invokevirtual 9, 3) := by decide +kernel
theorem dL_chosen_47 : decode cL_chosen 47 = .ok (.iconst 0, 1) := by decide +kernel
theorem dL_chosen_48 : decode cL_chosen 48 = .ok (.invokevirtual 28, 3) := by decide +kernel
theorem dL_chosen_51 : decode cL_chosen 51 = .ok (.iconst (-1), 1) := by decide +kernel
theorem dL_chosen_52 : decode cL_chosen 52 = .ok (.if_icmp .eq 5, 3) := by decide +kernel
theorem dL_chosen_55 : decode cL_chosen 55 = .ok (.iconst 0, 1) := by decide +kernel
theorem dL_chosen_56 : decode cL_chosen 56 = .ok (.ireturn, 1) := by decide +kernel
theorem dL_chosen_57 : decode cL_chosen 57 = .ok (.iconst 0, 1) := by decide +kernel
theorem dL_chosen_58 : decode cL_chosen 58 = .ok (.istore_n 2, 1) := by decide +kernel
theorem dL_chosen_59 : decode cL_chosen 59 = .ok (.iconst 0, 1) := by decide +kernel
theorem dL_chosen_60 : decode cL_chosen 60 = .ok (.istore_n 3, 1) := by decide +kernel
theorem dL_chosen_61 : decode cL_chosen 61 = .ok (.iload_n 3, 1) := by decide +kernel
theorem dL_chosen_62 : decode cL_chosen 62 = .ok (.aload_n 0, 1) := by decide +kernel
theorem dL_chosen_63 : decode cL_chosen 63 = .ok (.iconst 1, 1) := by decide +kernel
theorem dL_chosen_64 : decode cL_chosen 64 = .ok (.invokevirtual 9, 3) := by decide +kernel
theorem dL_chosen_67 : decode cL_chosen 67 = .ok (.if_icmp .ge 115, 3) := by decide +kernel
theorem dL_chosen_70 : decode cL_chosen 70 = .ok (.aload_n 0, 1) := by decide +kernel
theorem dL_chosen_71 : decode cL_chosen 71 = .ok (.iload_n 3, 1) := by decide +kernel
theorem dL_chosen_72 : decode cL_chosen 72 = .ok (.iconst 0, 1) := by decide +kernel
theorem dL_chosen_73 : decode cL_chosen 73 = .ok (.invokevirtual 15, 3) := by decide +kernel
theorem dL_chosen_76 : decode cL_chosen 76 = .ok (.ifCond .ne 7, 3) := by decide +kernel
theorem dL_chosen_79 : decode cL_chosen 79 = .ok (.iconst 1, 1) := by decide +kernel
theorem dL_chosen_80 : decode cL_chosen 80 = .ok (.goto 27, 3) := by decide +kernel
theorem dL_chosen_83 : decode cL_chosen 83 = .ok (.aload_n 0, 1) := by decide +kernel
theorem dL_chosen_84 : decode cL_chosen 84 = .ok (.iload_n 3, 1) := by decide +kernel
theorem dL_chosen_85 : decode cL_chosen 85 = .ok (.iconst 3, 1) := by decide +kernel
theorem dL_chosen_86 : decode cL_chosen 86 = .ok (.invokevirtual 15, 3) := by decide +kernel
theorem dL_chosen_89 : decode cL_chosen 89 = .ok (.iconst 1, 1) := by decide +kernel
theorem dL_chosen_90 : decode cL_chosen 90 = .ok (.if_icmp .ne 7, 3) := by decide +kernel
theorem dL_chosen_93 : decode cL_chosen 93 = .ok (.iconst 2, 1) := by decide +kernel
theorem dL_chosen_94 : decode cL_chosen 94 = .ok (.goto 13, 3) := by decide +kernel
theorem dL_chosen_97 : decode cL_chosen 97 = .ok (.iload_n 1, 1) := by decide +kernel
theorem dL_chosen_98 : decode cL_chosen 98 = .ok (.iload_n 3, 1) := by decide +kernel
theorem dL_chosen_99 : decode cL_chosen 99 = .ok (.if_icmp .ne 7, 3) := by decide +kernel
theorem dL_chosen_102 : decode cL_chosen 102 = .ok (.iconst 0, 1) := by decide +kernel
theorem dL_chosen_103 : decode cL_chosen 103 = .ok (.goto 4, 3) := by decide +kernel
theorem dL_chosen_106 : decode cL_chosen 106 = .ok (.iconst 3, 1) := by decide +kernel
theorem dL_chosen_107 : decode cL_chosen 107 = .ok (.istore 4, 2) := by decide +kernel
theorem dL_chosen_109 : decode cL_chosen 109 = .ok (.aload_n 0, 1) := by decide +kernel
theorem dL_chosen_110 : decode cL_chosen 110 = .ok (.iload_n 3, 1) := by decide +kernel
theorem dL_chosen_111 : decode cL_chosen 111 = .ok (.invokevirtual 31, 3) := by decide +kernel
theorem dL_chosen_114 : decode cL_chosen 114 = .ok (.iload 4, 2) := by decide +kernel
theorem dL_chosen_116 : decode cL_chosen 116 = .ok (.if_icmp .ne 39, 3) := by decide +kernel
theorem dL_chosen_119 : decode cL_chosen 119 = .ok (.aload_n 0, 1) := by decide +kernel
theorem dL_chosen_120 : decode cL_chosen 120 = .ok (.iconst 2, 1) := by decide +kernel
theorem dL_chosen_121 : decode cL_chosen 121 = .ok (.invokevirtual 9, 3) := by decide +kernel
theorem dL_chosen_124 : decode cL_chosen 124 = .ok (.iload_n 3, 1) := by decide +kernel
theorem dL_chosen_125 : decode cL_chosen 125 = .ok (.ishr, 1) := by decide +kernel
theorem dL_chosen_126 : decode cL_chosen 126 = .ok (.iconst 1, 1) := by decide +kernel
theorem dL_chosen_127 : decode cL_chosen 127 = .ok (.iand, 1) := by decide +kernel
theorem dL_chosen_128 : decode cL_chosen 128 = .ok (.aload_n 0, 1) := by decide +kernel
theorem dL_chosen_129 : decode cL_chosen 129 = .ok (.iload_n 3, 1) := by decide +kernel
theorem dL_chosen_130 : decode cL_chosen 130 = .ok (.iconst 0, 1) := by decide +kernel
theorem dL_chosen_131 : decode cL_chosen 131 = .ok (.invokevirtual 15, 3) := by decide +kernel
theorem dL_chosen_134 : decode cL_chosen 134 = .ok (.if_icmp .ne 21, 3) := by decide +kernel
theorem dL_chosen_137 : decode cL_chosen 137 = .ok (.aload_n 0, 1) := by decide +kernel
theorem dL_chosen_138 : decode cL_chosen 138 = .ok (.iconst 3, 1) := by decide +kernel
theorem dL_chosen_139 : decode cL_chosen 139 = .ok (.invokevirtual 9, 3) := by decide +kernel
theorem dL_chosen_142 : decode cL_chosen 142 = .ok (.iload_n 3, 1) := by decide +kernel
theorem dL_chosen_143 : decode cL_chosen 143 = .ok (.ishr, 1) := by decide +kernel
theorem dL_chosen_144 : decode cL_chosen 144 = .ok (.iconst 1, 1) := by decide +kernel
theorem dL_chosen_145 : decode cL_chosen 145 = .ok (.iand, 1) := by decide +kernel
theorem dL_chosen_146 : decode cL_chosen 146 = .ok (.aload_n 0, 1) := by decide +kernel
theorem dL_chosen_147 : decode cL_chosen 147 = .ok (.iload_n 3, 1) := by decide +kernel
theorem dL_chosen_148 : decode cL_chosen 148 = .ok (.iconst 3, 1) := by decide +kernel
theorem dL_chosen_149 : decode cL_chosen 149 = .ok (.invokevirtual 15, 3) := by decide +kernel
theorem dL_chosen_152 : decode cL_chosen 152 = .ok (.if_icmp .eq 5, 3) := by decide +kernel
theorem dL_chosen_155 : decode cL_chosen 155 = .ok (.iconst 0, 1) := by decide +kernel
theorem dL_chosen_156 : decode cL_chosen 156 = .ok (.ireturn, 1) := by decide +kernel
theorem dL_chosen_157 : decode cL_chosen 157 = .ok (.iload_n 2, 1) := by decide +kernel
theorem dL_chosen_158 : decode cL_chosen 158 = .ok (.iload 4, 2) := by decide +kernel
theorem dL_chosen_160 : decode cL_chosen 160 = .ok (.ifCond .eq 9, 3) := by decide +kernel
theorem dL_chosen_163 : decode cL_chosen 163 = .ok (.iload 4, 2) := by decide +kernel
theorem dL_chosen_165 : decode cL_chosen 165 = .ok (.iconst 3, 1) := by decide +kernel
theorem dL_chosen_166 : decode cL_chosen 166 = .ok (.if_icmp .ne 7, 3) := by decide +kernel
theorem dL_chosen_169 : decode cL_chosen 169 = .ok (.iconst 1, 1) := by decide +kernel
theorem dL_chosen_170 : decode cL_chosen 170 = .ok (.goto 4, 3) := by decide +kernel
theorem dL_chosen_173 : decode cL_chosen 173 = .ok (.iconst 0, 1) := by decide +kernel
theorem dL_chosen_174 : decode cL_chosen 174 = .ok (.iadd, 1) := by decide +kernel
theorem dL_chosen_175 : decode cL_chosen 175 = .ok (.istore_n 2, 1) := by decide +kernel
theorem dL_chosen_176 : decode cL_chosen 176 = .ok (.iinc 3 1, 3) := by decide +kernel
theorem dL_chosen_179 : decode cL_chosen 179 = .ok (.goto (-118), 3) := by decide +kernel
theorem dL_chosen_182 : decode cL_chosen 182 = .ok (.iconst 1, 1) := by decide +kernel
theorem dL_chosen_183 : decode cL_chosen 183 = .ok (.istore_n 3, 1) := by decide +kernel
theorem dL_chosen_184 : decode cL_chosen 184 = .ok (.iload_n 3, 1) := by decide +kernel
theorem dL_chosen_185 : decode cL_chosen 185 = .ok (.iload_n 2, 1) := by decide +kernel
theorem dL_chosen_186 : decode cL_chosen 186 = .ok (.if_icmp .ge 68, 3) := by decide +kernel
theorem dL_chosen_189 : decode cL_chosen 189 = .ok (.aload_n 0, 1) := by decide +kernel
theorem dL_chosen_190 : decode cL_chosen 190 = .ok (.iload_n 3, 1) := by decide +kernel
theorem dL_chosen_191 : decode cL_chosen 191 = .ok (.iconst 1, 1) := by decide +kernel
theorem dL_chosen_192 : decode cL_chosen 192 = .ok (.isub, 1) := by decide +kernel
theorem dL_chosen_193 : decode cL_chosen 193 = .ok (.invokevirtual 25, 3) := by decide +kernel
theorem dL_chosen_196 : decode cL_chosen 196 = .ok (.istore 4, 2) := by decide +kernel
theorem dL_chosen_198 : decode cL_chosen 198 = .ok (.aload_n 0, 1) := by decide +kernel
theorem dL_chosen_199 : decode cL_chosen 199 = .ok (.iload_n 3, 1) := by decide +kernel
theorem dL_chosen_200 : decode cL_chosen 200 = .ok (.invokevirtual 25, 3) := by decide +kernel
theorem dL_chosen_203 : decode cL_chosen 203 = .ok (.istore 5, 2) := by decide +kernel
theorem dL_chosen_205 : decode cL_chosen 205 = .ok (.aload_n 0, 1) := by decide +kernel
theorem dL_chosen_206 : decode cL_chosen 206 = .ok (.iload 4, 2) := by decide +kernel
theorem dL_chosen_208 : decode cL_chosen 208 = .ok (.iconst 1, 1) := by decide +kernel
theorem dL_chosen_209 : decode cL_chosen 209 = .ok (.invokevirtual 15, 3) := by decide +kernel
theorem dL_chosen_212 : decode cL_chosen 212 = .ok (.aload_n 0, 1) := by decide +kernel
theorem dL_chosen_213 : decode cL_chosen 213 = .ok (.iload 5, 2) := by decide +kernel
theorem dL_chosen_215 : decode cL_chosen 215 = .ok (.iconst 1, 1) := by decide +kernel
theorem dL_chosen_216 : decode cL_chosen 216 = .ok (.invokevirtual 15, 3) := by decide +kernel
theorem dL_chosen_219 : decode cL_chosen 219 = .ok (.if_icmp .gt 27, 3) := by decide +kernel
theorem dL_chosen_222 : decode cL_chosen 222 = .ok (.aload_n 0, 1) := by decide +kernel
theorem dL_chosen_223 : decode cL_chosen 223 = .ok (.iload 4, 2) := by decide +kernel
theorem dL_chosen_225 : decode cL_chosen 225 = .ok (.iconst 1, 1) := by decide +kernel
theorem dL_chosen_226 : decode cL_chosen 226 = .ok (.invokevirtual 15, 3) := by decide +kernel
theorem dL_chosen_229 : decode cL_chosen 229 = .ok (.aload_n 0, 1) := by decide +kernel
theorem dL_chosen_230 : decode cL_chosen 230 = .ok (.iload 5, 2) := by decide +kernel
theorem dL_chosen_232 : decode cL_chosen 232 = .ok (.iconst 1, 1) := by decide +kernel
theorem dL_chosen_233 : decode cL_chosen 233 = .ok (.invokevirtual 15, 3) := by decide +kernel
theorem dL_chosen_236 : decode cL_chosen 236 = .ok (.if_icmp .ne 12, 3) := by decide +kernel
theorem dL_chosen_239 : decode cL_chosen 239 = .ok (.iload 4, 2) := by decide +kernel
theorem dL_chosen_241 : decode cL_chosen 241 = .ok (.iload 5, 2) := by decide +kernel
theorem dL_chosen_243 : decode cL_chosen 243 = .ok (.if_icmp .lt 5, 3) := by decide +kernel
theorem dL_chosen_246 : decode cL_chosen 246 = .ok (.iconst 0, 1) := by decide +kernel
theorem dL_chosen_247 : decode cL_chosen 247 = .ok (.ireturn, 1) := by decide +kernel
theorem dL_chosen_248 : decode cL_chosen 248 = .ok (.iinc 3 1, 3) := by decide +kernel
theorem dL_chosen_251 : decode cL_chosen 251 = .ok (.goto (-67), 3) := by decide +kernel
theorem dL_chosen_254 : decode cL_chosen 254 = .ok (.aload_n 0, 1) := by decide +kernel
theorem dL_chosen_255 : decode cL_chosen 255 = .ok (.iload_n 2, 1) := by decide +kernel
theorem dL_chosen_256 : decode cL_chosen 256 = .ok (.invokevirtual 25, 3) := by decide +kernel
theorem dL_chosen_259 : decode cL_chosen 259 = .ok (.iconst (-1), 1) := by decide +kernel
theorem dL_chosen_260 : decode cL_chosen 260 = .ok (.if_icmp .ne 7, 3) := by decide +kernel
theorem dL_chosen_263 : decode cL_chosen 263 = .ok (.iconst 1, 1) := by decide +kernel
theorem dL_chosen_264 : decode cL_chosen 264 = .ok (.goto 4, 3) := by decide +kernel
theorem dL_chosen_267 : decode cL_chosen 267 = .ok (.iconst 0, 1) := by decide +kernel
theorem dL_chosen_268 : decode cL_chosen 268 = .ok (.ireturn, 1) := by decide +kernel
set_option maxRecDepth 20000 in
theorem ggL_changed_X4_count : GoodIn wsL_changed wsX4_count := goodIn_r _ [6, 7, 8, 9, 10, 11, 12, 13, 14, 15, 16, 17, 18, 19, 20, 21, 22, 23, 24, 25, 26, 27, 28, 29, 30, 31, 32, 33, 70, 71, 72, 73, 74, 75, 76, 77, 78, 79, 80, 81, 82, 83, 84, 85, 86, 87, 88, 89, 90, 91, 92, 93, 94, 95, 96, 97, 98, 99, 100, 101, 102] (by decide +kernel) (by decide +kernel)
set_option maxRecDepth 20000 in
theorem gL_changed_X4_count : GoodIn wsL_changed (wsV RL 9 RX4 yX4_count wsX4_count) := goodIn_app (goodIn_of _ (by decide +kernel)) ggL_changed_X4_count
set_option maxRecDepth 20000 in
theorem ggL_changed_X4_of : GoodIn wsL_changed wsX4_of := goodIn_r _ [37, 10, 38, 39, 40, 14, 41, 17, 27, 42, 43, 44, 45, 46, 47, 48, 49, 50, 51, 52, 53, 54, 70, 71, 72, 73, 74, 75, 76, 83, 84, 85, 86, 87, 88, 89, 95, 96, 97, 98, 99, 100, 101, 102] (by decide +kernel) (by decide +kernel)
set_option maxRecDepth 20000 in
theorem gL_changed_X4_of : GoodIn wsL_changed (wsV RL 15 RX4 yX4_of wsX4_of) := goodIn_app (goodIn_of _ (by decide +kernel)) ggL_changed_X4_of
set_option maxRecDepth 20000 in
theorem ggL_changed_X4_log : GoodIn wsL_changed wsX4_log := goodIn_r _ [58, 10, 59, 60, 61, 62, 63, 64, 65, 66, 67, 68, 69, 70, 71, 72, 73, 74, 75, 76, 83, 84, 85, 86, 87, 88, 89, 90, 91, 92, 93, 94] (by decide +kernel) (by decide +kernel)
set_option maxRecDepth 20000 in
theorem gL_changed_X4_log : GoodIn wsL_changed (wsV RL 28 RX4 yX4_log wsX4_log) := goodIn_app (goodIn_of _ (by decide +kernel)) ggL_changed_X4_log
theorem dL_changed_0 : decode cL_changed 0 = .ok (.bipush 8, 2) := by decide +kernel
theorem dL_changed_2 : decode cL_changed 2 = .ok (.iload_n 2, 1) := by decide +kernel
theorem dL_changed_3 : decode cL_changed 3 = .ok (.imul, 1) := by decide +kernel
theorem dL_changed_4 : decode cL_changed 4 = .ok (.istore 5, 2) := by decide +kernel
theorem dL_changed_6 : decode cL_changed 6 = .ok (.aload_n 1, 1) := by decide +kernel
theorem dL_changed_7 : decode cL_changed 7 = .ok (.iload 5, 2) := by decide +kernel
theorem dL_changed_9 : decode cL_changed 9 = .ok (.iconst 2, 1) := by decide +kernel
theorem dL_changed_10 : decode cL_changed 10 = .ok (.iadd, 1) := by decide +kernel
theorem dL_changed_11 : decode cL_changed 11 = .ok (.iaload, 1) := by decide +kernel
theorem dL_changed_12 : decode cL_changed 12 = .ok (.aload_n 0, 1) := by decide +kernel
theorem dL_changed_13 : decode cL_changed 13 = .ok (.bipush 7, 2) := by decide +kernel
theorem dL_changed_15 : decode cL_changed 15 = .ok (.iload_n 3, 1) := by decide +kernel
theorem dL_changed_16 : decode cL_changed 16 = .ok (.iadd, 1) := by decide +kernel
theorem dL_changed_17 : decode cL_changed 17 = .ok (.invokevirtual 9, 3) := by decide +kernel
theorem dL_changed_20 : decode cL_changed 20 = .ok (.iadd, 1) := by decide +kernel
theorem dL_changed_21 : decode cL_changed 21 = .ok (.istore 6, 2) := by decide +kernel
theorem dL_changed_23 : decode cL_changed 23 = .ok (.iload 6, 2) := by decide +kernel
theorem dL_changed_25 : decode cL_changed 25 = .ok (.ldc 34, 2) := by decide +kernel
theorem dL_changed_27 : decode cL_changed 27 = .ok (.if_icmp .le 8, 3) := by decide +kernel
theorem dL_changed_30 : decode cL_changed 30 = .ok (.ldc 34, 2) := by decide +kernel
theorem dL_changed_32 : decode cL_changed 32 = .ok (.goto 5, 3) := by decide +kernel
theorem dL_changed_35 : decode cL_changed 35 = .ok (.iload 6, 2) := by decide +kernel
theorem dL_changed_37 : decode cL_changed 37 = .ok (.istore 7, 2) := by decide +kernel
theorem dL_changed_39 : decode cL_changed 39 = .ok (.iload 7, 2) := by decide +kernel
theorem dL_changed_41 : decode cL_changed 41 = .ok (.aload_n 0, 1) := by decide +kernel
theorem dL_changed_42 : decode cL_changed 42 = .ok (.bipush 11, 2) := by decide +kernel
theorem dL_changed_44 : decode cL_changed 44 = .ok (.invokevirtual 9, 3) := by decide +kernel
theorem dL_changed_47 : decode cL_changed 47 = .ok (.if_icmp .le 16, 3) := by decide +kernel
theorem dL_changed_50 : decode cL_changed 50 = .ok (.aload_n 1, 1) := by decide +kernel
theorem dL_changed_51 : decode cL_changed 51 = .ok (.iload 5, 2) := by decide +kernel
theorem dL_changed_53 : decode cL_changed 53 = .ok (.iconst 3, 1) := by decide +kernel
theorem dL_changed_54 : decode cL_changed 54 = .ok (.iadd, 1) := by decide +kernel
theorem dL_changed_55 : decode cL_changed 55 = .ok (.iaload, 1) := by decide +kernel
theorem dL_changed_56 : decode cL_changed 56 = .ok (.ifCond .ne 7, 3) := by decide +kernel
theorem dL_changed_59 : decode cL_changed 59 = .ok (.iconst 1, 1) := by decide +kernel
theorem dL_changed_60 : decode cL_changed 60 = .ok (.goto 4, 3) := by decide +kernel
theorem dL_changed_63 : decode cL_changed 63 = .ok (.iconst 0, 1) := by decide +kernel
theorem dL_changed_64 : decode cL_changed 64 = .ok (.istore 8, 2) := by decide +kernel
theorem dL_changed_66 : decode cL_changed 66 = .ok (.iload 4, 2) := by decide +kernel
theorem dL_changed_68 : decode cL_changed 68 = .ok (.iload 7, 2) := by decide +kernel
theorem dL_changed_70 : decode cL_changed 70 = .ok (.if_icmp .ne 72, 3) := by decide +kernel
theorem dL_changed_73 : decode cL_changed 73 = .ok (.aload_n 0, 1) := by decide +kernel
theorem dL_changed_74 : decode cL_changed 74 = .ok (.iload_n 2, 1) := by decide +kernel
theorem dL_changed_75 : decode cL_changed 75 = .ok (.iconst 2, 1) := by decide +kernel
theorem dL_changed_76 : decode cL_changed 76 = .ok (.invokevirtual 15, 3) := by decide +kernel
theorem dL_changed_79 : decode cL_changed 79 = .ok (.iload 7, 2) := by decide +kernel
theorem dL_changed_81 : decode cL_changed 81 = .ok (.if_icmp .ne 61, 3) := by decide +kernel
theorem dL_changed_84 : decode cL_changed 84 = .ok (.aload_n 0, 1) := by decide +kernel
theorem dL_changed_85 : decode cL_changed 85 = .ok (.iload_n 2, 1) := by decide +kernel
theorem dL_changed_86 : decode cL_changed 86 = .ok (.iconst 3, 1) := by decide +kernel
theorem dL_changed_87 : decode cL_changed 87 = .ok (.invokevirtual 15, 3) := by decide +kernel
theorem dL_changed_90 : decode cL_changed 90 = .ok (.iload 8, 2) := by decide +kernel
theorem dL_changed_92 : decode cL_changed 92 = .ok (.ifCond .eq 7, 3) := by decide +kernel
theorem dL_changed_95 : decode cL_changed 95 = .ok (.iconst 1, 1) := by decide +kernel
theorem dL_changed_96 : decode cL_changed 96 = .ok (.goto 9, 3) := by decide +kernel
theorem dL_changed_99 : decode cL_changed 99 = .ok (.aload_n 1, 1) := by decide +kernel
theorem dL_changed_100 : decode cL_changed 100 = .ok (.iload 5, 2) := by decide +kernel
theorem dL_changed_102 : decode cL_changed 102 = .ok (.iconst 3, 1) := by decide +kernel
theorem dL_changed_103 : decode cL_changed 103 = .ok (.iadd, 1) := by decide +kernel
theorem dL_changed_104 : decode cL_changed 104 = .ok (.iaload, 1) := by decide +kernel
theorem dL_changed_105 : decode cL_changed 105 = .ok (.if_icmp .ne 37, 3) := by decide +kernel
theorem dL_changed_108 : decode cL_changed 108 = .ok (.aload_n 0, 1) := by decide +kernel
theorem dL_changed_109 : decode cL_changed 109 = .ok (.iload_n 2, 1) := by decide +kernel
theorem dL_changed_110 : decode cL_changed 110 = .ok (.iconst 4, 1) := by decide +kernel
theorem dL_changed_111 : decode cL_changed 111 = .ok (.invokevirtual 15, 3) := by decide +kernel
theorem dL_changed_114 : decode cL_changed 114 = .ok (.aload_n 1, 1) := by decide +kernel
theorem dL_changed_115 : decode cL_changed 115 = .ok (.iload 5, 2) := by decide +kernel
theorem dL_changed_117 : decode cL_changed 117 = .ok (.iconst 4, 1) := by decide +kernel
theorem dL_changed_118 : decode cL_changed 118 = .ok (.iadd, 1) := by decide +kernel
theorem dL_changed_119 : decode cL_changed 119 = .ok (.iaload, 1) := by decide +kernel
theorem dL_changed_120 : decode cL_changed 120 = .ok (.if_icmp .ne 22, 3) := by decide +kernel
theorem dL_changed_123 : decode cL_changed 123 = .ok (.aload_n 0, 1) := by decide +kernel
theorem dL_changed_124 : decode cL_changed 124 = .ok (.iload_n 2, 1) := by decide +kernel
theorem dL_changed_125 : decode cL_changed 125 = .ok (.iconst 5, 1) := by decide +kernel
theorem dL_changed_126 : decode cL_changed 126 = .ok (.invokevirtual 15, 3) := by decide +kernel
theorem dL_changed_129 : decode cL_changed 129 = .ok (.aload_n 1, 1) := by decide +kernel
theorem dL_changed_130 : decode cL_changed 130 = .ok (.iload 5, 2) := by decide +kernel
theorem dL_changed_132 : decode cL_changed 132 = .ok (.iconst 5, 1) := by decide +kernel
theorem dL_changed_133 : decode cL_changed 133 = .ok (.iadd, 1) := by decide +kernel
theorem dL_changed_134 : decode cL_changed 134 = .ok (.iaload, 1) := by decide +kernel
theorem dL_changed_135 : decode cL_changed 135 = .ok (.if_icmp .ne 7, 3) := by decide +kernel
theorem dL_changed_138 : decode cL_changed 138 = .ok (.iconst 1, 1) := by decide +kernel
theorem dL_changed_139 : decode cL_changed 139 = .ok (.goto 4, 3) := by decide +kernel
theorem dL_changed_142 : decode cL_changed 142 = .ok (.iconst 0, 1) := by decide +kernel
theorem dL_changed_143 : decode cL_changed 143 = .ok (.istore 9, 2) := by decide +kernel
theorem dL_changed_145 : decode cL_changed 145 = .ok (.aload_n 0, 1) := by decide +kernel
theorem dL_changed_146 : decode cL_changed 146 = .ok (.iload_n 2, 1) := by decide +kernel
theorem dL_changed_147 : decode cL_changed 147 = .ok (.bipush 6, 2) := by decide +kernel
theorem dL_changed_149 : decode cL_changed 149 = .ok (.invokevirtual 15, 3) := by decide +kernel
theorem dL_changed_152 : decode cL_changed 152 = .ok (.aload_n 1, 1) := by decide +kernel
theorem dL_changed_153 : decode cL_changed 153 = .ok (.iload 5, 2) := by decide +kernel
