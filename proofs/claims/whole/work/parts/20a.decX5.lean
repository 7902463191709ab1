theorem dX5_init_0 : decode cX5_init 0 = .ok (.aload_n 0, 1) := by decide +kernel
theorem dX5_init_1 : decode cX5_init 1 = .ok (.invokespecial 1, 3) := by decide +kernel
theorem dX5_init_4 : decode cX5_init 4 = .ok (.aload_n 0, 1) := by decide +kernel
theorem dX5_init_5 : decode cX5_init 5 = .ok (.sipush 135, 3) := by decide +kernel
theorem dX5_init_8 : decode cX5_init 8 = .ok (.newarray .int, 2) := by decide +kernel
theorem dX5_init_10 : decode cX5_init 10 = .ok (.putfield 7, 3) := by decide +kernel
theorem dX5_init_13 : decode cX5_init 13 = .ok (.aload_n 0, 1) := by decide +kernel
theorem dX5_init_14 : decode cX5_init 14 = .ok (.sipush 810, 3) := by decide +kernel
theorem dX5_init_17 : decode cX5_init 17 = .ok (.newarray .int, 2) := by decide +kernel
theorem dX5_init_19 : decode cX5_init 19 = .ok (.putfield 13, 3) := by decide +kernel
theorem dX5_init_22 : decode cX5_init 22 = .ok (.aload_n 0, 1) := by decide +kernel
theorem dX5_init_23 : decode cX5_init 23 = .ok (.sipush 135, 3) := by decide +kernel
theorem dX5_init_26 : decode cX5_init 26 = .ok (.newarray .int, 2) := by decide +kernel
theorem dX5_init_28 : decode cX5_init 28 = .ok (.putfield 16, 3) := by decide +kernel
theorem dX5_init_31 : decode cX5_init 31 = .ok (.aload_n 0, 1) := by decide +kernel
theorem dX5_init_32 : decode cX5_init 32 = .ok (.sipush 270, 3) := by decide +kernel
theorem dX5_init_35 : decode cX5_init 35 = .ok (.newarray .int, 2) := by decide +kernel
theorem dX5_init_37 : decode cX5_init 37 = .ok (.putfield 19, 3) := by decide +kernel
theorem dX5_init_40 : decode cX5_init 40 = .ok (.aload_n 0, 1) := by decide +kernel
theorem dX5_init_41 : decode cX5_init 41 = .ok (.iconst 2, 1) := by decide +kernel
theorem dX5_init_42 : decode cX5_init 42 = .ok (.newarray .boolean, 2) := by decide +kernel
theorem dX5_init_44 : decode cX5_init 44 = .ok (.putfield 22, 3) := by decide +kernel
theorem dX5_init_47 : decode cX5_init 47 = .ok (.aload_n 0, 1) := by decide +kernel
theorem dX5_init_48 : decode cX5_init 48 = .ok (.bipush 80, 2) := by decide +kernel
theorem dX5_init_50 : decode cX5_init 50 = .ok (.newarray .int, 2) := by decide +kernel
theorem dX5_init_52 : decode cX5_init 52 = .ok (.putfield 26, 3) := by decide +kernel
theorem dX5_init_55 : decode cX5_init 55 = .ok (.aload_n 0, 1) := by decide +kernel
theorem dX5_init_56 : decode cX5_init 56 = .ok (.bipush 8, 2) := by decide +kernel
theorem dX5_init_58 : decode cX5_init 58 = .ok (.newarray .int, 2) := by decide +kernel
theorem dX5_init_60 : decode cX5_init 60 = .ok (.putfield 29, 3) := by decide +kernel
theorem dX5_init_63 : decode cX5_init 63 = .ok (.aload_n 0, 1) := by decide +kernel
theorem dX5_init_64 : decode cX5_init 64 = .ok (.getfield 7, 3) := by decide +kernel
theorem dX5_init_67 : decode cX5_init 67 = .ok (.iconst 0, 1) := by decide +kernel
theorem dX5_init_68 : decode cX5_init 68 = .ok (.sipush 1000, 3) := by decide +kernel
theorem dX5_init_71 : decode cX5_init 71 = .ok (.iastore, 1) := by decide +kernel
theorem dX5_init_72 : decode cX5_init 72 = .ok (.aload_n 0, 1) := by decide +kernel
theorem dX5_init_73 : decode cX5_init 73 = .ok (.getfield 7, 3) := by decide +kernel
theorem dX5_init_76 : decode cX5_init 76 = .ok (.iconst 2, 1) := by decide +kernel
theorem dX5_init_77 : decode cX5_init 77 = .ok (.sipush 500, 3) := by decide +kernel
theorem dX5_init_80 : decode cX5_init 80 = .ok (.iastore, 1) := by decide +kernel
theorem dX5_init_81 : decode cX5_init 81 = .ok (.aload_n 0, 1) := by decide +kernel
theorem dX5_init_82 : decode cX5_init 82 = .ok (.getfield 7, 3) := by decide +kernel
theorem dX5_init_85 : decode cX5_init 85 = .ok (.iconst 3, 1) := by decide +kernel
theorem dX5_init_86 : decode cX5_init 86 = .ok (.bipush 15, 2) := by decide +kernel
theorem dX5_init_88 : decode cX5_init 88 = .ok (.iastore, 1) := by decide +kernel
theorem dX5_init_89 : decode cX5_init 89 = .ok (.aload_n 0, 1) := by decide +kernel
theorem dX5_init_90 : decode cX5_init 90 = .ok (.getfield 7, 3) := by decide +kernel
theorem dX5_init_93 : decode cX5_init 93 = .ok (.iconst 4, 1) := by decide +kernel
theorem dX5_init_94 : decode cX5_init 94 = .ok (.sipush 2000, 3) := by decide +kernel
theorem dX5_init_97 : decode cX5_init 97 = .ok (.iastore, 1) := by decide +kernel
theorem dX5_init_98 : decode cX5_init 98 = .ok (.aload_n 0, 1) := by decide +kernel
theorem dX5_init_99 : decode cX5_init 99 = .ok (.getfield 7, 3) := by decide +kernel
theorem dX5_init_102 : decode cX5_init 102 = .ok (.iconst 5, 1) := by decide +kernel
theorem dX5_init_103 : decode cX5_init 103 = .ok (.sipush 750, 3) := by decide +kernel
theorem dX5_init_106 : decode cX5_init 106 = .ok (.iastore, 1) := by decide +kernel
theorem dX5_init_107 : decode cX5_init 107 = .ok (.aload_n 0, 1) := by decide +kernel
theorem dX5_init_108 : decode cX5_init 108 = .ok (.getfield 7, 3) := by decide +kernel
theorem dX5_init_111 : decode cX5_init 111 = .ok (.bipush 6, 2) := by decide +kernel
theorem dX5_init_113 : decode cX5_init 113 = .ok (.bipush 60, 2) := by decide +kernel
theorem dX5_init_115 : decode cX5_init 115 = .ok (.iastore, 1) := by decide +kernel
theorem dX5_init_116 : decode cX5_init 116 = .ok (.return_, 1) := by decide +kernel
theorem dX5_in_0 : decode cX5_in 0 = .ok (.lload_n 0, 1) := by decide +kernel
theorem dX5_in_1 : decode cX5_in 1 = .ok (.iload_n 2, 1) := by decide +kernel
theorem dX5_in_2 : decode cX5_in 2 = .ok (.i2l, 1) := by decide +kernel
theorem dX5_in_3 : decode cX5_in 3 = .ok (.lcmp, 1) := by decide +kernel
theorem dX5_in_4 : decode cX5_in 4 = .ok (.ifCond .lt 14, 3) := by decide +kernel
theorem dX5_in_7 : decode cX5_in 7 = .ok (.lload_n 0, 1) := by decide +kernel
theorem dX5_in_8 : decode cX5_in 8 = .ok (.iload_n 3, 1) := by decide +kernel
theorem dX5_in_9 : decode cX5_in 9 = .ok (.i2l, 1) := by decide +kernel
theorem dX5_in_10 : decode cX5_in 10 = .ok (.lcmp, 1) := by decide +kernel
theorem dX5_in_11 : decode cX5_in 11 = .ok (.ifCond .gt 7, 3) := by decide +kernel
theorem dX5_in_14 : decode cX5_in 14 = .ok (.iconst 1, 1) := by decide +kernel
theorem dX5_in_15 : decode cX5_in 15 = .ok (.goto 4, 3) := by decide +kernel
theorem dX5_in_18 : decode cX5_in 18 = .ok (.iconst 0, 1) := by decide +kernel
theorem dX5_in_19 : decode cX5_in 19 = .ok (.ireturn, 1) := by decide +kernel
theorem dX5_its_0 : decode cX5_its 0 = .ok (.aload_n 0, 1) := by decide +kernel
theorem dX5_its_1 : decode cX5_its 1 = .ok (.getfield 7, 3) := by decide +kernel
theorem dX5_its_4 : decode cX5_its 4 = .ok (.bipush 71, 2) := by decide +kernel
theorem dX5_its_6 : decode cX5_its 6 = .ok (.bipush 8, 2) := by decide +kernel
theorem dX5_its_8 : decode cX5_its 8 = .ok (.iload_n 1, 1) := by decide +kernel
theorem dX5_its_9 : decode cX5_its 9 = .ok (.imul, 1) := by decide +kernel
theorem dX5_its_10 : decode cX5_its 10 = .ok (.iadd, 1) := by decide +kernel
theorem dX5_its_11 : decode cX5_its 11 = .ok (.iload_n 2, 1) := by decide +kernel
theorem dX5_its_12 : decode cX5_its 12 = .ok (.iadd, 1) := by decide +kernel
theorem dX5_its_13 : decode cX5_its 13 = .ok (.iaload, 1) := by decide +kernel
theorem dX5_its_14 : decode cX5_its 14 = .ok (.ireturn, 1) := by decide +kernel
theorem dX5_lay_0 : decode cX5_lay 0 = .ok (.aload_n 0, 1) := by decide +kernel
theorem dX5_lay_1 : decode cX5_lay 1 = .ok (.getfield 7, 3) := by decide +kernel
theorem dX5_lay_4 : decode cX5_lay 4 = .ok (.bipush 71, 2) := by decide +kernel
theorem dX5_lay_6 : decode cX5_lay 6 = .ok (.bipush 8, 2) := by decide +kernel
theorem dX5_lay_8 : decode cX5_lay 8 = .ok (.iload_n 1, 1) := by decide +kernel
theorem dX5_lay_9 : decode cX5_lay 9 = .ok (.imul, 1) := by decide +kernel
theorem dX5_lay_10 : decode cX5_lay 10 = .ok (.iadd, 1) := by decide +kernel
theorem dX5_lay_11 : decode cX5_lay 11 = .ok (.iload_n 2, 1) := by decide +kernel
theorem dX5_lay_12 : decode cX5_lay 12 = .ok (.iadd, 1) := by decide +kernel
theorem dX5_lay_13 : decode cX5_lay 13 = .ok (.iload_n 3, 1) := by decide +kernel
theorem dX5_lay_14 : decode cX5_lay 14 = .ok (.iastore, 1) := by decide +kernel
theorem dX5_lay_15 : decode cX5_lay 15 = .ok (.return_, 1) := by decide +kernel
set_option maxRecDepth 20000 in
theorem ggX5_isLanding_X5_in : GoodIn wsX5_isLanding wsX5_in := goodIn_r _ [5] (by decide +kernel) (by decide +kernel)
set_option maxRecDepth 20000 in
theorem gX5_isLanding_X5_in : GoodIn wsX5_isLanding (va_wsS RX5 32 yX5_in wsX5_in) := goodIn_app (goodIn_of _ (by decide +kernel)) ggX5_isLanding_X5_in
theorem dX5_isLanding_0 : decode cX5_isLanding 0 = .ok (.iload_n 1, 1) := by decide +kernel
theorem dX5_isLanding_1 : decode cX5_isLanding 1 = .ok (.i2l, 1) := by decide +kernel
theorem dX5_isLanding_2 : decode cX5_isLanding 2 = .ok (.iconst 0, 1) := by decide +kernel
theorem dX5_isLanding_3 : decode cX5_isLanding 3 = .ok (.aload_n 0, 1) := by decide +kernel
theorem dX5_isLanding_4 : decode cX5_isLanding 4 = .ok (.getfield 7, 3) := by decide +kernel
theorem dX5_isLanding_7 : decode cX5_isLanding 7 = .ok (.bipush 8, 2) := by decide +kernel
theorem dX5_isLanding_9 : decode cX5_isLanding 9 = .ok (.iaload, 1) := by decide +kernel
theorem dX5_isLanding_10 : decode cX5_isLanding 10 = .ok (.iconst 1, 1) := by decide +kernel
theorem dX5_isLanding_11 : decode cX5_isLanding 11 = .ok (.isub, 1) := by decide +kernel
theorem dX5_isLanding_12 : decode cX5_isLanding 12 = .ok (.invokestatic 32, 3) := by decide +kernel
theorem dX5_isLanding_15 : decode cX5_isLanding 15 = .ok (.ireturn, 1) := by decide +kernel
theorem dX5_remember_0 : decode cX5_remember 0 = .ok (.iconst 0, 1) := by decide +kernel
theorem dX5_remember_1 : decode cX5_remember 1 = .ok (.istore_n 1, 1) := by decide +kernel
theorem dX5_remember_2 : decode cX5_remember 2 = .ok (.iload_n 1, 1) := by decide +kernel
theorem dX5_remember_3 : decode cX5_remember 3 = .ok (.sipush 135, 3) := by decide +kernel
theorem dX5_remember_6 : decode cX5_remember 6 = .ok (.if_icmp .ge 21, 3) := by decide +kernel
theorem dX5_remember_9 : decode cX5_remember 9 = .ok (.aload_n 0, 1) := by decide +kernel
theorem dX5_remember_10 : decode cX5_remember 10 = .ok (.getfield 16, 3) := by decide +kernel
theorem dX5_remember_13 : decode cX5_remember 13 = .ok (.iload_n 1, 1) := by decide +kernel
theorem dX5_remember_14 : decode cX5_remember 14 = .ok (.aload_n 0, 1) := by decide +kernel
theorem dX5_remember_15 : decode cX5_remember 15 = .ok (.getfield 7, 3) := by decide +kernel
theorem dX5_remember_18 : decode cX5_remember 18 = .ok (.iload_n 1, 1) := by decide +kernel
theorem dX5_remember_19 : decode cX5_remember 19 = .ok (.iaload, 1) := by decide +kernel
theorem dX5_remember_20 : decode cX5_remember 20 = .ok (.iastore, 1) := by decide +kernel
theorem dX5_remember_21 : decode cX5_remember 21 = .ok (.iinc 1 1, 3) := by decide +kernel
theorem dX5_remember_24 : decode cX5_remember 24 = .ok (.goto (-22), 3) := by decide +kernel
theorem dX5_remember_27 : decode cX5_remember 27 = .ok (.return_, 1) := by decide +kernel
theorem dX5_record_0 : decode cX5_record 0 = .ok (.iload_n 1, 1) := by decide +kernel
theorem dX5_record_1 : decode cX5_record 1 = .ok (.ifCond .ge 5, 3) := by decide +kernel
theorem dX5_record_4 : decode cX5_record 4 = .ok (.iload_n 1, 1) := by decide +kernel
theorem dX5_record_5 : decode cX5_record 5 = .ok (.ireturn, 1) := by decide +kernel
theorem dX5_record_6 : decode cX5_record 6 = .ok (.aload_n 0, 1) := by decide +kernel
theorem dX5_record_7 : decode cX5_record 7 = .ok (.getfield 36, 3) := by decide +kernel
theorem dX5_record_10 : decode cX5_record 10 = .ok (.bipush 6, 2) := by decide +kernel
theorem dX5_record_12 : decode cX5_record 12 = .ok (.if_icmp .ne 44, 3) := by decide +kernel
theorem dX5_record_15 : decode cX5_record 15 = .ok (.iconst 0, 1) := by decide +kernel
theorem dX5_record_16 : decode cX5_record 16 = .ok (.istore_n 2, 1) := by decide +kernel
theorem dX5_record_17 : decode cX5_record 17 = .ok (.iload_n 2, 1) := by decide +kernel
theorem dX5_record_18 : decode cX5_record 18 = .ok (.sipush 675, 3) := by decide +kernel
theorem dX5_record_21 : decode cX5_record 21 = .ok (.if_icmp .ge 25, 3) := by decide +kernel
theorem dX5_record_24 : decode cX5_record 24 = .ok (.aload_n 0, 1) := by decide +kernel
theorem dX5_record_25 : decode cX5_record 25 = .ok (.getfield 13, 3) := by decide +kernel
theorem dX5_record_28 : decode cX5_record 28 = .ok (.iload_n 2, 1) := by decide +kernel
theorem dX5_record_29 : decode cX5_record 29 = .ok (.aload_n 0, 1) := by decide +kernel
theorem dX5_record_30 : decode cX5_record 30 = .ok (.getfield 13, 3) := by decide +kernel
theorem dX5_record_33 : decode cX5_record 33 = .ok (.sipush 135, 3) := by decide +kernel
theorem dX5_record_36 : decode cX5_record 36 = .ok (.iload_n 2, 1) := by decide +kernel
theorem dX5_record_37 : decode cX5_record 37 = .ok (.iadd, 1) := by decide +kernel
theorem dX5_record_38 : decode cX5_record 38 = .ok (.iaload, 1) := by decide +kernel
theorem dX5_record_39 : decode cX5_record 39 = .ok (.iastore, 1) := by decide +kernel
theorem dX5_record_40 : decode cX5_record 40 = .ok (.iinc 2 1, 3) := by decide +kernel
theorem dX5_record_43 : decode cX5_record 43 = .ok (.goto (-26), 3) := by decide +kernel
theorem dX5_record_46 : decode cX5_record 46 = .ok (.aload_n 0, 1) := by decide +kernel
theorem dX5_record_47 : decode cX5_record 47 = .ok (.dup, 1) := by decide +kernel
theorem dX5_record_48 : decode cX5_record 48 = .ok (.getfield 36, 3) := by decide +kernel
theorem dX5_record_51 : decode cX5_record 51 = .ok (.iconst 1, 1) := by decide +kernel
theorem dX5_record_52 : decode cX5_record 52 = .ok (.isub, 1) := by decide +kernel
theorem dX5_record_53 : decode cX5_record 53 = .ok (.putfield 36, 3) := by decide +kernel
theorem dX5_record_56 : decode cX5_record 56 = .ok (.iconst 0, 1) := by decide +kernel
theorem dX5_record_57 : decode cX5_record 57 = .ok (.istore_n 2, 1) := by decide +kernel
theorem dX5_record_58 : decode cX5_record 58 = .ok (.iload_n 2, 1) := by decide +kernel
theorem dX5_record_59 : decode cX5_record 59 = .ok (.sipush 135, 3) := by decide +kernel
theorem dX5_record_62 : decode cX5_record 62 = .ok (.if_icmp .ge 30, 3) := by decide +kernel
theorem dX5_record_65 : decode cX5_record 65 = .ok (.aload_n 0, 1) := by decide +kernel
theorem dX5_record_66 : decode cX5_record 66 = .ok (.getfield 13, 3) := by decide +kernel
theorem dX5_record_69 : decode cX5_record 69 = .ok (.sipush 135, 3) := by decide +kernel
theorem dX5_record_72 : decode cX5_record 72 = .ok (.aload_n 0, 1) := by decide +kernel
theorem dX5_record_73 : decode cX5_record 73 = .ok (.getfield 36, 3) := by decide +kernel
theorem dX5_record_76 : decode cX5_record 76 = .ok (.imul, 1) := by decide +kernel
theorem dX5_record_77 : decode cX5_record 77 = .ok (.iload_n 2, 1) := by decide +kernel
theorem dX5_record_78 : decode cX5_record 78 = .ok (.iadd, 1) := by decide +kernel
theorem dX5_record_79 : decode cX5_record 79 = .ok (.aload_n 0, 1) := by decide +kernel
theorem dX5_record_80 : decode cX5_record 80 = .ok (.getfield 16, 3) := by decide +kernel
theorem dX5_record_83 : decode cX5_record 83 = .ok (.iload_n 2, 1) := by decide +kernel
theorem dX5_record_84 : decode cX5_record 84 = .ok (.iaload, 1) := by decide +kernel
theorem dX5_record_85 : decode cX5_record 85 = .ok (.iastore, 1) := by decide +kernel
theorem dX5_record_86 : decode cX5_record 86 = .ok (.iinc 2 1, 3) := by decide +kernel
theorem dX5_record_89 : decode cX5_record 89 = .ok (.goto (-31), 3) := by decide +kernel
theorem dX5_record_92 : decode cX5_record 92 = .ok (.aload_n 0, 1) := by decide +kernel
theorem dX5_record_93 : decode cX5_record 93 = .ok (.dup, 1) := by decide +kernel
theorem dX5_record_94 : decode cX5_record 94 = .ok (.getfield 36, 3) := by decide +kernel
theorem dX5_record_97 : decode cX5_record 97 = .ok (.iconst 1, 1) := by decide +kernel
theorem dX5_record_98 : decode cX5_record 98 = .ok (.iadd, 1) := by decide +kernel
theorem dX5_record_99 : decode cX5_record 99 = .ok (.putfield 36, 3) := by decide +kernel
theorem dX5_record_102 : decode cX5_record 102 = .ok (.iload_n 1, 1) := by decide +kernel
theorem dX5_record_103 : decode cX5_record 103 = .ok (.ireturn, 1) := by decide +kernel
theorem dX5_undo_0 : decode cX5_undo 0 = .ok (.aload_n 0, 1) := by decide +kernel
theorem dX5_undo_1 : decode cX5_undo 1 = .ok (.getfield 36, 3) := by decide +kernel
theorem dX5_undo_4 : decode cX5_undo 4 = .ok (.ifCond .ne 6, 3) := by decide +kernel
theorem dX5_undo_7 : decode cX5_undo 7 = .ok (.bipush (-5), 2) := by decide +kernel
theorem dX5_undo_9 : decode cX5_undo 9 = .ok (.ireturn, 1) := by decide +kernel
theorem dX5_undo_10 : decode cX5_undo 10 = .ok (.aload_n 0, 1) := by decide +kernel
theorem dX5_undo_11 : decode cX5_undo 11 = .ok (.dup, 1) := by decide +kernel
theorem dX5_undo_12 : decode cX5_undo 12 = .ok (.getfield 36, 3) := by decide +kernel
theorem dX5_undo_15 : decode cX5_undo 15 = .ok (.iconst 1, 1) := by decide +kernel
theorem dX5_undo_16 : decode cX5_undo 16 = .ok (.isub, 1) := by decide +kernel
theorem dX5_undo_17 : decode cX5_undo 17 = .ok (.putfield 36, 3) := by decide +kernel
theorem dX5_undo_20 : decode cX5_undo 20 = .ok (.iconst 0, 1) := by decide +kernel
theorem dX5_undo_21 : decode cX5_undo 21 = .ok (.istore_n 1, 1) := by decide +kernel
theorem dX5_undo_22 : decode cX5_undo 22 = .ok (.iload_n 1, 1) := by decide +kernel
theorem dX5_undo_23 : decode cX5_undo 23 = .ok (.sipush 135, 3) := by decide +kernel
theorem dX5_undo_26 : decode cX5_undo 26 = .ok (.if_icmp .ge 30, 3) := by decide +kernel
theorem dX5_undo_29 : decode cX5_undo 29 = .ok (.aload_n 0, 1) := by decide +kernel
theorem dX5_undo_30 : decode cX5_undo 30 = .ok (.getfield 7, 3) := by decide +kernel
theorem dX5_undo_33 : decode cX5_undo 33 = .ok (.iload_n 1, 1) := by decide +kernel
theorem dX5_undo_34 : decode cX5_undo 34 = .ok (.aload_n 0, 1) := by decide +kernel
theorem dX5_undo_35 : decode cX5_undo 35 = .ok (.getfield 13, 3) := by decide +kernel
theorem dX5_undo_38 : decode cX5_undo 38 = .ok (.sipush 135, 3) := by decide +kernel
theorem dX5_undo_41 : decode cX5_undo 41 = .ok (.aload_n 0, 1) := by decide +kernel
theorem dX5_undo_42 : decode cX5_undo 42 = .ok (.getfield 36, 3) := by decide +kernel
theorem dX5_undo_45 : decode cX5_undo 45 = .ok (.imul, 1) := by decide +kernel
theorem dX5_undo_46 : decode cX5_undo 46 = .ok (.iload_n 1, 1) := by decide +kernel
theorem dX5_undo_47 : decode cX5_undo 47 = .ok (.iadd, 1) := by decide +kernel
theorem dX5_undo_48 : decode cX5_undo 48 = .ok (.iaload, 1) := by decide +kernel
theorem dX5_undo_49 : decode cX5_undo 49 = .ok (.iastore, 1) := by decide +kernel
theorem dX5_undo_50 : decode cX5_undo 50 = .ok (.iinc 1 1, 3) := by decide +kernel
theorem dX5_undo_53 : decode cX5_undo 53 = .ok (.goto (-31), 3) := by decide +kernel
theorem dX5_undo_56 : decode cX5_undo 56 = .ok (.aload_n 0, 1) := by decide +kernel
theorem dX5_undo_57 : decode cX5_undo 57 = .ok (.getfield 36, 3) := by decide +kernel
theorem dX5_undo_60 : decode cX5_undo 60 = .ok (.ireturn, 1) := by decide +kernel
set_option maxRecDepth 20000 in
theorem ggX5_save_X5_in : GoodIn wsX5_save wsX5_in := goodIn_r _ [7] (by decide +kernel) (by decide +kernel)
set_option maxRecDepth 20000 in
theorem gX5_save_X5_in : GoodIn wsX5_save (va_wsS RX5 32 yX5_in wsX5_in) := goodIn_app (goodIn_of _ (by decide +kernel)) ggX5_save_X5_in
theorem dX5_save_0 : decode cX5_save 0 = .ok (.iload_n 1, 1) := by decide +kernel
theorem dX5_save_1 : decode cX5_save 1 = .ok (.i2l, 1) := by decide +kernel
theorem dX5_save_2 : decode cX5_save 2 = .ok (.iconst 0, 1) := by decide +kernel
theorem dX5_save_3 : decode cX5_save 3 = .ok (.iconst 1, 1) := by decide +kernel
theorem dX5_save_4 : decode cX5_save 4 = .ok (.invokestatic 32, 3) := by decide +kernel
theorem dX5_save_7 : decode cX5_save 7 = .ok (.ifCond .ne 6, 3) := by decide +kernel
theorem dX5_save_10 : decode cX5_save 10 = .ok (.bipush (-2), 2) := by decide +kernel
theorem dX5_save_12 : decode cX5_save 12 = .ok (.ireturn, 1) := by decide +kernel
theorem dX5_save_13 : decode cX5_save 13 = .ok (.iconst 0, 1) := by decide +kernel
theorem dX5_save_14 : decode cX5_save 14 = .ok (.istore_n 2, 1) := by decide +kernel
theorem dX5_save_15 : decode cX5_save 15 = .ok (.iload_n 2, 1) := by decide +kernel
theorem dX5_save_16 : decode cX5_save 16 = .ok (.sipush 135, 3) := by decide +kernel
theorem dX5_save_19 : decode cX5_save 19 = .ok (.if_icmp .ge 27, 3) := by decide +kernel
theorem dX5_save_22 : decode cX5_save 22 = .ok (.aload_n 0, 1) := by decide +kernel
theorem dX5_save_23 : decode cX5_save 23 = .ok (.getfield 19, 3) := by decide +kernel
theorem dX5_save_26 : decode cX5_save 26 = .ok (.sipush 135, 3) := by decide +kernel
theorem dX5_save_29 : decode cX5_save 29 = .ok (.iload_n 1, 1) := by decide +kernel
theorem dX5_save_30 : decode cX5_save 30 = .ok (.imul, 1) := by decide +kernel
theorem dX5_save_31 : decode cX5_save 31 = .ok (.iload_n 2, 1) := by decide +kernel
theorem dX5_save_32 : decode cX5_save 32 = .ok (.iadd, 1) := by decide +kernel
theorem dX5_save_33 : decode cX5_save 33 = .ok (.aload_n 0, 1) := by decide +kernel
theorem dX5_save_34 : decode cX5_save 34 = .ok (.getfield 7, 3) := by decide +kernel
theorem dX5_save_37 : decode cX5_save 37 = .ok (.iload_n 2, 1) := by decide +kernel
theorem dX5_save_38 : decode cX5_save 38 = .ok (.iaload, 1) := by decide +kernel
theorem dX5_save_39 : decode cX5_save 39 = .ok (.iastore, 1) := by decide +kernel
theorem dX5_save_40 : decode cX5_save 40 = .ok (.iinc 2 1, 3) := by decide +kernel
theorem dX5_save_43 : decode cX5_save 43 = .ok (.goto (-28), 3) := by decide +kernel
theorem dX5_save_46 : decode cX5_save 46 = .ok (.aload_n 0, 1) := by decide +kernel
theorem dX5_save_47 : decode cX5_save 47 = .ok (.getfield 22, 3) := by decide +kernel
theorem dX5_save_50 : decode cX5_save 50 = .ok (.iload_n 1, 1) := by decide +kernel
theorem dX5_save_51 : decode cX5_save 51 = .ok (.iconst 1, 1) := by decide +kernel
theorem dX5_save_52 : decode cX5_save 52 = .ok (.bastore, 1) := by decide +kernel
theorem dX5_save_53 : decode cX5_save 53 = .ok (.aload_n 0, 1) := by decide +kernel
theorem dX5_save_54 : decode cX5_save 54 = .ok (.getfield 7, 3) := by decide +kernel
theorem dX5_save_57 : decode cX5_save 57 = .ok (.bipush 8, 2) := by decide +kernel
theorem dX5_save_59 : decode cX5_save 59 = .ok (.iaload, 1) := by decide +kernel
theorem dX5_save_60 : decode cX5_save 60 = .ok (.ireturn, 1) := by decide +kernel
set_option maxRecDepth 20000 in
theorem ggX5_restore_X5_in : GoodIn wsX5_restore wsX5_in := goodIn_r _ [7] (by decide +kernel) (by decide +kernel)
set_option maxRecDepth 20000 in
theorem gX5_restore_X5_in : GoodIn wsX5_restore (va_wsS RX5 32 yX5_in wsX5_in) := goodIn_app (goodIn_of _ (by decide +kernel)) ggX5_restore_X5_in
set_option maxRecDepth 20000 in
theorem ggX5_restore_X5_remember : GoodIn wsX5_restore wsX5_remember := goodIn_r _ [11, 12, 2, 19, 20, 21, 22, 23, 24, 25, 26, 27, 28, 29, 30, 31, 32] (by decide +kernel) (by decide +kernel)
set_option maxRecDepth 20000 in
theorem gX5_restore_X5_remember : GoodIn wsX5_restore (wsV RX5 40 RX5 yX5_remember wsX5_remember) := goodIn_app (goodIn_of _ (by decide +kernel)) ggX5_restore_X5_remember
set_option maxRecDepth 20000 in
theorem ggX5_restore_X5_record : GoodIn wsX5_restore wsX5_record := goodIn_r _ [16, 17, 18, 12, 19, 20, 21, 22, 23, 24, 25, 26, 27, 28, 29, 30, 31, 32] (by decide +kernel) (by decide +kernel)
set_option maxRecDepth 20000 in
theorem gX5_restore_X5_record : GoodIn wsX5_restore (wsV RX5 43 RX5 yX5_record wsX5_record) := goodIn_app (goodIn_of _ (by decide +kernel)) ggX5_restore_X5_record
theorem dX5_restore_0 : decode cX5_restore 0 = .ok (.iload_n 1, 1) := by decide +kernel
theorem dX5_restore_1 : decode cX5_restore 1 = .ok (.i2l, 1) := by decide +kernel
theorem dX5_restore_2 : decode cX5_restore 2 = .ok (.iconst 0, 1) := by decide +kernel
theorem dX5_restore_3 : decode cX5_restore 3 = .ok (.iconst 1, 1) := by decide +kernel
theorem dX5_restore_4 : decode cX5_restore 4 = .ok (.invokestatic 32, 3) := by decide +kernel
theorem dX5_restore_7 : decode cX5_restore 7 = .ok (.ifCond .ne 6, 3) := by decide +kernel
theorem dX5_restore_10 : decode cX5_restore 10 = .ok (.bipush (-2), 2) := by decide +kernel
theorem dX5_restore_12 : decode cX5_restore 12 = .ok (.ireturn, 1) := by decide +kernel
theorem dX5_restore_13 : decode cX5_restore 13 = .ok (.aload_n 0, 1) := by decide +kernel
theorem dX5_restore_14 : decode cX5_restore 14 = .ok (.getfield 22, 3) := by decide +kernel
theorem dX5_restore_17 : decode cX5_restore 17 = .ok (.iload_n 1, 1) := by decide +kernel
theorem dX5_restore_18 : decode cX5_restore 18 = .ok (.baload, 1) := by decide +kernel
theorem dX5_restore_19 : decode cX5_restore 19 = .ok (.ifCond .ne 6, 3) := by decide +kernel
theorem dX5_restore_22 : decode cX5_restore 22 = .ok (.bipush (-5), 2) := by decide +kernel
theorem dX5_restore_24 : decode cX5_restore 24 = .ok (.ireturn, 1) := by decide +kernel
theorem dX5_restore_25 : decode cX5_restore 25 = .ok (.aload_n 0, 1) := by decide +kernel
theorem dX5_restore_26 : decode cX5_restore 26 = .ok (.invokevirtual 40, 3) := by decide +kernel
theorem dX5_restore_29 : decode cX5_restore 29 = .ok (.iconst 0, 1) := by decide +kernel
theorem dX5_restore_30 : decode cX5_restore 30 = .ok (.istore_n 2, 1) := by decide +kernel
theorem dX5_restore_31 : decode cX5_restore 31 = .ok (.iload_n 2, 1) := by decide +kernel
theorem dX5_restore_32 : decode cX5_restore 32 = .ok (.sipush 135, 3) := by decide +kernel
theorem dX5_restore_35 : decode cX5_restore 35 = .ok (.if_icmp .ge 27, 3) := by decide +kernel
theorem dX5_restore_38 : decode cX5_restore 38 = .ok (.aload_n 0, 1) := by decide +kernel
theorem dX5_restore_39 : decode cX5_restore 39 = .ok (.getfield 7, 3) := by decide +kernel
theorem dX5_restore_42 : decode cX5_restore 42 = .ok (.iload_n 2, 1) := by decide +kernel
theorem dX5_restore_43 : decode cX5_restore 43 = .ok (.aload_n 0, 1) := by decide +kernel
theorem dX5_restore_44 : decode cX5_restore 44 = .ok (.getfield 19, 3) := by decide +kernel
theorem dX5_restore_47 : decode cX5_restore 47 = .ok (.sipush 135, 3) := by decide +kernel
theorem dX5_restore_50 : decode cX5_restore 50 = .ok (.iload_n 1, 1) := by decide +kernel
theorem dX5_restore_51 : decode cX5_restore 51 = .ok (.imul, 1) := by decide +kernel
theorem dX5_restore_52 : decode cX5_restore 52 = .ok (.iload_n 2, 1) := by decide +kernel
theorem dX5_restore_53 : decode cX5_restore 53 = .ok (.iadd, 1) := by decide +kernel
theorem dX5_restore_54 : decode cX5_restore 54 = .ok (.iaload, 1) := by decide +kernel
theorem dX5_restore_55 : decode cX5_restore 55 = .ok (.iastore, 1) := by decide +kernel
theorem dX5_restore_56 : decode cX5_restore 56 = .ok (.iinc 2 1, 3) := by decide +kernel
theorem dX5_restore_59 : decode cX5_restore 59 = .ok (.goto (-28), 3) := by decide +kernel
theorem dX5_restore_62 : decode cX5_restore 62 = .ok (.aload_n 0, 1) := by decide +kernel
theorem dX5_restore_63 : decode cX5_restore 63 = .ok (.aload_n 0, 1) := by decide +kernel
theorem dX5_restore_64 : decode cX5_restore 64 = .ok (.getfield 7, 3) := by decide +kernel
theorem dX5_restore_67 : decode cX5_restore 67 = .ok (.bipush 8, 2) := by decide +kernel
theorem dX5_restore_69 : decode cX5_restore 69 = .ok (.iaload, 1) := by decide +kernel
theorem dX5_restore_70 : decode cX5_restore 70 = .ok (.invokevirtual 43, 3) := by decide +kernel
theorem dX5_restore_73 : decode cX5_restore 73 = .ok (.ireturn, 1) := by decide +kernel
set_option maxRecDepth 20000 in
theorem ggX5_taken_X5_its : GoodIn wsX5_taken wsX5_its := goodIn_r _ [6, 1, 7, 8, 9, 10, 11, 12, 13, 14, 15, 16, 17, 18, 19, 20] (by decide +kernel) (by decide +kernel)
set_option maxRecDepth 20000 in
theorem gX5_taken_X5_its : GoodIn wsX5_taken (wsV RX5 47 RX5 yX5_its wsX5_its) := goodIn_app (goodIn_of _ (by decide +kernel)) ggX5_taken_X5_its
theorem dX5_taken_0 : decode cX5_taken 0 = .ok (.bipush (-6), 2) := by decide +kernel
theorem dX5_taken_2 : decode cX5_taken 2 = .ok (.istore_n 1, 1) := by decide +kernel
theorem dX5_taken_3 : decode cX5_taken 3 = .ok (.iconst 0, 1) := by decide +kernel
theorem dX5_taken_4 : decode cX5_taken 4 = .ok (.istore_n 2, 1) := by decide +kernel
theorem dX5_taken_5 : decode cX5_taken 5 = .ok (.iload_n 2, 1) := by decide +kernel
theorem dX5_taken_6 : decode cX5_taken 6 = .ok (.aload_n 0, 1) := by decide +kernel
theorem dX5_taken_7 : decode cX5_taken 7 = .ok (.getfield 7, 3) := by decide +kernel
theorem dX5_taken_10 : decode cX5_taken 10 = .ok (.bipush 8, 2) := by decide +kernel
theorem dX5_taken_12 : decode cX5_taken 12 = .ok (.iaload, 1) := by decide +kernel
theorem dX5_taken_13 : decode cX5_taken 13 = .ok (.if_icmp .ge 65, 3) := by decide +kernel
theorem dX5_taken_16 : decode cX5_taken 16 = .ok (.aload_n 0, 1) := by decide +kernel
theorem dX5_taken_17 : decode cX5_taken 17 = .ok (.iload_n 2, 1) := by decide +kernel
theorem dX5_taken_18 : decode cX5_taken 18 = .ok (.iconst 0, 1) := by decide +kernel
theorem dX5_taken_19 : decode cX5_taken 19 = .ok (.invokevirtual 47, 3) := by decide +kernel
theorem dX5_taken_22 : decode cX5_taken 22 = .ok (.iconst 1, 1) := by decide +kernel
theorem dX5_taken_23 : decode cX5_taken 23 = .ok (.if_icmp .ne 16, 3) := by decide +kernel
theorem dX5_taken_26 : decode cX5_taken 26 = .ok (.aload_n 0, 1) := by decide +kernel
theorem dX5_taken_27 : decode cX5_taken 27 = .ok (.iload_n 2, 1) := by decide +kernel
theorem dX5_taken_28 : decode cX5_taken 28 = .ok (.iconst 3, 1) := by decide +kernel
theorem dX5_taken_29 : decode cX5_taken 29 = .ok (.invokevirtual 47, 3) := by decide +kernel
theorem dX5_taken_32 : decode cX5_taken 32 = .ok (.ifCond .ne 7, 3) := by decide +kernel
theorem dX5_taken_35 : decode cX5_taken 35 = .ok (.iconst 1, 1) := by decide +kernel
theorem dX5_taken_36 : decode cX5_taken 36 = .ok (.goto 4, 3) := by decide +kernel
theorem dX5_taken_39 : decode cX5_taken 39 = .ok (.iconst 0, 1) := by decide +kernel
theorem dX5_taken_40 : decode cX5_taken 40 = .ok (.istore_n 3, 1) := by decide +kernel
theorem dX5_taken_41 : decode cX5_taken 41 = .ok (.iload_n 3, 1) := by decide +kernel
theorem dX5_taken_42 : decode cX5_taken 42 = .ok (.ifCond .eq 28, 3) := by decide +kernel
theorem dX5_taken_45 : decode cX5_taken 45 = .ok (.iload_n 1, 1) := by decide +kernel
theorem dX5_taken_46 : decode cX5_taken 46 = .ok (.bipush (-6), 2) := by decide +kernel
theorem dX5_taken_48 : decode cX5_taken 48 = .ok (.if_icmp .eq 18, 3) := by decide +kernel
theorem dX5_taken_51 : decode cX5_taken 51 = .ok (.aload_n 0, 1) := by decide +kernel
theorem dX5_taken_52 : decode cX5_taken 52 = .ok (.iload_n 2, 1) := by decide +kernel
theorem dX5_taken_53 : decode cX5_taken 53 = .ok (.iconst 1, 1) := by decide +kernel
theorem dX5_taken_54 : decode cX5_taken 54 = .ok (.invokevirtual 47, 3) := by decide +kernel
theorem dX5_taken_57 : decode cX5_taken 57 = .ok (.aload_n 0, 1) := by decide +kernel
theorem dX5_taken_58 : decode cX5_taken 58 = .ok (.iload_n 1, 1) := by decide +kernel
theorem dX5_taken_59 : decode cX5_taken 59 = .ok (.iconst 1, 1) := by decide +kernel
theorem dX5_taken_60 : decode cX5_taken 60 = .ok (.invokevirtual 47, 3) := by decide +kernel
theorem dX5_taken_63 : decode cX5_taken 63 = .ok (.if_icmp .ge 7, 3) := by decide +kernel
theorem dX5_taken_66 : decode cX5_taken 66 = .ok (.iload_n 2, 1) := by decide +kernel
theorem dX5_taken_67 : decode cX5_taken 67 = .ok (.goto 4, 3) := by decide +kernel
theorem dX5_taken_70 : decode cX5_taken 70 = .ok (.iload_n 1, 1) := by decide +kernel
theorem dX5_taken_71 : decode cX5_taken 71 = .ok (.istore_n 1, 1) := by decide +kernel
theorem dX5_taken_72 : decode cX5_taken 72 = .ok (.iinc 2 1, 3) := by decide +kernel
theorem dX5_taken_75 : decode cX5_taken 75 = .ok (.goto (-70), 3) := by decide +kernel
theorem dX5_taken_78 : decode cX5_taken 78 = .ok (.iload_n 1, 1) := by decide +kernel
theorem dX5_taken_79 : decode cX5_taken 79 = .ok (.ireturn, 1) := by decide +kernel
theorem dX5_note_0 : decode cX5_note 0 = .ok (.bipush 70, 2) := by decide +kernel
theorem dX5_note_2 : decode cX5_note 2 = .ok (.istore_n 3, 1) := by decide +kernel
theorem dX5_note_3 : decode cX5_note 3 = .ok (.iload_n 3, 1) := by decide +kernel
theorem dX5_note_4 : decode cX5_note 4 = .ok (.bipush 14, 2) := by decide +kernel
theorem dX5_note_6 : decode cX5_note 6 = .ok (.if_icmp .lt 23, 3) := by decide +kernel
theorem dX5_note_9 : decode cX5_note 9 = .ok (.aload_n 0, 1) := by decide +kernel
theorem dX5_note_10 : decode cX5_note 10 = .ok (.getfield 7, 3) := by decide +kernel
theorem dX5_note_13 : decode cX5_note 13 = .ok (.iload_n 3, 1) := by decide +kernel
theorem dX5_note_14 : decode cX5_note 14 = .ok (.aload_n 0, 1) := by decide +kernel
theorem dX5_note_15 : decode cX5_note 15 = .ok (.getfield 7, 3) := by decide +kernel
theorem dX5_note_18 : decode cX5_note 18 = .ok (.iload_n 3, 1) := by decide +kernel
theorem dX5_note_19 : decode cX5_note 19 = .ok (.iconst 3, 1) := by decide +kernel
theorem dX5_note_20 : decode cX5_note 20 = .ok (.isub, 1) := by decide +kernel
theorem dX5_note_21 : decode cX5_note 21 = .ok (.iaload, 1) := by decide +kernel
theorem dX5_note_22 : decode cX5_note 22 = .ok (.iastore, 1) := by decide +kernel
theorem dX5_note_23 : decode cX5_note 23 = .ok (.iinc 3 (-1), 3) := by decide +kernel
theorem dX5_note_26 : decode cX5_note 26 = .ok (.goto (-23), 3) := by decide +kernel
theorem dX5_note_29 : decode cX5_note 29 = .ok (.aload_n 0, 1) := by decide +kernel
theorem dX5_note_30 : decode cX5_note 30 = .ok (.getfield 7, 3) := by decide +kernel
theorem dX5_note_33 : decode cX5_note 33 = .ok (.bipush 11, 2) := by decide +kernel
theorem dX5_note_35 : decode cX5_note 35 = .ok (.iload_n 1, 1) := by decide +kernel
theorem dX5_note_36 : decode cX5_note 36 = .ok (.iastore, 1) := by decide +kernel
theorem dX5_note_37 : decode cX5_note 37 = .ok (.aload_n 0, 1) := by decide +kernel
theorem dX5_note_38 : decode cX5_note 38 = .ok (.getfield 7, 3) := by decide +kernel
theorem dX5_note_41 : decode cX5_note 41 = .ok (.bipush 12, 2) := by decide +kernel
theorem dX5_note_43 : decode cX5_note 43 = .ok (.iload_n 2, 1) := by decide +kernel
theorem dX5_note_44 : decode cX5_note 44 = .ok (.iastore, 1) := by decide +kernel
theorem dX5_note_45 : decode cX5_note 45 = .ok (.aload_n 0, 1) := by decide +kernel
theorem dX5_note_46 : decode cX5_note 46 = .ok (.getfield 7, 3) := by decide +kernel
theorem dX5_note_49 : decode cX5_note 49 = .ok (.bipush 13, 2) := by decide +kernel
theorem dX5_note_51 : decode cX5_note 51 = .ok (.aload_n 0, 1) := by decide +kernel
theorem dX5_note_52 : decode cX5_note 52 = .ok (.getfield 7, 3) := by decide +kernel
theorem dX5_note_55 : decode cX5_note 55 = .ok (.bipush 7, 2) := by decide +kernel
theorem dX5_note_57 : decode cX5_note 57 = .ok (.iaload, 1) := by decide +kernel
theorem dX5_note_58 : decode cX5_note 58 = .ok (.iastore, 1) := by decide +kernel
theorem dX5_note_59 : decode cX5_note 59 = .ok (.aload_n 0, 1) := by decide +kernel
theorem dX5_note_60 : decode cX5_note 60 = .ok (.getfield 7, 3) := by decide +kernel
theorem dX5_note_63 : decode cX5_note 63 = .ok (.bipush 10, 2) := by decide +kernel
theorem dX5_note_65 : decode cX5_note 65 = .ok (.dup2, 1) := by decide +kernel
theorem dX5_note_66 : decode cX5_note 66 = .ok (.iaload, 1) := by decide +kernel
theorem dX5_note_67 : decode cX5_note 67 = .ok (.aload_n 0, 1) := by decide +kernel
theorem dX5_note_68 : decode cX5_note 68 = .ok (.getfield 7, 3) := by decide +kernel
theorem dX5_note_71 : decode cX5_note 71 = .ok (.bipush 10, 2) := by decide +kernel
theorem dX5_note_73 : decode cX5_note 73 = .ok (.iaload, 1) := by decide +kernel
theorem dX5_note_74 : decode cX5_note 74 = .ok (.bipush 20, 2) := by decide +kernel
theorem dX5_note_76 : decode cX5_note 76 = .ok (.if_icmp .ge 7, 3) := by decide +kernel
theorem dX5_note_79 : decode cX5_note 79 = .ok (.iconst 1, 1) := by decide +kernel
theorem dX5_note_80 : decode cX5_note 80 = .ok (.goto 4, 3) := by decide +kernel
theorem dX5_note_83 : decode cX5_note 83 = .ok (.iconst 0, 1) := by decide +kernel
theorem dX5_note_84 : decode cX5_note 84 = .ok (.iadd, 1) := by decide +kernel
theorem dX5_note_85 : decode cX5_note 85 = .ok (.iastore, 1) := by decide +kernel
theorem dX5_note_86 : decode cX5_note 86 = .ok (.return_, 1) := by decide +kernel
theorem dX5_held_0 : decode cX5_held 0 = .ok (.iload_n 0, 1) := by decide +kernel
theorem dX5_held_1 : decode cX5_held 1 = .ok (.ldc 51, 2) := by decide +kernel
theorem dX5_held_3 : decode cX5_held 3 = .ok (.if_icmp .ge 7, 3) := by decide +kernel
theorem dX5_held_6 : decode cX5_held 6 = .ok (.iload_n 0, 1) := by decide +kernel
theorem dX5_held_7 : decode cX5_held 7 = .ok (.goto 5, 3) := by decide +kernel
theorem dX5_held_10 : decode cX5_held 10 = .ok (.ldc 51, 2) := by decide +kernel
theorem dX5_held_12 : decode cX5_held 12 = .ok (.ireturn, 1) := by decide +kernel
set_option maxRecDepth 20000 in
theorem ggX5_change_X5_taken : GoodIn wsX5_change wsX5_taken := goodIn_r _ [6, 1, 7, 8, 9, 5, 10, 23, 24, 25, 26, 27, 28, 29, 30, 31, 32, 33, 34, 35, 36] (by decide +kernel) (by decide +kernel)
set_option maxRecDepth 20000 in
theorem gX5_change_X5_taken : GoodIn wsX5_change (wsV RX5 52 RX5 yX5_taken wsX5_taken) := goodIn_app (goodIn_of _ (by decide +kernel)) ggX5_change_X5_taken
set_option maxRecDepth 20000 in
theorem ggX5_change_X5_lay : GoodIn wsX5_change wsX5_lay := goodIn_r _ [14, 1, 23, 24, 25, 26, 27, 28, 29, 30, 31, 32, 33, 34, 35, 36] (by decide +kernel) (by decide +kernel)
set_option maxRecDepth 20000 in
theorem gX5_change_X5_lay : GoodIn wsX5_change (wsV RX5 56 RX5 yX5_lay wsX5_lay) := goodIn_app (goodIn_of _ (by decide +kernel)) ggX5_change_X5_lay
set_option maxRecDepth 20000 in
theorem ggX5_change_X5_its : GoodIn wsX5_change wsX5_its := goodIn_r _ [10, 1, 23, 24, 25, 26, 27, 28, 29, 30, 31, 32, 33, 34, 35, 36] (by decide +kernel) (by decide +kernel)
set_option maxRecDepth 20000 in
theorem gX5_change_X5_its : GoodIn wsX5_change (wsV RX5 47 RX5 yX5_its wsX5_its) := goodIn_app (goodIn_of _ (by decide +kernel)) ggX5_change_X5_its
set_option maxRecDepth 20000 in
theorem ggX5_change_X5_held : GoodIn wsX5_change wsX5_held := goodIn_r _ [17, 18] (by decide +kernel) (by decide +kernel)
set_option maxRecDepth 20000 in
theorem gX5_change_X5_held : GoodIn wsX5_change (va_wsS RX5 60 yX5_held wsX5_held) := goodIn_app (goodIn_of _ (by decide +kernel)) ggX5_change_X5_held
set_option maxRecDepth 20000 in
theorem ggX5_change_X5_note : GoodIn wsX5_change wsX5_note := goodIn_r _ [22, 1, 23, 24, 25, 26, 27, 28, 29, 30, 31, 32, 33, 34, 35, 36] (by decide +kernel) (by decide +kernel)
set_option maxRecDepth 20000 in
theorem gX5_change_X5_note : GoodIn wsX5_change (wsV RX5 63 RX5 yX5_note wsX5_note) := goodIn_app (goodIn_of _ (by decide +kernel)) ggX5_change_X5_note
theorem dX5_change_0 : decode cX5_change 0 = .ok (.aload_n 0, 1) := by decide +kernel
theorem dX5_change_1 : decode cX5_change 1 = .ok (.invokevirtual 52, 3) := by decide +kernel
theorem dX5_change_4 : decode cX5_change 4 = .ok (.istore 5, 2) := by decide +kernel
theorem dX5_change_6 : decode cX5_change 6 = .ok (.aload_n 0, 1) := by decide +kernel
theorem dX5_change_7 : decode cX5_change 7 = .ok (.iload_n 1, 1) := by decide +kernel
theorem dX5_change_8 : decode cX5_change 8 = .ok (.iload_n 2, 1) := by decide +kernel
theorem dX5_change_9 : decode cX5_change 9 = .ok (.iload_n 3, 1) := by decide +kernel
theorem dX5_change_10 : decode cX5_change 10 = .ok (.invokevirtual 56, 3) := by decide +kernel
theorem dX5_change_13 : decode cX5_change 13 = .ok (.aload_n 0, 1) := by decide +kernel
theorem dX5_change_14 : decode cX5_change 14 = .ok (.iload_n 1, 1) := by decide +kernel
theorem dX5_change_15 : decode cX5_change 15 = .ok (.iconst 2, 1) := by decide +kernel
theorem dX5_change_16 : decode cX5_change 16 = .ok (.aload_n 0, 1) := by decide +kernel
theorem dX5_change_17 : decode cX5_change 17 = .ok (.iload_n 1, 1) := by decide +kernel
theorem dX5_change_18 : decode cX5_change 18 = .ok (.iconst 2, 1) := by decide +kernel
theorem dX5_change_19 : decode cX5_change 19 = .ok (.invokevirtual 47, 3) := by decide +kernel
theorem dX5_change_22 : decode cX5_change 22 = .ok (.aload_n 0, 1) := by decide +kernel
theorem dX5_change_23 : decode cX5_change 23 = .ok (.getfield 7, 3) := by decide +kernel
theorem dX5_change_26 : decode cX5_change 26 = .ok (.iload 4, 2) := by decide +kernel
theorem dX5_change_28 : decode cX5_change 28 = .ok (.iaload, 1) := by decide +kernel
theorem dX5_change_29 : decode cX5_change 29 = .ok (.iadd, 1) := by decide +kernel
theorem dX5_change_30 : decode cX5_change 30 = .ok (.invokestatic 60, 3) := by decide +kernel
theorem dX5_change_33 : decode cX5_change 33 = .ok (.invokevirtual 56, 3) := by decide +kernel
theorem dX5_change_36 : decode cX5_change 36 = .ok (.aload_n 0, 1) := by decide +kernel
theorem dX5_change_37 : decode cX5_change 37 = .ok (.iload_n 1, 1) := by decide +kernel
theorem dX5_change_38 : decode cX5_change 38 = .ok (.bipush 6, 2) := by decide +kernel
theorem dX5_change_40 : decode cX5_change 40 = .ok (.aload_n 0, 1) := by decide +kernel
theorem dX5_change_41 : decode cX5_change 41 = .ok (.iload_n 1, 1) := by decide +kernel
theorem dX5_change_42 : decode cX5_change 42 = .ok (.bipush 6, 2) := by decide +kernel
theorem dX5_change_44 : decode cX5_change 44 = .ok (.invokevirtual 47, 3) := by decide +kernel
theorem dX5_change_47 : decode cX5_change 47 = .ok (.iconst 1, 1) := by decide +kernel
theorem dX5_change_48 : decode cX5_change 48 = .ok (.iadd, 1) := by decide +kernel
theorem dX5_change_49 : decode cX5_change 49 = .ok (.invokevirtual 56, 3) := by decide +kernel
theorem dX5_change_52 : decode cX5_change 52 = .ok (.aload_n 0, 1) := by decide +kernel
theorem dX5_change_53 : decode cX5_change 53 = .ok (.iload 4, 2) := by decide +kernel
theorem dX5_change_55 : decode cX5_change 55 = .ok (.iload_n 1, 1) := by decide +kernel
theorem dX5_change_56 : decode cX5_change 56 = .ok (.invokevirtual 63, 3) := by decide +kernel
theorem dX5_change_59 : decode cX5_change 59 = .ok (.aload_n 0, 1) := by decide +kernel
theorem dX5_change_60 : decode cX5_change 60 = .ok (.iload_n 1, 1) := by decide +kernel
theorem dX5_change_61 : decode cX5_change 61 = .ok (.iconst 2, 1) := by decide +kernel
theorem dX5_change_62 : decode cX5_change 62 = .ok (.invokevirtual 47, 3) := by decide +kernel
theorem dX5_change_65 : decode cX5_change 65 = .ok (.aload_n 0, 1) := by decide +kernel
theorem dX5_change_66 : decode cX5_change 66 = .ok (.getfield 7, 3) := by decide +kernel
theorem dX5_change_69 : decode cX5_change 69 = .ok (.iconst 4, 1) := by decide +kernel
theorem dX5_change_70 : decode cX5_change 70 = .ok (.iaload, 1) := by decide +kernel
theorem dX5_change_71 : decode cX5_change 71 = .ok (.if_icmp .le 48, 3) := by decide +kernel
theorem dX5_change_74 : decode cX5_change 74 = .ok (.aload_n 0, 1) := by decide +kernel
theorem dX5_change_75 : decode cX5_change 75 = .ok (.iload_n 1, 1) := by decide +kernel
theorem dX5_change_76 : decode cX5_change 76 = .ok (.iconst 3, 1) := by decide +kernel
theorem dX5_change_77 : decode cX5_change 77 = .ok (.invokevirtual 47, 3) := by decide +kernel
theorem dX5_change_80 : decode cX5_change 80 = .ok (.ifCond .ne 39, 3) := by decide +kernel
theorem dX5_change_83 : decode cX5_change 83 = .ok (.aload_n 0, 1) := by decide +kernel
theorem dX5_change_84 : decode cX5_change 84 = .ok (.iload_n 1, 1) := by decide +kernel
theorem dX5_change_85 : decode cX5_change 85 = .ok (.iconst 3, 1) := by decide +kernel
theorem dX5_change_86 : decode cX5_change 86 = .ok (.iconst 1, 1) := by decide +kernel
theorem dX5_change_87 : decode cX5_change 87 = .ok (.invokevirtual 56, 3) := by decide +kernel
theorem dX5_change_90 : decode cX5_change 90 = .ok (.aload_n 0, 1) := by decide +kernel
theorem dX5_change_91 : decode cX5_change 91 = .ok (.iload_n 1, 1) := by decide +kernel
theorem dX5_change_92 : decode cX5_change 92 = .ok (.iconst 4, 1) := by decide +kernel
theorem dX5_change_93 : decode cX5_change 93 = .ok (.iconst 0, 1) := by decide +kernel
theorem dX5_change_94 : decode cX5_change 94 = .ok (.invokevirtual 56, 3) := by decide +kernel
theorem dX5_change_97 : decode cX5_change 97 = .ok (.aload_n 0, 1) := by decide +kernel
theorem dX5_change_98 : decode cX5_change 98 = .ok (.iload_n 1, 1) := by decide +kernel
theorem dX5_change_99 : decode cX5_change 99 = .ok (.bipush 7, 2) := by decide +kernel
theorem dX5_change_101 : decode cX5_change 101 = .ok (.aload_n 0, 1) := by decide +kernel
theorem dX5_change_102 : decode cX5_change 102 = .ok (.iload_n 1, 1) := by decide +kernel
theorem dX5_change_103 : decode cX5_change 103 = .ok (.bipush 7, 2) := by decide +kernel
theorem dX5_change_105 : decode cX5_change 105 = .ok (.invokevirtual 47, 3) := by decide +kernel
theorem dX5_change_108 : decode cX5_change 108 = .ok (.iconst 1, 1) := by decide +kernel
theorem dX5_change_109 : decode cX5_change 109 = .ok (.iadd, 1) := by decide +kernel
theorem dX5_change_110 : decode cX5_change 110 = .ok (.invokevirtual 56, 3) := by decide +kernel
theorem dX5_change_113 : decode cX5_change 113 = .ok (.aload_n 0, 1) := by decide +kernel
theorem dX5_change_114 : decode cX5_change 114 = .ok (.iconst 3, 1) := by decide +kernel
theorem dX5_change_115 : decode cX5_change 115 = .ok (.iload_n 1, 1) := by decide +kernel
theorem dX5_change_116 : decode cX5_change 116 = .ok (.invokevirtual 63, 3) := by decide +kernel
theorem dX5_change_119 : decode cX5_change 119 = .ok (.aload_n 0, 1) := by decide +kernel
theorem dX5_change_120 : decode cX5_change 120 = .ok (.getfield 7, 3) := by decide +kernel
theorem dX5_change_123 : decode cX5_change 123 = .ok (.bipush 9, 2) := by decide +kernel
theorem dX5_change_125 : decode cX5_change 125 = .ok (.dup2, 1) := by decide +kernel
theorem dX5_change_126 : decode cX5_change 126 = .ok (.iaload, 1) := by decide +kernel
theorem dX5_change_127 : decode cX5_change 127 = .ok (.aload_n 0, 1) := by decide +kernel
theorem dX5_change_128 : decode cX5_change 128 = .ok (.invokevirtual 52, 3) := by decide +kernel
theorem dX5_change_131 : decode cX5_change 131 = .ok (.iload 5, 2) := by decide +kernel
theorem dX5_change_133 : decode cX5_change 133 = .ok (.if_icmp .eq 7, 3) := by decide +kernel
theorem dX5_change_136 : decode cX5_change 136 = .ok (.iconst 1, 1) := by decide +kernel
theorem dX5_change_137 : decode cX5_change 137 = .ok (.goto 4, 3) := by decide +kernel
theorem dX5_change_140 : decode cX5_change 140 = .ok (.iconst 0, 1) := by decide +kernel
theorem dX5_change_141 : decode cX5_change 141 = .ok (.iadd, 1) := by decide +kernel
theorem dX5_change_142 : decode cX5_change 142 = .ok (.iastore, 1) := by decide +kernel
theorem dX5_change_143 : decode cX5_change 143 = .ok (.aload_n 0, 1) := by decide +kernel
theorem dX5_change_144 : decode cX5_change 144 = .ok (.iload_n 1, 1) := by decide +kernel
theorem dX5_change_145 : decode cX5_change 145 = .ok (.iconst 2, 1) := by decide +kernel
theorem dX5_change_146 : decode cX5_change 146 = .ok (.invokevirtual 47, 3) := by decide +kernel
theorem dX5_change_149 : decode cX5_change 149 = .ok (.ireturn, 1) := by decide +kernel
theorem dX5_passes_0 : decode cX5_passes 0 = .ok (.aload_n 0, 1) := by decide +kernel
theorem dX5_passes_1 : decode cX5_passes 1 = .ok (.dup, 1) := by decide +kernel
theorem dX5_passes_2 : decode cX5_passes 2 = .ok (.getfield 67, 3) := by decide +kernel
theorem dX5_passes_5 : decode cX5_passes 5 = .ok (.iconst 1, 1) := by decide +kernel
theorem dX5_passes_6 : decode cX5_passes 6 = .ok (.iadd, 1) := by decide +kernel
theorem dX5_passes_7 : decode cX5_passes 7 = .ok (.putfield 67, 3) := by decide +kernel
theorem dX5_passes_10 : decode cX5_passes 10 = .ok (.aload_n 0, 1) := by decide +kernel
theorem dX5_passes_11 : decode cX5_passes 11 = .ok (.getfield 67, 3) := by decide +kernel
theorem dX5_passes_14 : decode cX5_passes 14 = .ok (.aload_n 0, 1) := by decide +kernel
theorem dX5_passes_15 : decode cX5_passes 15 = .ok (.getfield 7, 3) := by decide +kernel
theorem dX5_passes_18 : decode cX5_passes 18 = .ok (.iconst 3, 1) := by decide +kernel
theorem dX5_passes_19 : decode cX5_passes 19 = .ok (.iaload, 1) := by decide +kernel
theorem dX5_passes_20 : decode cX5_passes 20 = .ok (.if_icmp .lt 18, 3) := by decide +kernel
theorem dX5_passes_23 : decode cX5_passes 23 = .ok (.aload_n 0, 1) := by decide +kernel
theorem dX5_passes_24 : decode cX5_passes 24 = .ok (.dup, 1) := by decide +kernel
theorem dX5_passes_25 : decode cX5_passes 25 = .ok (.getfield 70, 3) := by decide +kernel
theorem dX5_passes_28 : decode cX5_passes 28 = .ok (.iconst 2, 1) := by decide +kernel
theorem dX5_passes_29 : decode cX5_passes 29 = .ok (.idiv, 1) := by decide +kernel
theorem dX5_passes_30 : decode cX5_passes 30 = .ok (.putfield 70, 3) := by decide +kernel
theorem dX5_passes_33 : decode cX5_passes 33 = .ok (.aload_n 0, 1) := by decide +kernel
theorem dX5_passes_34 : decode cX5_passes 34 = .ok (.iconst 0, 1) := by decide +kernel
theorem dX5_passes_35 : decode cX5_passes 35 = .ok (.putfield 67, 3) := by decide +kernel
theorem dX5_passes_38 : decode cX5_passes 38 = .ok (.aload_n 0, 1) := by decide +kernel
theorem dX5_passes_39 : decode cX5_passes 39 = .ok (.getfield 73, 3) := by decide +kernel
theorem dX5_passes_42 : decode cX5_passes 42 = .ok (.ifCond .ne 5, 3) := by decide +kernel
theorem dX5_passes_45 : decode cX5_passes 45 = .ok (.iconst 0, 1) := by decide +kernel
theorem dX5_passes_46 : decode cX5_passes 46 = .ok (.ireturn, 1) := by decide +kernel
theorem dX5_passes_47 : decode cX5_passes 47 = .ok (.aload_n 0, 1) := by decide +kernel
theorem dX5_passes_48 : decode cX5_passes 48 = .ok (.dup, 1) := by decide +kernel
theorem dX5_passes_49 : decode cX5_passes 49 = .ok (.getfield 77, 3) := by decide +kernel
theorem dX5_passes_52 : decode cX5_passes 52 = .ok (.iconst 1, 1) := by decide +kernel
theorem dX5_passes_53 : decode cX5_passes 53 = .ok (.iadd, 1) := by decide +kernel
theorem dX5_passes_54 : decode cX5_passes 54 = .ok (.putfield 77, 3) := by decide +kernel
theorem dX5_passes_57 : decode cX5_passes 57 = .ok (.aload_n 0, 1) := by decide +kernel
theorem dX5_passes_58 : decode cX5_passes 58 = .ok (.getfield 77, 3) := by decide +kernel
theorem dX5_passes_61 : decode cX5_passes 61 = .ok (.aload_n 0, 1) := by decide +kernel
theorem dX5_passes_62 : decode cX5_passes 62 = .ok (.getfield 7, 3) := by decide +kernel
theorem dX5_passes_65 : decode cX5_passes 65 = .ok (.bipush 6, 2) := by decide +kernel
theorem dX5_passes_67 : decode cX5_passes 67 = .ok (.iaload, 1) := by decide +kernel
theorem dX5_passes_68 : decode cX5_passes 68 = .ok (.if_icmp .lt 7, 3) := by decide +kernel
theorem dX5_passes_71 : decode cX5_passes 71 = .ok (.iconst 1, 1) := by decide +kernel
theorem dX5_passes_72 : decode cX5_passes 72 = .ok (.goto 4, 3) := by decide +kernel
theorem dX5_passes_75 : decode cX5_passes 75 = .ok (.iconst 0, 1) := by decide +kernel
theorem dX5_passes_76 : decode cX5_passes 76 = .ok (.istore_n 1, 1) := by decide +kernel
theorem dX5_passes_77 : decode cX5_passes 77 = .ok (.aload_n 0, 1) := by decide +kernel
theorem dX5_passes_78 : decode cX5_passes 78 = .ok (.getfield 70, 3) := by decide +kernel
theorem dX5_passes_81 : decode cX5_passes 81 = .ok (.aload_n 0, 1) := by decide +kernel
theorem dX5_passes_82 : decode cX5_passes 82 = .ok (.getfield 7, 3) := by decide +kernel
theorem dX5_passes_85 : decode cX5_passes 85 = .ok (.iconst 5, 1) := by decide +kernel
theorem dX5_passes_86 : decode cX5_passes 86 = .ok (.iaload, 1) := by decide +kernel
theorem dX5_passes_87 : decode cX5_passes 87 = .ok (.if_icmp .lt 9, 3) := by decide +kernel
theorem dX5_passes_90 : decode cX5_passes 90 = .ok (.iload_n 1, 1) := by decide +kernel
theorem dX5_passes_91 : decode cX5_passes 91 = .ok (.ifCond .ne 5, 3) := by decide +kernel
theorem dX5_passes_94 : decode cX5_passes 94 = .ok (.iconst 0, 1) := by decide +kernel
theorem dX5_passes_95 : decode cX5_passes 95 = .ok (.ireturn, 1) := by decide +kernel
theorem dX5_passes_96 : decode cX5_passes 96 = .ok (.aload_n 0, 1) := by decide +kernel
theorem dX5_passes_97 : decode cX5_passes 97 = .ok (.aload_n 0, 1) := by decide +kernel
theorem dX5_passes_98 : decode cX5_passes 98 = .ok (.getfield 70, 3) := by decide +kernel
theorem dX5_passes_101 : decode cX5_passes 101 = .ok (.aload_n 0, 1) := by decide +kernel
theorem dX5_passes_102 : decode cX5_passes 102 = .ok (.getfield 7, 3) := by decide +kernel
theorem dX5_passes_105 : decode cX5_passes 105 = .ok (.iconst 5, 1) := by decide +kernel
theorem dX5_passes_106 : decode cX5_passes 106 = .ok (.iaload, 1) := by decide +kernel
theorem dX5_passes_107 : decode cX5_passes 107 = .ok (.if_icmp .lt 14, 3) := by decide +kernel
theorem dX5_passes_110 : decode cX5_passes 110 = .ok (.aload_n 0, 1) := by decide +kernel
theorem dX5_passes_111 : decode cX5_passes 111 = .ok (.getfield 7, 3) := by decide +kernel
theorem dX5_passes_114 : decode cX5_passes 114 = .ok (.iconst 5, 1) := by decide +kernel
theorem dX5_passes_115 : decode cX5_passes 115 = .ok (.iaload, 1) := by decide +kernel
theorem dX5_passes_116 : decode cX5_passes 116 = .ok (.iconst 1, 1) := by decide +kernel
theorem dX5_passes_117 : decode cX5_passes 117 = .ok (.isub, 1) := by decide +kernel
theorem dX5_passes_118 : decode cX5_passes 118 = .ok (.goto 7, 3) := by decide +kernel
theorem dX5_passes_121 : decode cX5_passes 121 = .ok (.aload_n 0, 1) := by decide +kernel
theorem dX5_passes_122 : decode cX5_passes 122 = .ok (.getfield 70, 3) := by decide +kernel
theorem dX5_passes_125 : decode cX5_passes 125 = .ok (.putfield 70, 3) := by decide +kernel
theorem dX5_passes_128 : decode cX5_passes 128 = .ok (.aload_n 0, 1) := by decide +kernel
theorem dX5_passes_129 : decode cX5_passes 129 = .ok (.iconst 0, 1) := by decide +kernel
theorem dX5_passes_130 : decode cX5_passes 130 = .ok (.putfield 73, 3) := by decide +kernel
theorem dX5_passes_133 : decode cX5_passes 133 = .ok (.aload_n 0, 1) := by decide +kernel
theorem dX5_passes_134 : decode cX5_passes 134 = .ok (.iconst 0, 1) := by decide +kernel
theorem dX5_passes_135 : decode cX5_passes 135 = .ok (.putfield 77, 3) := by decide +kernel
theorem dX5_passes_138 : decode cX5_passes 138 = .ok (.iconst 1, 1) := by decide +kernel
theorem dX5_passes_139 : decode cX5_passes 139 = .ok (.ireturn, 1) := by decide +kernel
set_option maxRecDepth 20000 in
theorem ggX5_tries_X5_its : GoodIn wsX5_tries wsX5_its := goodIn_r _ [9, 10, 11, 12, 13, 14, 15, 16, 17, 18, 19, 20, 21, 22, 23, 24] (by decide +kernel) (by decide +kernel)
set_option maxRecDepth 20000 in
theorem gX5_tries_X5_its : GoodIn wsX5_tries (wsV RX5 47 RX5 yX5_its wsX5_its) := goodIn_app (goodIn_of _ (by decide +kernel)) ggX5_tries_X5_its
theorem dX5_tries_0 : decode cX5_tries 0 = .ok (.aload_n 0, 1) := by decide +kernel
theorem dX5_tries_1 : decode cX5_tries 1 = .ok (.aload_n 0, 1) := by decide +kernel
theorem dX5_tries_2 : decode cX5_tries 2 = .ok (.iload_n 1, 1) := by decide +kernel
theorem dX5_tries_3 : decode cX5_tries 3 = .ok (.iconst 2, 1) := by decide +kernel
theorem dX5_tries_4 : decode cX5_tries 4 = .ok (.invokevirtual 47, 3) := by decide +kernel
theorem dX5_tries_7 : decode cX5_tries 7 = .ok (.putfield 70, 3) := by decide +kernel
theorem dX5_tries_10 : decode cX5_tries 10 = .ok (.aload_n 0, 1) := by decide +kernel
theorem dX5_tries_11 : decode cX5_tries 11 = .ok (.aload_n 0, 1) := by decide +kernel
theorem dX5_tries_12 : decode cX5_tries 12 = .ok (.iload_n 1, 1) := by decide +kernel
theorem dX5_tries_13 : decode cX5_tries 13 = .ok (.iconst 5, 1) := by decide +kernel
theorem dX5_tries_14 : decode cX5_tries 14 = .ok (.invokevirtual 47, 3) := by decide +kernel
theorem dX5_tries_17 : decode cX5_tries 17 = .ok (.putfield 67, 3) := by decide +kernel
theorem dX5_tries_20 : decode cX5_tries 20 = .ok (.aload_n 0, 1) := by decide +kernel
theorem dX5_tries_21 : decode cX5_tries 21 = .ok (.aload_n 0, 1) := by decide +kernel
theorem dX5_tries_22 : decode cX5_tries 22 = .ok (.iload_n 1, 1) := by decide +kernel
theorem dX5_tries_23 : decode cX5_tries 23 = .ok (.iconst 3, 1) := by decide +kernel
theorem dX5_tries_24 : decode cX5_tries 24 = .ok (.invokevirtual 47, 3) := by decide +kernel
theorem dX5_tries_27 : decode cX5_tries 27 = .ok (.iconst 1, 1) := by decide +kernel
theorem dX5_tries_28 : decode cX5_tries 28 = .ok (.if_icmp .ne 7, 3) := by decide +kernel
theorem dX5_tries_31 : decode cX5_tries 31 = .ok (.iconst 1, 1) := by decide +kernel
theorem dX5_tries_32 : decode cX5_tries 32 = .ok (.goto 4, 3) := by decide +kernel
theorem dX5_tries_35 : decode cX5_tries 35 = .ok (.iconst 0, 1) := by decide +kernel
theorem dX5_tries_36 : decode cX5_tries 36 = .ok (.putfield 73, 3) := by decide +kernel
theorem dX5_tries_39 : decode cX5_tries 39 = .ok (.aload_n 0, 1) := by decide +kernel
theorem dX5_tries_40 : decode cX5_tries 40 = .ok (.aload_n 0, 1) := by decide +kernel
theorem dX5_tries_41 : decode cX5_tries 41 = .ok (.iload_n 1, 1) := by decide +kernel
theorem dX5_tries_42 : decode cX5_tries 42 = .ok (.iconst 4, 1) := by decide +kernel
theorem dX5_tries_43 : decode cX5_tries 43 = .ok (.invokevirtual 47, 3) := by decide +kernel
theorem dX5_tries_46 : decode cX5_tries 46 = .ok (.putfield 77, 3) := by decide +kernel
theorem dX5_tries_49 : decode cX5_tries 49 = .ok (.return_, 1) := by decide +kernel
set_option maxRecDepth 20000 in
theorem ggX5_minute_X5_taken : GoodIn wsX5_minute wsX5_taken := goodIn_r _ [10, 1, 11, 12, 13, 9, 14, 31, 32, 33, 34, 35, 36, 37, 38, 39, 40, 41, 42, 43, 44] (by decide +kernel) (by decide +kernel)
set_option maxRecDepth 20000 in
theorem gX5_minute_X5_taken : GoodIn wsX5_minute (wsV RX5 52 RX5 yX5_taken wsX5_taken) := goodIn_app (goodIn_of _ (by decide +kernel)) ggX5_minute_X5_taken
set_option maxRecDepth 20000 in
theorem ggX5_minute_X5_tries : GoodIn wsX5_minute wsX5_tries := goodIn_r _ [18, 2, 3, 4, 5, 11, 12, 13, 9, 14, 1, 31, 32, 33, 34, 35, 36, 37, 38, 39, 40, 41, 42, 43, 44] (by decide +kernel) (by decide +kernel)
set_option maxRecDepth 20000 in
theorem gX5_minute_X5_tries : GoodIn wsX5_minute (wsV RX5 80 RX5 yX5_tries wsX5_tries) := goodIn_app (goodIn_of _ (by decide +kernel)) ggX5_minute_X5_tries
set_option maxRecDepth 20000 in
theorem ggX5_minute_X5_passes : GoodIn wsX5_minute wsX5_passes := goodIn_r _ [22, 3, 1, 2, 4, 5, 31, 32, 33, 34, 35, 36, 37, 38, 39, 40, 41, 42, 43, 44] (by decide +kernel) (by decide +kernel)
set_option maxRecDepth 20000 in
theorem gX5_minute_X5_passes : GoodIn wsX5_minute (wsV RX5 84 RX5 yX5_passes wsX5_passes) := goodIn_app (goodIn_of _ (by decide +kernel)) ggX5_minute_X5_passes
set_option maxRecDepth 20000 in
theorem ggX5_minute_X5_lay : GoodIn wsX5_minute wsX5_lay := goodIn_r _ [26, 1, 31, 32, 33, 34, 35, 36, 37, 38, 39, 40, 41, 42, 43, 44] (by decide +kernel) (by decide +kernel)
set_option maxRecDepth 20000 in
theorem gX5_minute_X5_lay : GoodIn wsX5_minute (wsV RX5 56 RX5 yX5_lay wsX5_lay) := goodIn_app (goodIn_of _ (by decide +kernel)) ggX5_minute_X5_lay
set_option maxRecDepth 20000 in
theorem ggX5_minute_X5_note : GoodIn wsX5_minute wsX5_note := goodIn_r _ [30, 1, 31, 32, 33, 34, 35, 36, 37, 38, 39, 40, 41, 42, 43, 44] (by decide +kernel) (by decide +kernel)
set_option maxRecDepth 20000 in
theorem gX5_minute_X5_note : GoodIn wsX5_minute (wsV RX5 63 RX5 yX5_note wsX5_note) := goodIn_app (goodIn_of _ (by decide +kernel)) ggX5_minute_X5_note
theorem dX5_minute_0 : decode cX5_minute 0 = .ok (.aload_n 0, 1) := by decide +kernel
theorem dX5_minute_1 : decode cX5_minute 1 = .ok (.invokevirtual 52, 3) := by decide +kernel
theorem dX5_minute_4 : decode cX5_minute 4 = .ok (.istore_n 1, 1) := by decide +kernel
theorem dX5_minute_5 : decode cX5_minute 5 = .ok (.iconst 0, 1) := by decide +kernel
theorem dX5_minute_6 : decode cX5_minute 6 = .ok (.istore_n 2, 1) := by decide +kernel
theorem dX5_minute_7 : decode cX5_minute 7 = .ok (.aload_n 0, 1) := by decide +kernel
theorem dX5_minute_8 : decode cX5_minute 8 = .ok (.getfield 7, 3) := by decide +kernel
theorem dX5_minute_11 : decode cX5_minute 11 = .ok (.bipush 7, 2) := by decide +kernel
theorem dX5_minute_13 : decode cX5_minute 13 = .ok (.dup2, 1) := by decide +kernel
theorem dX5_minute_14 : decode cX5_minute 14 = .ok (.iaload, 1) := by decide +kernel
theorem dX5_minute_15 : decode cX5_minute 15 = .ok (.iconst 1, 1) := by decide +kernel
theorem dX5_minute_16 : decode cX5_minute 16 = .ok (.iadd, 1) := by decide +kernel
theorem dX5_minute_17 : decode cX5_minute 17 = .ok (.iastore, 1) := by decide +kernel
theorem dX5_minute_18 : decode cX5_minute 18 = .ok (.iconst 0, 1) := by decide +kernel
theorem dX5_minute_19 : decode cX5_minute 19 = .ok (.istore_n 3, 1) := by decide +kernel
theorem dX5_minute_20 : decode cX5_minute 20 = .ok (.iload_n 3, 1) := by decide +kernel
theorem dX5_minute_21 : decode cX5_minute 21 = .ok (.aload_n 0, 1) := by decide +kernel
theorem dX5_minute_22 : decode cX5_minute 22 = .ok (.getfield 7, 3) := by decide +kernel
theorem dX5_minute_25 : decode cX5_minute 25 = .ok (.bipush 8, 2) := by decide +kernel
theorem dX5_minute_27 : decode cX5_minute 27 = .ok (.iaload, 1) := by decide +kernel
theorem dX5_minute_28 : decode cX5_minute 28 = .ok (.if_icmp .ge 82, 3) := by decide +kernel
theorem dX5_minute_31 : decode cX5_minute 31 = .ok (.aload_n 0, 1) := by decide +kernel
theorem dX5_minute_32 : decode cX5_minute 32 = .ok (.iload_n 3, 1) := by decide +kernel
theorem dX5_minute_33 : decode cX5_minute 33 = .ok (.invokevirtual 80, 3) := by decide +kernel
theorem dX5_minute_36 : decode cX5_minute 36 = .ok (.aload_n 0, 1) := by decide +kernel
theorem dX5_minute_37 : decode cX5_minute 37 = .ok (.invokevirtual 84, 3) := by decide +kernel
theorem dX5_minute_40 : decode cX5_minute 40 = .ok (.istore 4, 2) := by decide +kernel
theorem dX5_minute_42 : decode cX5_minute 42 = .ok (.aload_n 0, 1) := by decide +kernel
theorem dX5_minute_43 : decode cX5_minute 43 = .ok (.iload_n 3, 1) := by decide +kernel
theorem dX5_minute_44 : decode cX5_minute 44 = .ok (.iconst 2, 1) := by decide +kernel
theorem dX5_minute_45 : decode cX5_minute 45 = .ok (.aload_n 0, 1) := by decide +kernel
theorem dX5_minute_46 : decode cX5_minute 46 = .ok (.getfield 70, 3) := by decide +kernel
theorem dX5_minute_49 : decode cX5_minute 49 = .ok (.invokevirtual 56, 3) := by decide +kernel
theorem dX5_minute_52 : decode cX5_minute 52 = .ok (.aload_n 0, 1) := by decide +kernel
theorem dX5_minute_53 : decode cX5_minute 53 = .ok (.iload_n 3, 1) := by decide +kernel
theorem dX5_minute_54 : decode cX5_minute 54 = .ok (.iconst 5, 1) := by decide +kernel
theorem dX5_minute_55 : decode cX5_minute 55 = .ok (.aload_n 0, 1) := by decide +kernel
theorem dX5_minute_56 : decode cX5_minute 56 = .ok (.getfield 67, 3) := by decide +kernel
theorem dX5_minute_59 : decode cX5_minute 59 = .ok (.invokevirtual 56, 3) := by decide +kernel
theorem dX5_minute_62 : decode cX5_minute 62 = .ok (.aload_n 0, 1) := by decide +kernel
theorem dX5_minute_63 : decode cX5_minute 63 = .ok (.iload_n 3, 1) := by decide +kernel
theorem dX5_minute_64 : decode cX5_minute 64 = .ok (.iconst 3, 1) := by decide +kernel
theorem dX5_minute_65 : decode cX5_minute 65 = .ok (.aload_n 0, 1) := by decide +kernel
theorem dX5_minute_66 : decode cX5_minute 66 = .ok (.getfield 73, 3) := by decide +kernel
theorem dX5_minute_69 : decode cX5_minute 69 = .ok (.ifCond .eq 7, 3) := by decide +kernel
theorem dX5_minute_72 : decode cX5_minute 72 = .ok (.iconst 1, 1) := by decide +kernel
theorem dX5_minute_73 : decode cX5_minute 73 = .ok (.goto 4, 3) := by decide +kernel
theorem dX5_minute_76 : decode cX5_minute 76 = .ok (.iconst 0, 1) := by decide +kernel
theorem dX5_minute_77 : decode cX5_minute 77 = .ok (.invokevirtual 56, 3) := by decide +kernel
theorem dX5_minute_80 : decode cX5_minute 80 = .ok (.aload_n 0, 1) := by decide +kernel
theorem dX5_minute_81 : decode cX5_minute 81 = .ok (.iload_n 3, 1) := by decide +kernel
theorem dX5_minute_82 : decode cX5_minute 82 = .ok (.iconst 4, 1) := by decide +kernel
theorem dX5_minute_83 : decode cX5_minute 83 = .ok (.aload_n 0, 1) := by decide +kernel
theorem dX5_minute_84 : decode cX5_minute 84 = .ok (.getfield 77, 3) := by decide +kernel
theorem dX5_minute_87 : decode cX5_minute 87 = .ok (.invokevirtual 56, 3) := by decide +kernel
theorem dX5_minute_90 : decode cX5_minute 90 = .ok (.iload 4, 2) := by decide +kernel
theorem dX5_minute_92 : decode cX5_minute 92 = .ok (.ifCond .eq 12, 3) := by decide +kernel
theorem dX5_minute_95 : decode cX5_minute 95 = .ok (.aload_n 0, 1) := by decide +kernel
theorem dX5_minute_96 : decode cX5_minute 96 = .ok (.iconst 4, 1) := by decide +kernel
theorem dX5_minute_97 : decode cX5_minute 97 = .ok (.iload_n 3, 1) := by decide +kernel
theorem dX5_minute_98 : decode cX5_minute 98 = .ok (.invokevirtual 63, 3) := by decide +kernel
theorem dX5_minute_101 : decode cX5_minute 101 = .ok (.iinc 2 1, 3) := by decide +kernel
theorem dX5_minute_104 : decode cX5_minute 104 = .ok (.iinc 3 1, 3) := by decide +kernel
theorem dX5_minute_107 : decode cX5_minute 107 = .ok (.goto (-87), 3) := by decide +kernel
theorem dX5_minute_110 : decode cX5_minute 110 = .ok (.aload_n 0, 1) := by decide +kernel
theorem dX5_minute_111 : decode cX5_minute 111 = .ok (.getfield 7, 3) := by decide +kernel
theorem dX5_minute_114 : decode cX5_minute 114 = .ok (.bipush 9, 2) := by decide +kernel
theorem dX5_minute_116 : decode cX5_minute 116 = .ok (.dup2, 1) := by decide +kernel
theorem dX5_minute_117 : decode cX5_minute 117 = .ok (.iaload, 1) := by decide +kernel
theorem dX5_minute_118 : decode cX5_minute 118 = .ok (.aload_n 0, 1) := by decide +kernel
theorem dX5_minute_119 : decode cX5_minute 119 = .ok (.invokevirtual 52, 3) := by decide +kernel
theorem dX5_minute_122 : decode cX5_minute 122 = .ok (.iload_n 1, 1) := by decide +kernel
theorem dX5_minute_123 : decode cX5_minute 123 = .ok (.if_icmp .eq 7, 3) := by decide +kernel
theorem dX5_minute_126 : decode cX5_minute 126 = .ok (.iconst 1, 1) := by decide +kernel
theorem dX5_minute_127 : decode cX5_minute 127 = .ok (.goto 4, 3) := by decide +kernel
theorem dX5_minute_130 : decode cX5_minute 130 = .ok (.iconst 0, 1) := by decide +kernel
theorem dX5_minute_131 : decode cX5_minute 131 = .ok (.iadd, 1) := by decide +kernel
theorem dX5_minute_132 : decode cX5_minute 132 = .ok (.iastore, 1) := by decide +kernel
theorem dX5_minute_133 : decode cX5_minute 133 = .ok (.iload_n 2, 1) := by decide +kernel
theorem dX5_minute_134 : decode cX5_minute 134 = .ok (.ireturn, 1) := by decide +kernel
set_option maxRecDepth 20000 in
theorem ggX5_comes_X5_in : GoodIn wsX5_comes wsX5_in := goodIn_r _ [5] (by decide +kernel) (by decide +kernel)
set_option maxRecDepth 20000 in
theorem gX5_comes_X5_in : GoodIn wsX5_comes (va_wsS RX5 32 yX5_in wsX5_in) := goodIn_app (goodIn_of _ (by decide +kernel)) ggX5_comes_X5_in
set_option maxRecDepth 20000 in
theorem ggX5_comes_X5_taken : GoodIn wsX5_comes wsX5_taken := goodIn_r _ [9, 1, 10, 11, 12, 4, 13, 18, 19, 20, 21, 22, 23, 24, 25, 26, 27, 28, 29, 30, 31] (by decide +kernel) (by decide +kernel)
set_option maxRecDepth 20000 in
theorem gX5_comes_X5_taken : GoodIn wsX5_comes (wsV RX5 52 RX5 yX5_taken wsX5_taken) := goodIn_app (goodIn_of _ (by decide +kernel)) ggX5_comes_X5_taken
set_option maxRecDepth 20000 in
theorem ggX5_comes_X5_lay : GoodIn wsX5_comes wsX5_lay := goodIn_r _ [17, 1, 18, 19, 20, 21, 22, 23, 24, 25, 26, 27, 28, 29, 30, 31] (by decide +kernel) (by decide +kernel)
set_option maxRecDepth 20000 in
theorem gX5_comes_X5_lay : GoodIn wsX5_comes (wsV RX5 56 RX5 yX5_lay wsX5_lay) := goodIn_app (goodIn_of _ (by decide +kernel)) ggX5_comes_X5_lay
theorem dX5_comes_0 : decode cX5_comes 0 = .ok (.iload_n 1, 1) := by decide +kernel
theorem dX5_comes_1 : decode cX5_comes 1 = .ok (.i2l, 1) := by decide +kernel
theorem dX5_comes_2 : decode cX5_comes 2 = .ok (.iconst 0, 1) := by decide +kernel
theorem dX5_comes_3 : decode cX5_comes 3 = .ok (.sipush 999, 3) := by decide +kernel
theorem dX5_comes_6 : decode cX5_comes 6 = .ok (.invokestatic 32, 3) := by decide +kernel
theorem dX5_comes_9 : decode cX5_comes 9 = .ok (.ifCond .ne 6, 3) := by decide +kernel
theorem dX5_comes_12 : decode cX5_comes 12 = .ok (.bipush (-2), 2) := by decide +kernel
theorem dX5_comes_14 : decode cX5_comes 14 = .ok (.ireturn, 1) := by decide +kernel
theorem dX5_comes_15 : decode cX5_comes 15 = .ok (.aload_n 0, 1) := by decide +kernel
theorem dX5_comes_16 : decode cX5_comes 16 = .ok (.getfield 7, 3) := by decide +kernel
theorem dX5_comes_19 : decode cX5_comes 19 = .ok (.bipush 8, 2) := by decide +kernel
theorem dX5_comes_21 : decode cX5_comes 21 = .ok (.iaload, 1) := by decide +kernel
theorem dX5_comes_22 : decode cX5_comes 22 = .ok (.istore_n 2, 1) := by decide +kernel
theorem dX5_comes_23 : decode cX5_comes 23 = .ok (.iload_n 2, 1) := by decide +kernel
theorem dX5_comes_24 : decode cX5_comes 24 = .ok (.bipush 8, 2) := by decide +kernel
theorem dX5_comes_26 : decode cX5_comes 26 = .ok (.if_icmp .ne 6, 3) := by decide +kernel
theorem dX5_comes_29 : decode cX5_comes 29 = .ok (.bipush (-4), 2) := by decide +kernel
theorem dX5_comes_31 : decode cX5_comes 31 = .ok (.ireturn, 1) := by decide +kernel
theorem dX5_comes_32 : decode cX5_comes 32 = .ok (.aload_n 0, 1) := by decide +kernel
theorem dX5_comes_33 : decode cX5_comes 33 = .ok (.invokevirtual 52, 3) := by decide +kernel
theorem dX5_comes_36 : decode cX5_comes 36 = .ok (.istore_n 3, 1) := by decide +kernel
theorem dX5_comes_37 : decode cX5_comes 37 = .ok (.iconst 0, 1) := by decide +kernel
theorem dX5_comes_38 : decode cX5_comes 38 = .ok (.istore 4, 2) := by decide +kernel
theorem dX5_comes_40 : decode cX5_comes 40 = .ok (.iload 4, 2) := by decide +kernel
theorem dX5_comes_42 : decode cX5_comes 42 = .ok (.bipush 8, 2) := by decide +kernel
theorem dX5_comes_44 : decode cX5_comes 44 = .ok (.if_icmp .ge 36, 3) := by decide +kernel
theorem dX5_comes_47 : decode cX5_comes 47 = .ok (.aload_n 0, 1) := by decide +kernel
theorem dX5_comes_48 : decode cX5_comes 48 = .ok (.iload_n 2, 1) := by decide +kernel
theorem dX5_comes_49 : decode cX5_comes 49 = .ok (.iload 4, 2) := by decide +kernel
theorem dX5_comes_51 : decode cX5_comes 51 = .ok (.iload 4, 2) := by decide +kernel
theorem dX5_comes_53 : decode cX5_comes 53 = .ok (.ifCond .ne 7, 3) := by decide +kernel
theorem dX5_comes_56 : decode cX5_comes 56 = .ok (.iconst 1, 1) := by decide +kernel
theorem dX5_comes_57 : decode cX5_comes 57 = .ok (.goto 14, 3) := by decide +kernel
theorem dX5_comes_60 : decode cX5_comes 60 = .ok (.iload 4, 2) := by decide +kernel
theorem dX5_comes_62 : decode cX5_comes 62 = .ok (.iconst 1, 1) := by decide +kernel
theorem dX5_comes_63 : decode cX5_comes 63 = .ok (.if_icmp .ne 7, 3) := by decide +kernel
theorem dX5_comes_66 : decode cX5_comes 66 = .ok (.iload_n 1, 1) := by decide +kernel
theorem dX5_comes_67 : decode cX5_comes 67 = .ok (.goto 4, 3) := by decide +kernel
theorem dX5_comes_70 : decode cX5_comes 70 = .ok (.iconst 0, 1) := by decide +kernel
theorem dX5_comes_71 : decode cX5_comes 71 = .ok (.invokevirtual 56, 3) := by decide +kernel
theorem dX5_comes_74 : decode cX5_comes 74 = .ok (.iinc 4 1, 3) := by decide +kernel
theorem dX5_comes_77 : decode cX5_comes 77 = .ok (.goto (-37), 3) := by decide +kernel
theorem dX5_comes_80 : decode cX5_comes 80 = .ok (.aload_n 0, 1) := by decide +kernel
theorem dX5_comes_81 : decode cX5_comes 81 = .ok (.getfield 7, 3) := by decide +kernel
theorem dX5_comes_84 : decode cX5_comes 84 = .ok (.bipush 8, 2) := by decide +kernel
theorem dX5_comes_86 : decode cX5_comes 86 = .ok (.dup2, 1) := by decide +kernel
theorem dX5_comes_87 : decode cX5_comes 87 = .ok (.iaload, 1) := by decide +kernel
theorem dX5_comes_88 : decode cX5_comes 88 = .ok (.iconst 1, 1) := by decide +kernel
theorem dX5_comes_89 : decode cX5_comes 89 = .ok (.iadd, 1) := by decide +kernel
theorem dX5_comes_90 : decode cX5_comes 90 = .ok (.iastore, 1) := by decide +kernel
theorem dX5_comes_91 : decode cX5_comes 91 = .ok (.aload_n 0, 1) := by decide +kernel
theorem dX5_comes_92 : decode cX5_comes 92 = .ok (.getfield 7, 3) := by decide +kernel
theorem dX5_comes_95 : decode cX5_comes 95 = .ok (.bipush 9, 2) := by decide +kernel
theorem dX5_comes_97 : decode cX5_comes 97 = .ok (.dup2, 1) := by decide +kernel
theorem dX5_comes_98 : decode cX5_comes 98 = .ok (.iaload, 1) := by decide +kernel
theorem dX5_comes_99 : decode cX5_comes 99 = .ok (.aload_n 0, 1) := by decide +kernel
theorem dX5_comes_100 : decode cX5_comes 100 = .ok (.invokevirtual 52, 3) := by decide +kernel
theorem dX5_comes_103 : decode cX5_comes 103 = .ok (.iload_n 3, 1) := by decide +kernel
theorem dX5_comes_104 : decode cX5_comes 104 = .ok (.if_icmp .eq 7, 3) := by decide +kernel
theorem dX5_comes_107 : decode cX5_comes 107 = .ok (.iconst 1, 1) := by decide +kernel
theorem dX5_comes_108 : decode cX5_comes 108 = .ok (.goto 4, 3) := by decide +kernel
theorem dX5_comes_111 : decode cX5_comes 111 = .ok (.iconst 0, 1) := by decide +kernel
theorem dX5_comes_112 : decode cX5_comes 112 = .ok (.iadd, 1) := by decide +kernel
theorem dX5_comes_113 : decode cX5_comes 113 = .ok (.iastore, 1) := by decide +kernel
theorem dX5_comes_114 : decode cX5_comes 114 = .ok (.iload_n 2, 1) := by decide +kernel
theorem dX5_comes_115 : decode cX5_comes 115 = .ok (.ireturn, 1) := by decide +kernel
set_option maxRecDepth 20000 in
theorem ggX5_turns_X5_isLanding : GoodIn wsX5_turns wsX5_isLanding := goodIn_r _ [5, 6, 7, 8, 4, 9, 34, 35, 36, 37, 38, 39, 40, 41, 42, 43, 44, 45, 46, 47] (by decide +kernel) (by decide +kernel)
set_option maxRecDepth 20000 in
theorem gX5_turns_X5_isLanding : GoodIn wsX5_turns (wsV RX5 88 RX5 yX5_isLanding wsX5_isLanding) := goodIn_app (goodIn_of _ (by decide +kernel)) ggX5_turns_X5_isLanding
set_option maxRecDepth 20000 in
theorem ggX5_turns_X5_its : GoodIn wsX5_turns wsX5_its := goodIn_r _ [13, 6, 34, 35, 36, 37, 38, 39, 40, 41, 42, 43, 44, 45, 46, 47] (by decide +kernel) (by decide +kernel)
set_option maxRecDepth 20000 in
theorem gX5_turns_X5_its : GoodIn wsX5_turns (wsV RX5 47 RX5 yX5_its wsX5_its) := goodIn_app (goodIn_of _ (by decide +kernel)) ggX5_turns_X5_its
set_option maxRecDepth 20000 in
theorem ggX5_turns_X5_change : GoodIn wsX5_turns wsX5_change := goodIn_r _ [17, 6, 18, 19, 20, 4, 21, 10, 11, 12, 13, 22, 23, 24, 25, 26, 27, 28, 29, 30, 31, 32, 33, 34, 35, 36, 37, 38, 39, 40, 41, 42, 43, 44, 45, 46, 47] (by decide +kernel) (by decide +kernel)
set_option maxRecDepth 20000 in
theorem gX5_turns_X5_change : GoodIn wsX5_turns (wsV RX5 92 RX5 yX5_change wsX5_change) := goodIn_app (goodIn_of _ (by decide +kernel)) ggX5_turns_X5_change
theorem dX5_turns_0 : decode cX5_turns 0 = .ok (.aload_n 0, 1) := by decide +kernel
theorem dX5_turns_1 : decode cX5_turns 1 = .ok (.iload_n 1, 1) := by decide +kernel
theorem dX5_turns_2 : decode cX5_turns 2 = .ok (.invokevirtual 88, 3) := by decide +kernel
theorem dX5_turns_5 : decode cX5_turns 5 = .ok (.ifCond .ne 5, 3) := by decide +kernel
theorem dX5_turns_8 : decode cX5_turns 8 = .ok (.iconst (-1), 1) := by decide +kernel
theorem dX5_turns_9 : decode cX5_turns 9 = .ok (.ireturn, 1) := by decide +kernel
theorem dX5_turns_10 : decode cX5_turns 10 = .ok (.aload_n 0, 1) := by decide +kernel
theorem dX5_turns_11 : decode cX5_turns 11 = .ok (.iload_n 1, 1) := by decide +kernel
theorem dX5_turns_12 : decode cX5_turns 12 = .ok (.iconst 0, 1) := by decide +kernel
theorem dX5_turns_13 : decode cX5_turns 13 = .ok (.invokevirtual 47, 3) := by decide +kernel
theorem dX5_turns_16 : decode cX5_turns 16 = .ok (.iload_n 2, 1) := by decide +kernel
theorem dX5_turns_17 : decode cX5_turns 17 = .ok (.if_icmp .ne 8, 3) := by decide +kernel
theorem dX5_turns_20 : decode cX5_turns 20 = .ok (.bipush (-5), 2) := by decide +kernel
theorem dX5_turns_22 : decode cX5_turns 22 = .ok (.goto 20, 3) := by decide +kernel
theorem dX5_turns_25 : decode cX5_turns 25 = .ok (.aload_n 0, 1) := by decide +kernel
theorem dX5_turns_26 : decode cX5_turns 26 = .ok (.iload_n 1, 1) := by decide +kernel
theorem dX5_turns_27 : decode cX5_turns 27 = .ok (.iconst 0, 1) := by decide +kernel
theorem dX5_turns_28 : decode cX5_turns 28 = .ok (.iload_n 2, 1) := by decide +kernel
theorem dX5_turns_29 : decode cX5_turns 29 = .ok (.iload_n 2, 1) := by decide +kernel
theorem dX5_turns_30 : decode cX5_turns 30 = .ok (.iconst 1, 1) := by decide +kernel
theorem dX5_turns_31 : decode cX5_turns 31 = .ok (.if_icmp .ne 7, 3) := by decide +kernel
theorem dX5_turns_34 : decode cX5_turns 34 = .ok (.iconst 1, 1) := by decide +kernel
theorem dX5_turns_35 : decode cX5_turns 35 = .ok (.goto 4, 3) := by decide +kernel
theorem dX5_turns_38 : decode cX5_turns 38 = .ok (.iconst 0, 1) := by decide +kernel
theorem dX5_turns_39 : decode cX5_turns 39 = .ok (.invokevirtual 92, 3) := by decide +kernel
theorem dX5_turns_42 : decode cX5_turns 42 = .ok (.ireturn, 1) := by decide +kernel
set_option maxRecDepth 20000 in
theorem ggX5_costs_X5_isLanding : GoodIn wsX5_costs wsX5_isLanding := goodIn_r _ [5, 6, 7, 8, 4, 9, 34, 35, 36, 37, 38, 39, 40, 41, 42, 43, 44, 45, 46, 47] (by decide +kernel) (by decide +kernel)
set_option maxRecDepth 20000 in
theorem gX5_costs_X5_isLanding : GoodIn wsX5_costs (wsV RX5 88 RX5 yX5_isLanding wsX5_isLanding) := goodIn_app (goodIn_of _ (by decide +kernel)) ggX5_costs_X5_isLanding
set_option maxRecDepth 20000 in
theorem ggX5_costs_X5_in : GoodIn wsX5_costs wsX5_in := goodIn_r _ [9] (by decide +kernel) (by decide +kernel)
set_option maxRecDepth 20000 in
theorem gX5_costs_X5_in : GoodIn wsX5_costs (va_wsS RX5 32 yX5_in wsX5_in) := goodIn_app (goodIn_of _ (by decide +kernel)) ggX5_costs_X5_in
set_option maxRecDepth 20000 in
theorem ggX5_costs_X5_its : GoodIn wsX5_costs wsX5_its := goodIn_r _ [13, 6, 34, 35, 36, 37, 38, 39, 40, 41, 42, 43, 44, 45, 46, 47] (by decide +kernel) (by decide +kernel)
set_option maxRecDepth 20000 in
theorem gX5_costs_X5_its : GoodIn wsX5_costs (wsV RX5 47 RX5 yX5_its wsX5_its) := goodIn_app (goodIn_of _ (by decide +kernel)) ggX5_costs_X5_its
set_option maxRecDepth 20000 in
theorem ggX5_costs_X5_change : GoodIn wsX5_costs wsX5_change := goodIn_r _ [17, 6, 18, 19, 20, 4, 21, 10, 11, 12, 13, 22, 23, 24, 25, 26, 27, 28, 29, 30, 31, 32, 33, 34, 35, 36, 37, 38, 39, 40, 41, 42, 43, 44, 45, 46, 47] (by decide +kernel) (by decide +kernel)
set_option maxRecDepth 20000 in
theorem gX5_costs_X5_change : GoodIn wsX5_costs (wsV RX5 92 RX5 yX5_change wsX5_change) := goodIn_app (goodIn_of _ (by decide +kernel)) ggX5_costs_X5_change
theorem dX5_costs_0 : decode cX5_costs 0 = .ok (.aload_n 0, 1) := by decide +kernel
theorem dX5_costs_1 : decode cX5_costs 1 = .ok (.iload_n 1, 1) := by decide +kernel
theorem dX5_costs_2 : decode cX5_costs 2 = .ok (.invokevirtual 88, 3) := by decide +kernel
theorem dX5_costs_5 : decode cX5_costs 5 = .ok (.ifCond .ne 5, 3) := by decide +kernel
theorem dX5_costs_8 : decode cX5_costs 8 = .ok (.iconst (-1), 1) := by decide +kernel
theorem dX5_costs_9 : decode cX5_costs 9 = .ok (.ireturn, 1) := by decide +kernel
theorem dX5_costs_10 : decode cX5_costs 10 = .ok (.iload_n 2, 1) := by decide +kernel
theorem dX5_costs_11 : decode cX5_costs 11 = .ok (.i2l, 1) := by decide +kernel
theorem dX5_costs_12 : decode cX5_costs 12 = .ok (.iconst 0, 1) := by decide +kernel
theorem dX5_costs_13 : decode cX5_costs 13 = .ok (.sipush 999, 3) := by decide +kernel
theorem dX5_costs_16 : decode cX5_costs 16 = .ok (.invokestatic 32, 3) := by decide +kernel
theorem dX5_costs_19 : decode cX5_costs 19 = .ok (.ifCond .ne 6, 3) := by decide +kernel
theorem dX5_costs_22 : decode cX5_costs 22 = .ok (.bipush (-2), 2) := by decide +kernel
theorem dX5_costs_24 : decode cX5_costs 24 = .ok (.ireturn, 1) := by decide +kernel
theorem dX5_costs_25 : decode cX5_costs 25 = .ok (.aload_n 0, 1) := by decide +kernel
theorem dX5_costs_26 : decode cX5_costs 26 = .ok (.iload_n 1, 1) := by decide +kernel
theorem dX5_costs_27 : decode cX5_costs 27 = .ok (.iconst 1, 1) := by decide +kernel
theorem dX5_costs_28 : decode cX5_costs 28 = .ok (.invokevirtual 47, 3) := by decide +kernel
theorem dX5_costs_31 : decode cX5_costs 31 = .ok (.iload_n 2, 1) := by decide +kernel
theorem dX5_costs_32 : decode cX5_costs 32 = .ok (.if_icmp .ne 8, 3) := by decide +kernel
theorem dX5_costs_35 : decode cX5_costs 35 = .ok (.bipush (-5), 2) := by decide +kernel
theorem dX5_costs_37 : decode cX5_costs 37 = .ok (.goto 11, 3) := by decide +kernel
theorem dX5_costs_40 : decode cX5_costs 40 = .ok (.aload_n 0, 1) := by decide +kernel
theorem dX5_costs_41 : decode cX5_costs 41 = .ok (.iload_n 1, 1) := by decide +kernel
theorem dX5_costs_42 : decode cX5_costs 42 = .ok (.iconst 1, 1) := by decide +kernel
theorem dX5_costs_43 : decode cX5_costs 43 = .ok (.iload_n 2, 1) := by decide +kernel
theorem dX5_costs_44 : decode cX5_costs 44 = .ok (.iconst 2, 1) := by decide +kernel
theorem dX5_costs_45 : decode cX5_costs 45 = .ok (.invokevirtual 92, 3) := by decide +kernel
theorem dX5_costs_48 : decode cX5_costs 48 = .ok (.ireturn, 1) := by decide +kernel
set_option maxRecDepth 20000 in
theorem ggX5_waits_X5_in : GoodIn wsX5_waits wsX5_in := goodIn_r _ [6] (by decide +kernel) (by decide +kernel)
set_option maxRecDepth 20000 in
theorem gX5_waits_X5_in : GoodIn wsX5_waits (va_wsS RX5 32 yX5_in wsX5_in) := goodIn_app (goodIn_of _ (by decide +kernel)) ggX5_waits_X5_in
set_option maxRecDepth 20000 in
theorem ggX5_waits_X5_minute : GoodIn wsX5_waits wsX5_minute := goodIn_r _ [10, 1, 11, 12, 13, 14, 15, 16, 17, 5, 18, 19, 20, 21, 22, 23, 24, 25, 26, 27, 28, 29, 30, 31, 32, 33, 34, 35, 36, 37, 38, 39, 40, 41, 42, 43, 44, 45, 46, 47, 48, 49, 50, 51, 52] (by decide +kernel) (by decide +kernel)
set_option maxRecDepth 20000 in
theorem gX5_waits_X5_minute : GoodIn wsX5_waits (wsV RX5 96 RX5 yX5_minute wsX5_minute) := goodIn_app (goodIn_of _ (by decide +kernel)) ggX5_waits_X5_minute
theorem dX5_waits_0 : decode cX5_waits 0 = .ok (.iload_n 1, 1) := by decide +kernel
theorem dX5_waits_1 : decode cX5_waits 1 = .ok (.i2l, 1) := by decide +kernel
theorem dX5_waits_2 : decode cX5_waits 2 = .ok (.iconst 1, 1) := by decide +kernel
theorem dX5_waits_3 : decode cX5_waits 3 = .ok (.sipush 999, 3) := by decide +kernel
theorem dX5_waits_6 : decode cX5_waits 6 = .ok (.invokestatic 32, 3) := by decide +kernel
theorem dX5_waits_9 : decode cX5_waits 9 = .ok (.ifCond .ne 6, 3) := by decide +kernel
theorem dX5_waits_12 : decode cX5_waits 12 = .ok (.bipush (-2), 2) := by decide +kernel
theorem dX5_waits_14 : decode cX5_waits 14 = .ok (.ireturn, 1) := by decide +kernel
theorem dX5_waits_15 : decode cX5_waits 15 = .ok (.aload_n 0, 1) := by decide +kernel
theorem dX5_waits_16 : decode cX5_waits 16 = .ok (.getfield 7, 3) := by decide +kernel
theorem dX5_waits_19 : decode cX5_waits 19 = .ok (.bipush 7, 2) := by decide +kernel
theorem dX5_waits_21 : decode cX5_waits 21 = .ok (.iaload, 1) := by decide +kernel
theorem dX5_waits_22 : decode cX5_waits 22 = .ok (.iload_n 1, 1) := by decide +kernel
theorem dX5_waits_23 : decode cX5_waits 23 = .ok (.iadd, 1) := by decide +kernel
theorem dX5_waits_24 : decode cX5_waits 24 = .ok (.ldc 51, 2) := by decide +kernel
theorem dX5_waits_26 : decode cX5_waits 26 = .ok (.if_icmp .le 6, 3) := by decide +kernel
theorem dX5_waits_29 : decode cX5_waits 29 = .ok (.bipush (-5), 2) := by decide +kernel
theorem dX5_waits_31 : decode cX5_waits 31 = .ok (.ireturn, 1) := by decide +kernel
theorem dX5_waits_32 : decode cX5_waits 32 = .ok (.iconst 0, 1) := by decide +kernel
theorem dX5_waits_33 : decode cX5_waits 33 = .ok (.istore_n 2, 1) := by decide +kernel
theorem dX5_waits_34 : decode cX5_waits 34 = .ok (.iconst 0, 1) := by decide +kernel
theorem dX5_waits_35 : decode cX5_waits 35 = .ok (.istore_n 3, 1) := by decide +kernel
theorem dX5_waits_36 : decode cX5_waits 36 = .ok (.iload_n 3, 1) := by decide +kernel
theorem dX5_waits_37 : decode cX5_waits 37 = .ok (.iload_n 1, 1) := by decide +kernel
theorem dX5_waits_38 : decode cX5_waits 38 = .ok (.if_icmp .ge 16, 3) := by decide +kernel
theorem dX5_waits_41 : decode cX5_waits 41 = .ok (.iload_n 2, 1) := by decide +kernel
theorem dX5_waits_42 : decode cX5_waits 42 = .ok (.aload_n 0, 1) := by decide +kernel
theorem dX5_waits_43 : decode cX5_waits 43 = .ok (.invokevirtual 96, 3) := by decide +kernel
theorem dX5_waits_46 : decode cX5_waits 46 = .ok (.iadd, 1) := by decide +kernel
theorem dX5_waits_47 : decode cX5_waits 47 = .ok (.istore_n 2, 1) := by decide +kernel
theorem dX5_waits_48 : decode cX5_waits 48 = .ok (.iinc 3 1, 3) := by decide +kernel
theorem dX5_waits_51 : decode cX5_waits 51 = .ok (.goto (-15), 3) := by decide +kernel
theorem dX5_waits_54 : decode cX5_waits 54 = .ok (.iload_n 2, 1) := by decide +kernel
theorem dX5_waits_55 : decode cX5_waits 55 = .ok (.ireturn, 1) := by decide +kernel
set_option maxRecDepth 20000 in
theorem ggX5_set_X5_in : GoodIn wsX5_set wsX5_in := goodIn_r _ [6] (by decide +kernel) (by decide +kernel)
set_option maxRecDepth 20000 in
theorem gX5_set_X5_in : GoodIn wsX5_set (va_wsS RX5 32 yX5_in wsX5_in) := goodIn_app (goodIn_of _ (by decide +kernel)) ggX5_set_X5_in
set_option maxRecDepth 20000 in
theorem ggX5_set_X5_remember : GoodIn wsX5_set wsX5_remember := goodIn_r _ [10, 11, 2, 18, 19, 20, 21, 22, 23, 24, 25, 26, 27, 28, 29, 30, 31] (by decide +kernel) (by decide +kernel)
set_option maxRecDepth 20000 in
theorem gX5_set_X5_remember : GoodIn wsX5_set (wsV RX5 40 RX5 yX5_remember wsX5_remember) := goodIn_app (goodIn_of _ (by decide +kernel)) ggX5_set_X5_remember
set_option maxRecDepth 20000 in
theorem ggX5_set_X5_record : GoodIn wsX5_set wsX5_record := goodIn_r _ [15, 16, 17, 11, 18, 19, 20, 21, 22, 23, 24, 25, 26, 27, 28, 29, 30, 31] (by decide +kernel) (by decide +kernel)
set_option maxRecDepth 20000 in
theorem gX5_set_X5_record : GoodIn wsX5_set (wsV RX5 43 RX5 yX5_record wsX5_record) := goodIn_app (goodIn_of _ (by decide +kernel)) ggX5_set_X5_record
theorem dX5_set_0 : decode cX5_set 0 = .ok (.iload_n 1, 1) := by decide +kernel
theorem dX5_set_1 : decode cX5_set 1 = .ok (.i2l, 1) := by decide +kernel
theorem dX5_set_2 : decode cX5_set 2 = .ok (.iconst 0, 1) := by decide +kernel
theorem dX5_set_3 : decode cX5_set 3 = .ok (.bipush 6, 2) := by decide +kernel
theorem dX5_set_5 : decode cX5_set 5 = .ok (.invokestatic 32, 3) := by decide +kernel
theorem dX5_set_8 : decode cX5_set 8 = .ok (.ifCond .ne 6, 3) := by decide +kernel
theorem dX5_set_11 : decode cX5_set 11 = .ok (.bipush (-2), 2) := by decide +kernel
theorem dX5_set_13 : decode cX5_set 13 = .ok (.ireturn, 1) := by decide +kernel
theorem dX5_set_14 : decode cX5_set 14 = .ok (.iload_n 1, 1) := by decide +kernel
theorem dX5_set_15 : decode cX5_set 15 = .ok (.iconst 3, 1) := by decide +kernel
theorem dX5_set_16 : decode cX5_set 16 = .ok (.if_icmp .ge 7, 3) := by decide +kernel
theorem dX5_set_19 : decode cX5_set 19 = .ok (.iconst 0, 1) := by decide +kernel
theorem dX5_set_20 : decode cX5_set 20 = .ok (.goto 4, 3) := by decide +kernel
theorem dX5_set_23 : decode cX5_set 23 = .ok (.iconst 1, 1) := by decide +kernel
theorem dX5_set_24 : decode cX5_set 24 = .ok (.istore_n 3, 1) := by decide +kernel
theorem dX5_set_25 : decode cX5_set 25 = .ok (.iload_n 1, 1) := by decide +kernel
theorem dX5_set_26 : decode cX5_set 26 = .ok (.iconst 3, 1) := by decide +kernel
theorem dX5_set_27 : decode cX5_set 27 = .ok (.if_icmp .ge 9, 3) := by decide +kernel
theorem dX5_set_30 : decode cX5_set 30 = .ok (.sipush 9999, 3) := by decide +kernel
theorem dX5_set_33 : decode cX5_set 33 = .ok (.goto 27, 3) := by decide +kernel
theorem dX5_set_36 : decode cX5_set 36 = .ok (.iload_n 1, 1) := by decide +kernel
theorem dX5_set_37 : decode cX5_set 37 = .ok (.iconst 3, 1) := by decide +kernel
theorem dX5_set_38 : decode cX5_set 38 = .ok (.if_icmp .ne 8, 3) := by decide +kernel
theorem dX5_set_41 : decode cX5_set 41 = .ok (.bipush 99, 2) := by decide +kernel
theorem dX5_set_43 : decode cX5_set 43 = .ok (.goto 17, 3) := by decide +kernel
theorem dX5_set_46 : decode cX5_set 46 = .ok (.iload_n 1, 1) := by decide +kernel
theorem dX5_set_47 : decode cX5_set 47 = .ok (.bipush 6, 2) := by decide +kernel
theorem dX5_set_49 : decode cX5_set 49 = .ok (.if_icmp .ne 9, 3) := by decide +kernel
theorem dX5_set_52 : decode cX5_set 52 = .ok (.sipush 999, 3) := by decide +kernel
theorem dX5_set_55 : decode cX5_set 55 = .ok (.goto 5, 3) := by decide +kernel
theorem dX5_set_58 : decode cX5_set 58 = .ok (.ldc 51, 2) := by decide +kernel
theorem dX5_set_60 : decode cX5_set 60 = .ok (.istore 4, 2) := by decide +kernel
theorem dX5_set_62 : decode cX5_set 62 = .ok (.iload_n 2, 1) := by decide +kernel
theorem dX5_set_63 : decode cX5_set 63 = .ok (.i2l, 1) := by decide +kernel
theorem dX5_set_64 : decode cX5_set 64 = .ok (.iload_n 3, 1) := by decide +kernel
theorem dX5_set_65 : decode cX5_set 65 = .ok (.iload 4, 2) := by decide +kernel
theorem dX5_set_67 : decode cX5_set 67 = .ok (.invokestatic 32, 3) := by decide +kernel
theorem dX5_set_70 : decode cX5_set 70 = .ok (.ifCond .ne 6, 3) := by decide +kernel
theorem dX5_set_73 : decode cX5_set 73 = .ok (.bipush (-2), 2) := by decide +kernel
theorem dX5_set_75 : decode cX5_set 75 = .ok (.ireturn, 1) := by decide +kernel
theorem dX5_set_76 : decode cX5_set 76 = .ok (.aload_n 0, 1) := by decide +kernel
theorem dX5_set_77 : decode cX5_set 77 = .ok (.invokevirtual 40, 3) := by decide +kernel
theorem dX5_set_80 : decode cX5_set 80 = .ok (.aload_n 0, 1) := by decide +kernel
theorem dX5_set_81 : decode cX5_set 81 = .ok (.getfield 7, 3) := by decide +kernel
theorem dX5_set_84 : decode cX5_set 84 = .ok (.iload_n 1, 1) := by decide +kernel
theorem dX5_set_85 : decode cX5_set 85 = .ok (.iaload, 1) := by decide +kernel
theorem dX5_set_86 : decode cX5_set 86 = .ok (.istore 5, 2) := by decide +kernel
theorem dX5_set_88 : decode cX5_set 88 = .ok (.aload_n 0, 1) := by decide +kernel
theorem dX5_set_89 : decode cX5_set 89 = .ok (.getfield 7, 3) := by decide +kernel
theorem dX5_set_92 : decode cX5_set 92 = .ok (.iload_n 1, 1) := by decide +kernel
theorem dX5_set_93 : decode cX5_set 93 = .ok (.iload_n 2, 1) := by decide +kernel
theorem dX5_set_94 : decode cX5_set 94 = .ok (.iastore, 1) := by decide +kernel
theorem dX5_set_95 : decode cX5_set 95 = .ok (.aload_n 0, 1) := by decide +kernel
theorem dX5_set_96 : decode cX5_set 96 = .ok (.iload 5, 2) := by decide +kernel
theorem dX5_set_98 : decode cX5_set 98 = .ok (.invokevirtual 43, 3) := by decide +kernel
theorem dX5_set_101 : decode cX5_set 101 = .ok (.ireturn, 1) := by decide +kernel
set_option maxRecDepth 20000 in
theorem ggX5_landing_X5_remember : GoodIn wsX5_landing wsX5_remember := goodIn_r _ [5, 6, 7, 33, 34, 35, 36, 37, 38, 39, 40, 41, 42, 43, 44, 45, 46] (by decide +kernel) (by decide +kernel)
set_option maxRecDepth 20000 in
theorem gX5_landing_X5_remember : GoodIn wsX5_landing (wsV RX5 40 RX5 yX5_remember wsX5_remember) := goodIn_app (goodIn_of _ (by decide +kernel)) ggX5_landing_X5_remember
set_option maxRecDepth 20000 in
theorem ggX5_landing_X5_comes : GoodIn wsX5_landing wsX5_comes := goodIn_r _ [11, 7, 12, 13, 4, 14, 15, 16, 17, 18, 19, 20, 21, 22, 23, 24, 25, 26, 33, 34, 35, 36, 37, 38, 39, 40, 41, 42, 43, 44, 45, 46] (by decide +kernel) (by decide +kernel)
set_option maxRecDepth 20000 in
theorem gX5_landing_X5_comes : GoodIn wsX5_landing (wsV RX5 99 RX5 yX5_comes wsX5_comes) := goodIn_app (goodIn_of _ (by decide +kernel)) ggX5_landing_X5_comes
set_option maxRecDepth 20000 in
theorem ggX5_landing_X5_record : GoodIn wsX5_landing wsX5_record := goodIn_r _ [30, 31, 32, 6, 33, 34, 35, 36, 37, 38, 39, 40, 41, 42, 43, 44, 45, 46] (by decide +kernel) (by decide +kernel)
set_option maxRecDepth 20000 in
theorem gX5_landing_X5_record : GoodIn wsX5_landing (wsV RX5 43 RX5 yX5_record wsX5_record) := goodIn_app (goodIn_of _ (by decide +kernel)) ggX5_landing_X5_record
theorem dX5_landing_0 : decode cX5_landing 0 = .ok (.aload_n 0, 1) := by decide +kernel
theorem dX5_landing_1 : decode cX5_landing 1 = .ok (.invokevirtual 40, 3) := by decide +kernel
theorem dX5_landing_4 : decode cX5_landing 4 = .ok (.aload_n 0, 1) := by decide +kernel
theorem dX5_landing_5 : decode cX5_landing 5 = .ok (.aload_n 0, 1) := by decide +kernel
theorem dX5_landing_6 : decode cX5_landing 6 = .ok (.iload_n 1, 1) := by decide +kernel
theorem dX5_landing_7 : decode cX5_landing 7 = .ok (.invokevirtual 99, 3) := by decide +kernel
theorem dX5_landing_10 : decode cX5_landing 10 = .ok (.invokevirtual 43, 3) := by decide +kernel
theorem dX5_landing_13 : decode cX5_landing 13 = .ok (.ireturn, 1) := by decide +kernel
set_option maxRecDepth 20000 in
theorem ggX5_open_X5_remember : GoodIn wsX5_open wsX5_remember := goodIn_r _ [5, 6, 7, 49, 50, 51, 52, 53, 54, 55, 56, 57, 58, 59, 60, 61, 62] (by decide +kernel) (by decide +kernel)
set_option maxRecDepth 20000 in
theorem gX5_open_X5_remember : GoodIn wsX5_open (wsV RX5 40 RX5 yX5_remember wsX5_remember) := goodIn_app (goodIn_of _ (by decide +kernel)) ggX5_open_X5_remember
set_option maxRecDepth 20000 in
theorem ggX5_open_X5_turns : GoodIn wsX5_open wsX5_turns := goodIn_r _ [11, 12, 13, 14, 4, 15, 7, 16, 17, 18, 19, 20, 21, 22, 23, 24, 25, 26, 27, 28, 29, 30, 31, 32, 33, 34, 35, 36, 37, 38, 39, 40, 41, 42, 49, 50, 51, 52, 53, 54, 55, 56, 57, 58, 59, 60, 61, 62] (by decide +kernel) (by decide +kernel)
