set_option maxRecDepth 20000 in
theorem ggX3_init_X0_init : GoodIn wsX3_init wsX0_init := goodIn_r _ [24, 25, 2, 3, 26, 27, 28, 29, 30, 31, 42, 43, 44, 45, 46] (by decide +kernel) (by decide +kernel)
set_option maxRecDepth 20000 in
theorem gX3_init_X0_init_n44 : GoodIn wsX3_init (wsX0_init) := ggX3_init_X0_init
set_option maxRecDepth 20000 in
theorem ggX3_init_X1_init : GoodIn wsX3_init wsX1_init := goodIn_r _ [33, 34, 2, 3] (by decide +kernel) (by decide +kernel)
set_option maxRecDepth 20000 in
theorem gX3_init_X1_init_n49 : GoodIn wsX3_init (wsX1_init) := ggX3_init_X1_init
theorem dX3_init_0 : decode cX3_init 0 = .ok (.aload_n 0, 1) := by decide +kernel
theorem dX3_init_1 : decode cX3_init 1 = .ok (.invokespecial 3, 3) := by decide +kernel
theorem dX3_init_4 : decode cX3_init 4 = .ok (.aload_n 0, 1) := by decide +kernel
theorem dX3_init_5 : decode cX3_init 5 = .ok (.getstatic 9, 3) := by decide +kernel
theorem dX3_init_8 : decode cX3_init 8 = .ok (.invokevirtual 13, 3) := by decide +kernel
theorem dX3_init_11 : decode cX3_init 11 = .ok (.checkcast 14, 3) := by decide +kernel
theorem dX3_init_14 : decode cX3_init 14 = .ok (.putfield 18, 3) := by decide +kernel
theorem dX3_init_17 : decode cX3_init 17 = .ok (.aload_n 0, 1) := by decide +kernel
theorem dX3_init_18 : decode cX3_init 18 = .ok (.bipush 8, 2) := by decide +kernel
theorem dX3_init_20 : decode cX3_init 20 = .ok (.anewarray 23, 3) := by decide +kernel
theorem dX3_init_23 : decode cX3_init 23 = .ok (.putfield 25, 3) := by decide +kernel
theorem dX3_init_26 : decode cX3_init 26 = .ok (.aload_n 0, 1) := by decide +kernel
theorem dX3_init_27 : decode cX3_init 27 = .ok (.iconst 0, 1) := by decide +kernel
theorem dX3_init_28 : decode cX3_init 28 = .ok (.putfield 29, 3) := by decide +kernel
theorem dX3_init_31 : decode cX3_init 31 = .ok (.aload_n 0, 1) := by decide +kernel
theorem dX3_init_32 : decode cX3_init 32 = .ok (.iconst 0, 1) := by decide +kernel
theorem dX3_init_33 : decode cX3_init 33 = .ok (.putfield 33, 3) := by decide +kernel
theorem dX3_init_36 : decode cX3_init 36 = .ok (.aload_n 0, 1) := by decide +kernel
theorem dX3_init_37 : decode cX3_init 37 = .ok (.bipush (-6), 2) := by decide +kernel
theorem dX3_init_39 : decode cX3_init 39 = .ok (.putfield 36, 3) := by decide +kernel
theorem dX3_init_42 : decode cX3_init 42 = .ok (.aload_n 0, 1) := by decide +kernel
theorem dX3_init_43 : decode cX3_init 43 = .ok (.iconst 0, 1) := by decide +kernel
theorem dX3_init_44 : decode cX3_init 44 = .ok (.putfield 39, 3) := by decide +kernel
theorem dX3_init_47 : decode cX3_init 47 = .ok (.aload_n 0, 1) := by decide +kernel
theorem dX3_init_48 : decode cX3_init 48 = .ok (.new 42, 3) := by decide +kernel
theorem dX3_init_51 : decode cX3_init 51 = .ok (.dup, 1) := by decide +kernel
theorem dX3_init_52 : decode cX3_init 52 = .ok (.invokespecial 44, 3) := by decide +kernel
theorem dX3_init_55 : decode cX3_init 55 = .ok (.putfield 45, 3) := by decide +kernel
theorem dX3_init_58 : decode cX3_init 58 = .ok (.iconst 0, 1) := by decide +kernel
theorem dX3_init_59 : decode cX3_init 59 = .ok (.istore_n 1, 1) := by decide +kernel
theorem dX3_init_60 : decode cX3_init 60 = .ok (.iload_n 1, 1) := by decide +kernel
theorem dX3_init_61 : decode cX3_init 61 = .ok (.aload_n 0, 1) := by decide +kernel
theorem dX3_init_62 : decode cX3_init 62 = .ok (.getfield 25, 3) := by decide +kernel
theorem dX3_init_65 : decode cX3_init 65 = .ok (.arraylength, 1) := by decide +kernel
theorem dX3_init_66 : decode cX3_init 66 = .ok (.if_icmp .ge 22, 3) := by decide +kernel
theorem dX3_init_69 : decode cX3_init 69 = .ok (.aload_n 0, 1) := by decide +kernel
theorem dX3_init_70 : decode cX3_init 70 = .ok (.getfield 25, 3) := by decide +kernel
theorem dX3_init_73 : decode cX3_init 73 = .ok (.iload_n 1, 1) := by decide +kernel
theorem dX3_init_74 : decode cX3_init 74 = .ok (.new 23, 3) := by decide +kernel
theorem dX3_init_77 : decode cX3_init 77 = .ok (.dup, 1) := by decide +kernel
theorem dX3_init_78 : decode cX3_init 78 = .ok (.invokespecial 49, 3) := by decide +kernel
theorem dX3_init_81 : decode cX3_init 81 = .ok (.aastore, 1) := by decide +kernel
theorem dX3_init_82 : decode cX3_init 82 = .ok (.iinc 1 1, 3) := by decide +kernel
theorem dX3_init_85 : decode cX3_init 85 = .ok (.goto (-25), 3) := by decide +kernel
theorem dX3_init_88 : decode cX3_init 88 = .ok (.return_, 1) := by decide +kernel
set_option maxRecDepth 20000 in
theorem ggX3_copyFrom_X1_copyFrom : GoodIn wsX3_copyFrom wsX1_copyFrom := goodIn_r _ [16, 17, 18, 19, 20, 21, 22, 23, 24, 43, 44, 45, 46, 47, 48, 49, 50] (by decide +kernel) (by decide +kernel)
set_option maxRecDepth 20000 in
theorem gX3_copyFrom_X1_copyFrom : GoodIn wsX3_copyFrom (wsV RX3 56 RX1 yX1_copyFrom wsX1_copyFrom) := goodIn_app (goodIn_of _ (by decide +kernel)) ggX3_copyFrom_X1_copyFrom
set_option maxRecDepth 20000 in
theorem ggX3_copyFrom_X0_copyFrom : GoodIn wsX3_copyFrom wsX0_copyFrom := goodIn_r _ [29, 30, 31, 3, 4, 5, 32, 33, 34, 35, 51, 52, 53, 54, 55] (by decide +kernel) (by decide +kernel)
set_option maxRecDepth 20000 in
theorem gX3_copyFrom_X0_copyFrom : GoodIn wsX3_copyFrom (wsV RX3 60 RX0 yX0_copyFrom wsX0_copyFrom) := goodIn_app (goodIn_of _ (by decide +kernel)) ggX3_copyFrom_X0_copyFrom
theorem dX3_copyFrom_0 : decode cX3_copyFrom 0 = .ok (.aload_n 1, 1) := by decide +kernel
theorem dX3_copyFrom_1 : decode cX3_copyFrom 1 = .ok (.getfield 18, 3) := by decide +kernel
theorem dX3_copyFrom_4 : decode cX3_copyFrom 4 = .ok (.iconst 0, 1) := by decide +kernel
theorem dX3_copyFrom_5 : decode cX3_copyFrom 5 = .ok (.aload_n 0, 1) := by decide +kernel
theorem dX3_copyFrom_6 : decode cX3_copyFrom 6 = .ok (.getfield 18, 3) := by decide +kernel
theorem dX3_copyFrom_9 : decode cX3_copyFrom 9 = .ok (.iconst 0, 1) := by decide +kernel
theorem dX3_copyFrom_10 : decode cX3_copyFrom 10 = .ok (.aload_n 0, 1) := by decide +kernel
theorem dX3_copyFrom_11 : decode cX3_copyFrom 11 = .ok (.getfield 18, 3) := by decide +kernel
theorem dX3_copyFrom_14 : decode cX3_copyFrom 14 = .ok (.arraylength, 1) := by decide +kernel
theorem dX3_copyFrom_15 : decode cX3_copyFrom 15 = .ok (.invokestatic 50, 3) := by decide +kernel
theorem dX3_copyFrom_18 : decode cX3_copyFrom 18 = .ok (.iconst 0, 1) := by decide +kernel
theorem dX3_copyFrom_19 : decode cX3_copyFrom 19 = .ok (.istore_n 2, 1) := by decide +kernel
theorem dX3_copyFrom_20 : decode cX3_copyFrom 20 = .ok (.iload_n 2, 1) := by decide +kernel
theorem dX3_copyFrom_21 : decode cX3_copyFrom 21 = .ok (.aload_n 0, 1) := by decide +kernel
theorem dX3_copyFrom_22 : decode cX3_copyFrom 22 = .ok (.getfield 25, 3) := by decide +kernel
theorem dX3_copyFrom_25 : decode cX3_copyFrom 25 = .ok (.arraylength, 1) := by decide +kernel
theorem dX3_copyFrom_26 : decode cX3_copyFrom 26 = .ok (.if_icmp .ge 24, 3) := by decide +kernel
theorem dX3_copyFrom_29 : decode cX3_copyFrom 29 = .ok (.aload_n 0, 1) := by decide +kernel
theorem dX3_copyFrom_30 : decode cX3_copyFrom 30 = .ok (.getfield 25, 3) := by decide +kernel
theorem dX3_copyFrom_33 : decode cX3_copyFrom 33 = .ok (.iload_n 2, 1) := by decide +kernel
theorem dX3_copyFrom_34 : decode cX3_copyFrom 34 = .ok (.aaload, 1) := by decide +kernel
theorem dX3_copyFrom_35 : decode cX3_copyFrom 35 = .ok (.aload_n 1, 1) := by decide +kernel
theorem dX3_copyFrom_36 : decode cX3_copyFrom 36 = .ok (.getfield 25, 3) := by decide +kernel
theorem dX3_copyFrom_39 : decode cX3_copyFrom 39 = .ok (.iload_n 2, 1) := by decide +kernel
theorem dX3_copyFrom_40 : decode cX3_copyFrom 40 = .ok (.aaload, 1) := by decide +kernel
theorem dX3_copyFrom_41 : decode cX3_copyFrom 41 = .ok (.invokevirtual 56, 3) := by decide +kernel
theorem dX3_copyFrom_44 : decode cX3_copyFrom 44 = .ok (.iinc 2 1, 3) := by decide +kernel
theorem dX3_copyFrom_47 : decode cX3_copyFrom 47 = .ok (.goto (-27), 3) := by decide +kernel
theorem dX3_copyFrom_50 : decode cX3_copyFrom 50 = .ok (.aload_n 0, 1) := by decide +kernel
theorem dX3_copyFrom_51 : decode cX3_copyFrom 51 = .ok (.aload_n 1, 1) := by decide +kernel
theorem dX3_copyFrom_52 : decode cX3_copyFrom 52 = .ok (.getfield 29, 3) := by decide +kernel
theorem dX3_copyFrom_55 : decode cX3_copyFrom 55 = .ok (.putfield 29, 3) := by decide +kernel
theorem dX3_copyFrom_58 : decode cX3_copyFrom 58 = .ok (.aload_n 0, 1) := by decide +kernel
theorem dX3_copyFrom_59 : decode cX3_copyFrom 59 = .ok (.aload_n 1, 1) := by decide +kernel
theorem dX3_copyFrom_60 : decode cX3_copyFrom 60 = .ok (.getfield 33, 3) := by decide +kernel
theorem dX3_copyFrom_63 : decode cX3_copyFrom 63 = .ok (.putfield 33, 3) := by decide +kernel
theorem dX3_copyFrom_66 : decode cX3_copyFrom 66 = .ok (.aload_n 0, 1) := by decide +kernel
theorem dX3_copyFrom_67 : decode cX3_copyFrom 67 = .ok (.aload_n 1, 1) := by decide +kernel
theorem dX3_copyFrom_68 : decode cX3_copyFrom 68 = .ok (.getfield 36, 3) := by decide +kernel
theorem dX3_copyFrom_71 : decode cX3_copyFrom 71 = .ok (.putfield 36, 3) := by decide +kernel
theorem dX3_copyFrom_74 : decode cX3_copyFrom 74 = .ok (.aload_n 0, 1) := by decide +kernel
theorem dX3_copyFrom_75 : decode cX3_copyFrom 75 = .ok (.aload_n 1, 1) := by decide +kernel
theorem dX3_copyFrom_76 : decode cX3_copyFrom 76 = .ok (.getfield 39, 3) := by decide +kernel
theorem dX3_copyFrom_79 : decode cX3_copyFrom 79 = .ok (.putfield 39, 3) := by decide +kernel
theorem dX3_copyFrom_82 : decode cX3_copyFrom 82 = .ok (.aload_n 0, 1) := by decide +kernel
theorem dX3_copyFrom_83 : decode cX3_copyFrom 83 = .ok (.getfield 45, 3) := by decide +kernel
theorem dX3_copyFrom_86 : decode cX3_copyFrom 86 = .ok (.aload_n 1, 1) := by decide +kernel
theorem dX3_copyFrom_87 : decode cX3_copyFrom 87 = .ok (.getfield 45, 3) := by decide +kernel
theorem dX3_copyFrom_90 : decode cX3_copyFrom 90 = .ok (.invokevirtual 60, 3) := by decide +kernel
theorem dX3_copyFrom_93 : decode cX3_copyFrom 93 = .ok (.return_, 1) := by decide +kernel
theorem dX3_find_0 : decode cX3_find 0 = .ok (.iload_n 1, 1) := by decide +kernel
theorem dX3_find_1 : decode cX3_find 1 = .ok (.ifCond .lt 11, 3) := by decide +kernel
theorem dX3_find_4 : decode cX3_find 4 = .ok (.iload_n 1, 1) := by decide +kernel
theorem dX3_find_5 : decode cX3_find 5 = .ok (.aload_n 0, 1) := by decide +kernel
theorem dX3_find_6 : decode cX3_find 6 = .ok (.getfield 29, 3) := by decide +kernel
theorem dX3_find_9 : decode cX3_find 9 = .ok (.if_icmp .lt 7, 3) := by decide +kernel
theorem dX3_find_12 : decode cX3_find 12 = .ok (.aconst_null, 1) := by decide +kernel
theorem dX3_find_13 : decode cX3_find 13 = .ok (.goto 9, 3) := by decide +kernel
theorem dX3_find_16 : decode cX3_find 16 = .ok (.aload_n 0, 1) := by decide +kernel
theorem dX3_find_17 : decode cX3_find 17 = .ok (.getfield 25, 3) := by decide +kernel
theorem dX3_find_20 : decode cX3_find 20 = .ok (.iload_n 1, 1) := by decide +kernel
theorem dX3_find_21 : decode cX3_find 21 = .ok (.aaload, 1) := by decide +kernel
theorem dX3_find_22 : decode cX3_find 22 = .ok (.areturn, 1) := by decide +kernel
theorem dX3_changeSetting_0 : decode cX3_changeSetting 0 = .ok (.iload_n 1, 1) := by decide +kernel
theorem dX3_changeSetting_1 : decode cX3_changeSetting 1 = .ok (.ifCond .lt 12, 3) := by decide +kernel
theorem dX3_changeSetting_4 : decode cX3_changeSetting 4 = .ok (.iload_n 1, 1) := by decide +kernel
theorem dX3_changeSetting_5 : decode cX3_changeSetting 5 = .ok (.aload_n 0, 1) := by decide +kernel
theorem dX3_changeSetting_6 : decode cX3_changeSetting 6 = .ok (.getfield 18, 3) := by decide +kernel
theorem dX3_changeSetting_9 : decode cX3_changeSetting 9 = .ok (.arraylength, 1) := by decide +kernel
theorem dX3_changeSetting_10 : decode cX3_changeSetting 10 = .ok (.if_icmp .lt 6, 3) := by decide +kernel
theorem dX3_changeSetting_13 : decode cX3_changeSetting 13 = .ok (.bipush (-2), 2) := by decide +kernel
theorem dX3_changeSetting_15 : decode cX3_changeSetting 15 = .ok (.ireturn, 1) := by decide +kernel
theorem dX3_changeSetting_16 : decode cX3_changeSetting 16 = .ok (.iload_n 2, 1) := by decide +kernel
theorem dX3_changeSetting_17 : decode cX3_changeSetting 17 = .ok (.getstatic 63, 3) := by decide +kernel
theorem dX3_changeSetting_20 : decode cX3_changeSetting 20 = .ok (.iload_n 1, 1) := by decide +kernel
theorem dX3_changeSetting_21 : decode cX3_changeSetting 21 = .ok (.iaload, 1) := by decide +kernel
theorem dX3_changeSetting_22 : decode cX3_changeSetting 22 = .ok (.if_icmp .lt 12, 3) := by decide +kernel
theorem dX3_changeSetting_25 : decode cX3_changeSetting 25 = .ok (.iload_n 2, 1) := by decide +kernel
theorem dX3_changeSetting_26 : decode cX3_changeSetting 26 = .ok (.getstatic 66, 3) := by decide +kernel
theorem dX3_changeSetting_29 : decode cX3_changeSetting 29 = .ok (.iload_n 1, 1) := by decide +kernel
theorem dX3_changeSetting_30 : decode cX3_changeSetting 30 = .ok (.iaload, 1) := by decide +kernel
theorem dX3_changeSetting_31 : decode cX3_changeSetting 31 = .ok (.if_icmp .le 6, 3) := by decide +kernel
theorem dX3_changeSetting_34 : decode cX3_changeSetting 34 = .ok (.bipush (-2), 2) := by decide +kernel
theorem dX3_changeSetting_36 : decode cX3_changeSetting 36 = .ok (.ireturn, 1) := by decide +kernel
theorem dX3_changeSetting_37 : decode cX3_changeSetting 37 = .ok (.aload_n 0, 1) := by decide +kernel
theorem dX3_changeSetting_38 : decode cX3_changeSetting 38 = .ok (.getfield 18, 3) := by decide +kernel
theorem dX3_changeSetting_41 : decode cX3_changeSetting 41 = .ok (.iload_n 1, 1) := by decide +kernel
theorem dX3_changeSetting_42 : decode cX3_changeSetting 42 = .ok (.iaload, 1) := by decide +kernel
theorem dX3_changeSetting_43 : decode cX3_changeSetting 43 = .ok (.istore_n 3, 1) := by decide +kernel
theorem dX3_changeSetting_44 : decode cX3_changeSetting 44 = .ok (.aload_n 0, 1) := by decide +kernel
theorem dX3_changeSetting_45 : decode cX3_changeSetting 45 = .ok (.getfield 18, 3) := by decide +kernel
theorem dX3_changeSetting_48 : decode cX3_changeSetting 48 = .ok (.iload_n 1, 1) := by decide +kernel
theorem dX3_changeSetting_49 : decode cX3_changeSetting 49 = .ok (.iload_n 2, 1) := by decide +kernel
theorem dX3_changeSetting_50 : decode cX3_changeSetting 50 = .ok (.iastore, 1) := by decide +kernel
theorem dX3_changeSetting_51 : decode cX3_changeSetting 51 = .ok (.iload_n 3, 1) := by decide +kernel
theorem dX3_changeSetting_52 : decode cX3_changeSetting 52 = .ok (.ireturn, 1) := by decide +kernel
set_option maxRecDepth 20000 in
theorem ggX3_addLanding_X1_arrive : GoodIn wsX3_addLanding wsX1_arrive := goodIn_r _ [7, 8, 9, 10, 11, 12, 13, 14, 15, 35, 36, 37, 38, 39, 40, 41, 42] (by decide +kernel) (by decide +kernel)
set_option maxRecDepth 20000 in
theorem gX3_addLanding_X1_arrive : GoodIn wsX3_addLanding (wsV RX3 69 RX1 yX1_arrive wsX1_arrive) := goodIn_app (goodIn_of _ (by decide +kernel)) ggX3_addLanding_X1_arrive
set_option maxRecDepth 20000 in
theorem ggX3_addLanding_X3_followTaken : GoodIn wsX3_addLanding wsX3_followTaken := goodIn_r _ [20, 1, 2, 21, 22, 23, 24, 25, 26, 6, 27, 8, 11, 28, 29, 30, 31, 32, 33, 34, 35, 36, 37, 38, 39, 40, 41, 42] (by decide +kernel) (by decide +kernel)
set_option maxRecDepth 20000 in
theorem gX3_addLanding_X3_followTaken : GoodIn wsX3_addLanding (wsV RX3 73 RX3 yX3_followTaken wsX3_followTaken) := goodIn_app (goodIn_of _ (by decide +kernel)) ggX3_addLanding_X3_followTaken
theorem dX3_addLanding_0 : decode cX3_addLanding 0 = .ok (.iload_n 1, 1) := by decide +kernel
theorem dX3_addLanding_1 : decode cX3_addLanding 1 = .ok (.ifCond .lt 10, 3) := by decide +kernel
theorem dX3_addLanding_4 : decode cX3_addLanding 4 = .ok (.iload_n 1, 1) := by decide +kernel
theorem dX3_addLanding_5 : decode cX3_addLanding 5 = .ok (.sipush 999, 3) := by decide +kernel
theorem dX3_addLanding_8 : decode cX3_addLanding 8 = .ok (.if_icmp .le 6, 3) := by decide +kernel
theorem dX3_addLanding_11 : decode cX3_addLanding 11 = .ok (.bipush (-2), 2) := by decide +kernel
theorem dX3_addLanding_13 : decode cX3_addLanding 13 = .ok (.ireturn, 1) := by decide +kernel
theorem dX3_addLanding_14 : decode cX3_addLanding 14 = .ok (.aload_n 0, 1) := by decide +kernel
theorem dX3_addLanding_15 : decode cX3_addLanding 15 = .ok (.getfield 29, 3) := by decide +kernel
theorem dX3_addLanding_18 : decode cX3_addLanding 18 = .ok (.bipush 8, 2) := by decide +kernel
theorem dX3_addLanding_20 : decode cX3_addLanding 20 = .ok (.if_icmp .lt 6, 3) := by decide +kernel
theorem dX3_addLanding_23 : decode cX3_addLanding 23 = .ok (.bipush (-4), 2) := by decide +kernel
theorem dX3_addLanding_25 : decode cX3_addLanding 25 = .ok (.ireturn, 1) := by decide +kernel
theorem dX3_addLanding_26 : decode cX3_addLanding 26 = .ok (.aload_n 0, 1) := by decide +kernel
theorem dX3_addLanding_27 : decode cX3_addLanding 27 = .ok (.getfield 25, 3) := by decide +kernel
theorem dX3_addLanding_30 : decode cX3_addLanding 30 = .ok (.aload_n 0, 1) := by decide +kernel
theorem dX3_addLanding_31 : decode cX3_addLanding 31 = .ok (.getfield 29, 3) := by decide +kernel
theorem dX3_addLanding_34 : decode cX3_addLanding 34 = .ok (.aaload, 1) := by decide +kernel
theorem dX3_addLanding_35 : decode cX3_addLanding 35 = .ok (.iload_n 1, 1) := by decide +kernel
theorem dX3_addLanding_36 : decode cX3_addLanding 36 = .ok (.invokevirtual 69, 3) := by decide +kernel
theorem dX3_addLanding_39 : decode cX3_addLanding 39 = .ok (.aload_n 0, 1) := by decide +kernel
theorem dX3_addLanding_40 : decode cX3_addLanding 40 = .ok (.dup, 1) := by decide +kernel
theorem dX3_addLanding_41 : decode cX3_addLanding 41 = .ok (.getfield 29, 3) := by decide +kernel
theorem dX3_addLanding_44 : decode cX3_addLanding 44 = .ok (.iconst 1, 1) := by decide +kernel
theorem dX3_addLanding_45 : decode cX3_addLanding 45 = .ok (.iadd, 1) := by decide +kernel
theorem dX3_addLanding_46 : decode cX3_addLanding 46 = .ok (.putfield 29, 3) := by decide +kernel
theorem dX3_addLanding_49 : decode cX3_addLanding 49 = .ok (.aload_n 0, 1) := by decide +kernel
theorem dX3_addLanding_50 : decode cX3_addLanding 50 = .ok (.invokevirtual 73, 3) := by decide +kernel
theorem dX3_addLanding_53 : decode cX3_addLanding 53 = .ok (.aload_n 0, 1) := by decide +kernel
theorem dX3_addLanding_54 : decode cX3_addLanding 54 = .ok (.getfield 29, 3) := by decide +kernel
theorem dX3_addLanding_57 : decode cX3_addLanding 57 = .ok (.iconst 1, 1) := by decide +kernel
theorem dX3_addLanding_58 : decode cX3_addLanding 58 = .ok (.isub, 1) := by decide +kernel
theorem dX3_addLanding_59 : decode cX3_addLanding 59 = .ok (.ireturn, 1) := by decide +kernel
set_option maxRecDepth 20000 in
theorem ggX3_openLanding_X3_find : GoodIn wsX3_openLanding wsX3_find := goodIn_r _ [6, 7, 8, 67, 68, 69, 70, 71, 72, 73] (by decide +kernel) (by decide +kernel)
set_option maxRecDepth 20000 in
theorem gX3_openLanding_X3_find : GoodIn wsX3_openLanding (wsV RX3 76 RX3 yX3_find wsX3_find) := goodIn_app (goodIn_of _ (by decide +kernel)) ggX3_openLanding_X3_find
set_option maxRecDepth 20000 in
theorem ggX3_openLanding_X3_finishChange : GoodIn wsX3_openLanding wsX3_finishChange := goodIn_r _ [12, 13, 14, 15, 16, 17, 18, 19, 20, 21, 22, 23, 24, 25, 26, 27, 28, 29, 30, 31, 32, 5, 33, 34, 35, 36, 37, 38, 39, 40, 41, 42, 43, 44, 45, 46, 47, 48, 49, 50, 7, 8, 51, 52, 53, 54, 55, 56, 57, 58, 67, 68, 69, 70, 71, 72, 73, 59, 60, 61, 62, 63, 64, 65, 66, 74, 75, 76, 77, 78] (by decide +kernel) (by decide +kernel)
set_option maxRecDepth 20000 in
theorem gX3_openLanding_X3_finishChange : GoodIn wsX3_openLanding (wsV RX3 84 RX3 yX3_finishChange wsX3_finishChange) := goodIn_app (goodIn_of _ (by decide +kernel)) ggX3_openLanding_X3_finishChange
theorem dX3_openLanding_0 : decode cX3_openLanding 0 = .ok (.aload_n 0, 1) := by decide +kernel
theorem dX3_openLanding_1 : decode cX3_openLanding 1 = .ok (.iload_n 1, 1) := by decide +kernel
theorem dX3_openLanding_2 : decode cX3_openLanding 2 = .ok (.invokevirtual 76, 3) := by decide +kernel
theorem dX3_openLanding_5 : decode cX3_openLanding 5 = .ok (.astore_n 2, 1) := by decide +kernel
theorem dX3_openLanding_6 : decode cX3_openLanding 6 = .ok (.aload_n 2, 1) := by decide +kernel
theorem dX3_openLanding_7 : decode cX3_openLanding 7 = .ok (.ifnonnull 5, 3) := by decide +kernel
theorem dX3_openLanding_10 : decode cX3_openLanding 10 = .ok (.iconst (-1), 1) := by decide +kernel
theorem dX3_openLanding_11 : decode cX3_openLanding 11 = .ok (.ireturn, 1) := by decide +kernel
theorem dX3_openLanding_12 : decode cX3_openLanding 12 = .ok (.aload_n 2, 1) := by decide +kernel
theorem dX3_openLanding_13 : decode cX3_openLanding 13 = .ok (.getfield 80, 3) := by decide +kernel
theorem dX3_openLanding_16 : decode cX3_openLanding 16 = .ok (.ifCond .eq 6, 3) := by decide +kernel
theorem dX3_openLanding_19 : decode cX3_openLanding 19 = .ok (.bipush (-5), 2) := by decide +kernel
theorem dX3_openLanding_21 : decode cX3_openLanding 21 = .ok (.ireturn, 1) := by decide +kernel
theorem dX3_openLanding_22 : decode cX3_openLanding 22 = .ok (.aload_n 2, 1) := by decide +kernel
theorem dX3_openLanding_23 : decode cX3_openLanding 23 = .ok (.iconst 1, 1) := by decide +kernel
theorem dX3_openLanding_24 : decode cX3_openLanding 24 = .ok (.putfield 80, 3) := by decide +kernel
theorem dX3_openLanding_27 : decode cX3_openLanding 27 = .ok (.aload_n 0, 1) := by decide +kernel
theorem dX3_openLanding_28 : decode cX3_openLanding 28 = .ok (.aload_n 2, 1) := by decide +kernel
theorem dX3_openLanding_29 : decode cX3_openLanding 29 = .ok (.iload_n 1, 1) := by decide +kernel
theorem dX3_openLanding_30 : decode cX3_openLanding 30 = .ok (.iconst 1, 1) := by decide +kernel
theorem dX3_openLanding_31 : decode cX3_openLanding 31 = .ok (.invokevirtual 84, 3) := by decide +kernel
theorem dX3_openLanding_34 : decode cX3_openLanding 34 = .ok (.ireturn, 1) := by decide +kernel
set_option maxRecDepth 20000 in
theorem ggX3_closeLanding_X3_find : GoodIn wsX3_closeLanding wsX3_find := goodIn_r _ [6, 7, 8, 67, 68, 69, 70, 71, 72, 73] (by decide +kernel) (by decide +kernel)
set_option maxRecDepth 20000 in
theorem gX3_closeLanding_X3_find : GoodIn wsX3_closeLanding (wsV RX3 76 RX3 yX3_find wsX3_find) := goodIn_app (goodIn_of _ (by decide +kernel)) ggX3_closeLanding_X3_find
set_option maxRecDepth 20000 in
theorem ggX3_closeLanding_X3_finishChange : GoodIn wsX3_closeLanding wsX3_finishChange := goodIn_r _ [12, 13, 14, 15, 16, 17, 18, 19, 20, 21, 22, 23, 24, 25, 26, 27, 28, 29, 30, 31, 32, 5, 33, 34, 35, 36, 37, 38, 39, 40, 41, 42, 43, 44, 45, 46, 47, 48, 49, 50, 7, 8, 51, 52, 53, 54, 55, 56, 57, 58, 67, 68, 69, 70, 71, 72, 73, 59, 60, 61, 62, 63, 64, 65, 66, 74, 75, 76, 77, 78] (by decide +kernel) (by decide +kernel)
set_option maxRecDepth 20000 in
theorem gX3_closeLanding_X3_finishChange : GoodIn wsX3_closeLanding (wsV RX3 84 RX3 yX3_finishChange wsX3_finishChange) := goodIn_app (goodIn_of _ (by decide +kernel)) ggX3_closeLanding_X3_finishChange
theorem dX3_closeLanding_0 : decode cX3_closeLanding 0 = .ok (.aload_n 0, 1) := by decide +kernel
theorem dX3_closeLanding_1 : decode cX3_closeLanding 1 = .ok (.iload_n 1, 1) := by decide +kernel
theorem dX3_closeLanding_2 : decode cX3_closeLanding 2 = .ok (.invokevirtual 76, 3) := by decide +kernel
theorem dX3_closeLanding_5 : decode cX3_closeLanding 5 = .ok (.astore_n 2, 1) := by decide +kernel
theorem dX3_closeLanding_6 : decode cX3_closeLanding 6 = .ok (.aload_n 2, 1) := by decide +kernel
theorem dX3_closeLanding_7 : decode cX3_closeLanding 7 = .ok (.ifnonnull 5, 3) := by decide +kernel
theorem dX3_closeLanding_10 : decode cX3_closeLanding 10 = .ok (.iconst (-1), 1) := by decide +kernel
theorem dX3_closeLanding_11 : decode cX3_closeLanding 11 = .ok (.ireturn, 1) := by decide +kernel
theorem dX3_closeLanding_12 : decode cX3_closeLanding 12 = .ok (.aload_n 2, 1) := by decide +kernel
theorem dX3_closeLanding_13 : decode cX3_closeLanding 13 = .ok (.getfield 80, 3) := by decide +kernel
theorem dX3_closeLanding_16 : decode cX3_closeLanding 16 = .ok (.ifCond .ne 6, 3) := by decide +kernel
theorem dX3_closeLanding_19 : decode cX3_closeLanding 19 = .ok (.bipush (-5), 2) := by decide +kernel
theorem dX3_closeLanding_21 : decode cX3_closeLanding 21 = .ok (.ireturn, 1) := by decide +kernel
theorem dX3_closeLanding_22 : decode cX3_closeLanding 22 = .ok (.aload_n 2, 1) := by decide +kernel
theorem dX3_closeLanding_23 : decode cX3_closeLanding 23 = .ok (.iconst 0, 1) := by decide +kernel
theorem dX3_closeLanding_24 : decode cX3_closeLanding 24 = .ok (.putfield 80, 3) := by decide +kernel
theorem dX3_closeLanding_27 : decode cX3_closeLanding 27 = .ok (.aload_n 0, 1) := by decide +kernel
theorem dX3_closeLanding_28 : decode cX3_closeLanding 28 = .ok (.aload_n 2, 1) := by decide +kernel
theorem dX3_closeLanding_29 : decode cX3_closeLanding 29 = .ok (.iload_n 1, 1) := by decide +kernel
theorem dX3_closeLanding_30 : decode cX3_closeLanding 30 = .ok (.iconst 0, 1) := by decide +kernel
theorem dX3_closeLanding_31 : decode cX3_closeLanding 31 = .ok (.invokevirtual 84, 3) := by decide +kernel
theorem dX3_closeLanding_34 : decode cX3_closeLanding 34 = .ok (.ireturn, 1) := by decide +kernel
set_option maxRecDepth 20000 in
theorem ggX3_changePrice_X3_find : GoodIn wsX3_changePrice wsX3_find := goodIn_r _ [6, 7, 8, 66, 67, 68, 69, 70, 71, 72] (by decide +kernel) (by decide +kernel)
set_option maxRecDepth 20000 in
theorem gX3_changePrice_X3_find : GoodIn wsX3_changePrice (wsV RX3 76 RX3 yX3_find wsX3_find) := goodIn_app (goodIn_of _ (by decide +kernel)) ggX3_changePrice_X3_find
set_option maxRecDepth 20000 in
theorem ggX3_changePrice_X3_finishChange : GoodIn wsX3_changePrice wsX3_finishChange := goodIn_r _ [12, 13, 14, 15, 16, 17, 18, 19, 20, 21, 22, 23, 24, 25, 26, 27, 28, 29, 30, 31, 32, 5, 33, 34, 35, 36, 37, 38, 39, 40, 41, 42, 43, 44, 45, 46, 47, 48, 49, 50, 7, 8, 1, 51, 52, 53, 54, 55, 56, 57, 66, 67, 68, 69, 70, 71, 72, 58, 59, 60, 61, 62, 63, 64, 65, 73, 74, 75, 76, 77] (by decide +kernel) (by decide +kernel)
set_option maxRecDepth 20000 in
theorem gX3_changePrice_X3_finishChange : GoodIn wsX3_changePrice (wsV RX3 84 RX3 yX3_finishChange wsX3_finishChange) := goodIn_app (goodIn_of _ (by decide +kernel)) ggX3_changePrice_X3_finishChange
theorem dX3_changePrice_0 : decode cX3_changePrice 0 = .ok (.aload_n 0, 1) := by decide +kernel
theorem dX3_changePrice_1 : decode cX3_changePrice 1 = .ok (.iload_n 1, 1) := by decide +kernel
theorem dX3_changePrice_2 : decode cX3_changePrice 2 = .ok (.invokevirtual 76, 3) := by decide +kernel
theorem dX3_changePrice_5 : decode cX3_changePrice 5 = .ok (.astore_n 3, 1) := by decide +kernel
theorem dX3_changePrice_6 : decode cX3_changePrice 6 = .ok (.aload_n 3, 1) := by decide +kernel
theorem dX3_changePrice_7 : decode cX3_changePrice 7 = .ok (.ifnonnull 5, 3) := by decide +kernel
theorem dX3_changePrice_10 : decode cX3_changePrice 10 = .ok (.iconst (-1), 1) := by decide +kernel
theorem dX3_changePrice_11 : decode cX3_changePrice 11 = .ok (.ireturn, 1) := by decide +kernel
theorem dX3_changePrice_12 : decode cX3_changePrice 12 = .ok (.iload_n 2, 1) := by decide +kernel
theorem dX3_changePrice_13 : decode cX3_changePrice 13 = .ok (.ifCond .lt 10, 3) := by decide +kernel
theorem dX3_changePrice_16 : decode cX3_changePrice 16 = .ok (.iload_n 2, 1) := by decide +kernel
theorem dX3_changePrice_17 : decode cX3_changePrice 17 = .ok (.sipush 999, 3) := by decide +kernel
theorem dX3_changePrice_20 : decode cX3_changePrice 20 = .ok (.if_icmp .le 6, 3) := by decide +kernel
theorem dX3_changePrice_23 : decode cX3_changePrice 23 = .ok (.bipush (-2), 2) := by decide +kernel
theorem dX3_changePrice_25 : decode cX3_changePrice 25 = .ok (.ireturn, 1) := by decide +kernel
theorem dX3_changePrice_26 : decode cX3_changePrice 26 = .ok (.aload_n 3, 1) := by decide +kernel
theorem dX3_changePrice_27 : decode cX3_changePrice 27 = .ok (.getfield 88, 3) := by decide +kernel
theorem dX3_changePrice_30 : decode cX3_changePrice 30 = .ok (.iload_n 2, 1) := by decide +kernel
theorem dX3_changePrice_31 : decode cX3_changePrice 31 = .ok (.if_icmp .ne 6, 3) := by decide +kernel
theorem dX3_changePrice_34 : decode cX3_changePrice 34 = .ok (.bipush (-5), 2) := by decide +kernel
theorem dX3_changePrice_36 : decode cX3_changePrice 36 = .ok (.ireturn, 1) := by decide +kernel
theorem dX3_changePrice_37 : decode cX3_changePrice 37 = .ok (.aload_n 3, 1) := by decide +kernel
theorem dX3_changePrice_38 : decode cX3_changePrice 38 = .ok (.iload_n 2, 1) := by decide +kernel
theorem dX3_changePrice_39 : decode cX3_changePrice 39 = .ok (.putfield 88, 3) := by decide +kernel
theorem dX3_changePrice_42 : decode cX3_changePrice 42 = .ok (.aload_n 0, 1) := by decide +kernel
theorem dX3_changePrice_43 : decode cX3_changePrice 43 = .ok (.aload_n 3, 1) := by decide +kernel
theorem dX3_changePrice_44 : decode cX3_changePrice 44 = .ok (.iload_n 1, 1) := by decide +kernel
theorem dX3_changePrice_45 : decode cX3_changePrice 45 = .ok (.iconst 2, 1) := by decide +kernel
theorem dX3_changePrice_46 : decode cX3_changePrice 46 = .ok (.invokevirtual 84, 3) := by decide +kernel
theorem dX3_changePrice_49 : decode cX3_changePrice 49 = .ok (.ireturn, 1) := by decide +kernel
set_option maxRecDepth 20000 in
theorem ggX3_finishChange_X0_add : GoodIn wsX3_finishChange wsX0_add := goodIn_r _ [8, 9, 10, 11, 12, 13, 14, 15, 16, 17, 65, 66, 67, 68, 69] (by decide +kernel) (by decide +kernel)
set_option maxRecDepth 20000 in
theorem gX3_finishChange_X0_add : GoodIn wsX3_finishChange (wsV RX3 91 RX0 yX0_add wsX0_add) := goodIn_app (goodIn_of _ (by decide +kernel)) ggX3_finishChange_X0_add
set_option maxRecDepth 20000 in
theorem ggX3_finishChange_X3_fineBySort : GoodIn wsX3_finishChange wsX3_fineBySort := goodIn_r _ [22, 23, 24, 25, 26, 27, 28, 29, 30, 31, 32, 15, 16, 17, 33, 34, 35, 50, 51, 52, 53, 54, 55, 56, 57, 58, 59, 60, 61, 62, 63, 64] (by decide +kernel) (by decide +kernel)
set_option maxRecDepth 20000 in
theorem gX3_finishChange_X3_fineBySort : GoodIn wsX3_finishChange (wsV RX3 95 RX3 yX3_fineBySort wsX3_fineBySort) := goodIn_app (goodIn_of _ (by decide +kernel)) ggX3_finishChange_X3_fineBySort
set_option maxRecDepth 20000 in
theorem ggX3_finishChange_X3_followTaken : GoodIn wsX3_finishChange wsX3_followTaken := goodIn_r _ [39, 40, 41, 42, 43, 44, 45, 46, 47, 27, 48, 49, 33, 50, 51, 52, 53, 54, 55, 56, 57, 58, 59, 60, 61, 62, 63, 64] (by decide +kernel) (by decide +kernel)
set_option maxRecDepth 20000 in
theorem gX3_finishChange_X3_followTaken : GoodIn wsX3_finishChange (wsV RX3 73 RX3 yX3_followTaken wsX3_followTaken) := goodIn_app (goodIn_of _ (by decide +kernel)) ggX3_finishChange_X3_followTaken
theorem dX3_finishChange_0 : decode cX3_finishChange 0 = .ok (.aload_n 0, 1) := by decide +kernel
theorem dX3_finishChange_1 : decode cX3_finishChange 1 = .ok (.getfield 45, 3) := by decide +kernel
theorem dX3_finishChange_4 : decode cX3_finishChange 4 = .ok (.iload_n 3, 1) := by decide +kernel
theorem dX3_finishChange_5 : decode cX3_finishChange 5 = .ok (.iload_n 2, 1) := by decide +kernel
theorem dX3_finishChange_6 : decode cX3_finishChange 6 = .ok (.aload_n 0, 1) := by decide +kernel
theorem dX3_finishChange_7 : decode cX3_finishChange 7 = .ok (.getfield 33, 3) := by decide +kernel
theorem dX3_finishChange_10 : decode cX3_finishChange 10 = .ok (.invokevirtual 91, 3) := by decide +kernel
theorem dX3_finishChange_13 : decode cX3_finishChange 13 = .ok (.aload_n 0, 1) := by decide +kernel
theorem dX3_finishChange_14 : decode cX3_finishChange 14 = .ok (.aload_n 1, 1) := by decide +kernel
theorem dX3_finishChange_15 : decode cX3_finishChange 15 = .ok (.iload_n 3, 1) := by decide +kernel
theorem dX3_finishChange_16 : decode cX3_finishChange 16 = .ok (.invokevirtual 95, 3) := by decide +kernel
theorem dX3_finishChange_19 : decode cX3_finishChange 19 = .ok (.ifCond .eq 16, 3) := by decide +kernel
theorem dX3_finishChange_22 : decode cX3_finishChange 22 = .ok (.aload_n 0, 1) := by decide +kernel
theorem dX3_finishChange_23 : decode cX3_finishChange 23 = .ok (.getfield 45, 3) := by decide +kernel
theorem dX3_finishChange_26 : decode cX3_finishChange 26 = .ok (.iconst 3, 1) := by decide +kernel
theorem dX3_finishChange_27 : decode cX3_finishChange 27 = .ok (.iload_n 2, 1) := by decide +kernel
theorem dX3_finishChange_28 : decode cX3_finishChange 28 = .ok (.aload_n 0, 1) := by decide +kernel
theorem dX3_finishChange_29 : decode cX3_finishChange 29 = .ok (.getfield 33, 3) := by decide +kernel
theorem dX3_finishChange_32 : decode cX3_finishChange 32 = .ok (.invokevirtual 91, 3) := by decide +kernel
theorem dX3_finishChange_35 : decode cX3_finishChange 35 = .ok (.aload_n 0, 1) := by decide +kernel
theorem dX3_finishChange_36 : decode cX3_finishChange 36 = .ok (.invokevirtual 73, 3) := by decide +kernel
theorem dX3_finishChange_39 : decode cX3_finishChange 39 = .ok (.aload_n 1, 1) := by decide +kernel
theorem dX3_finishChange_40 : decode cX3_finishChange 40 = .ok (.getfield 99, 3) := by decide +kernel
theorem dX3_finishChange_43 : decode cX3_finishChange 43 = .ok (.ireturn, 1) := by decide +kernel
set_option maxRecDepth 20000 in
theorem ggX3_fineBySort_X1_addFine : GoodIn wsX3_fineBySort wsX1_addFine := goodIn_r _ [6, 7, 8, 9, 10, 11, 12, 13, 14, 15, 16, 24, 25, 26, 27, 28, 29, 30, 31] (by decide +kernel) (by decide +kernel)
set_option maxRecDepth 20000 in
theorem gX3_fineBySort_X1_addFine : GoodIn wsX3_fineBySort (wsV RX3 102 RX1 yX1_addFine wsX1_addFine) := goodIn_app (goodIn_of _ (by decide +kernel)) ggX3_fineBySort_X1_addFine
theorem dX3_fineBySort_0 : decode cX3_fineBySort 0 = .ok (.aload_n 1, 1) := by decide +kernel
theorem dX3_fineBySort_1 : decode cX3_fineBySort 1 = .ok (.aload_n 0, 1) := by decide +kernel
theorem dX3_fineBySort_2 : decode cX3_fineBySort 2 = .ok (.getfield 18, 3) := by decide +kernel
theorem dX3_fineBySort_5 : decode cX3_fineBySort 5 = .ok (.iload_n 2, 1) := by decide +kernel
theorem dX3_fineBySort_6 : decode cX3_fineBySort 6 = .ok (.iaload, 1) := by decide +kernel
theorem dX3_fineBySort_7 : decode cX3_fineBySort 7 = .ok (.aload_n 0, 1) := by decide +kernel
theorem dX3_fineBySort_8 : decode cX3_fineBySort 8 = .ok (.getfield 18, 3) := by decide +kernel
theorem dX3_fineBySort_11 : decode cX3_fineBySort 11 = .ok (.iconst 4, 1) := by decide +kernel
theorem dX3_fineBySort_12 : decode cX3_fineBySort 12 = .ok (.iaload, 1) := by decide +kernel
theorem dX3_fineBySort_13 : decode cX3_fineBySort 13 = .ok (.invokevirtual 102, 3) := by decide +kernel
theorem dX3_fineBySort_16 : decode cX3_fineBySort 16 = .ok (.ireturn, 1) := by decide +kernel
set_option maxRecDepth 20000 in
theorem ggX3_passMinutes_X3_passOneMinute : GoodIn wsX3_passMinutes wsX3_passOneMinute := goodIn_r _ [7, 1, 8, 9, 10, 11, 12, 13, 6, 14, 15, 16, 17, 18, 19, 20, 21, 22, 23, 24, 25, 26, 27, 28, 29, 30, 31, 32, 33, 34, 35, 36, 37, 38, 39, 40, 41, 42, 43, 44, 45, 46, 47, 48, 49, 50, 51, 52, 53, 54, 55, 56, 57, 58, 59, 60, 61, 62, 63, 64, 65, 66, 67, 68, 69, 70, 71] (by decide +kernel) (by decide +kernel)
set_option maxRecDepth 20000 in
theorem gX3_passMinutes_X3_passOneMinute : GoodIn wsX3_passMinutes (wsV RX3 107 RX3 yX3_passOneMinute wsX3_passOneMinute) := goodIn_app (goodIn_of _ (by decide +kernel)) ggX3_passMinutes_X3_passOneMinute
theorem dX3_passMinutes_0 : decode cX3_passMinutes 0 = .ok (.iload_n 1, 1) := by decide +kernel
theorem dX3_passMinutes_1 : decode cX3_passMinutes 1 = .ok (.iconst 1, 1) := by decide +kernel
theorem dX3_passMinutes_2 : decode cX3_passMinutes 2 = .ok (.if_icmp .lt 10, 3) := by decide +kernel
theorem dX3_passMinutes_5 : decode cX3_passMinutes 5 = .ok (.iload_n 1, 1) := by decide +kernel
theorem dX3_passMinutes_6 : decode cX3_passMinutes 6 = .ok (.sipush 999, 3) := by decide +kernel
theorem dX3_passMinutes_9 : decode cX3_passMinutes 9 = .ok (.if_icmp .le 6, 3) := by decide +kernel
theorem dX3_passMinutes_12 : decode cX3_passMinutes 12 = .ok (.bipush (-2), 2) := by decide +kernel
theorem dX3_passMinutes_14 : decode cX3_passMinutes 14 = .ok (.ireturn, 1) := by decide +kernel
theorem dX3_passMinutes_15 : decode cX3_passMinutes 15 = .ok (.aload_n 0, 1) := by decide +kernel
theorem dX3_passMinutes_16 : decode cX3_passMinutes 16 = .ok (.getfield 33, 3) := by decide +kernel
theorem dX3_passMinutes_19 : decode cX3_passMinutes 19 = .ok (.iload_n 1, 1) := by decide +kernel
theorem dX3_passMinutes_20 : decode cX3_passMinutes 20 = .ok (.iadd, 1) := by decide +kernel
theorem dX3_passMinutes_21 : decode cX3_passMinutes 21 = .ok (.ldc 106, 2) := by decide +kernel
theorem dX3_passMinutes_23 : decode cX3_passMinutes 23 = .ok (.if_icmp .le 6, 3) := by decide +kernel
theorem dX3_passMinutes_26 : decode cX3_passMinutes 26 = .ok (.bipush (-5), 2) := by decide +kernel
theorem dX3_passMinutes_28 : decode cX3_passMinutes 28 = .ok (.ireturn, 1) := by decide +kernel
theorem dX3_passMinutes_29 : decode cX3_passMinutes 29 = .ok (.iconst 0, 1) := by decide +kernel
theorem dX3_passMinutes_30 : decode cX3_passMinutes 30 = .ok (.istore_n 2, 1) := by decide +kernel
theorem dX3_passMinutes_31 : decode cX3_passMinutes 31 = .ok (.iconst 0, 1) := by decide +kernel
theorem dX3_passMinutes_32 : decode cX3_passMinutes 32 = .ok (.istore_n 3, 1) := by decide +kernel
theorem dX3_passMinutes_33 : decode cX3_passMinutes 33 = .ok (.iload_n 3, 1) := by decide +kernel
theorem dX3_passMinutes_34 : decode cX3_passMinutes 34 = .ok (.iload_n 1, 1) := by decide +kernel
theorem dX3_passMinutes_35 : decode cX3_passMinutes 35 = .ok (.if_icmp .ge 16, 3) := by decide +kernel
theorem dX3_passMinutes_38 : decode cX3_passMinutes 38 = .ok (.iload_n 2, 1) := by decide +kernel
theorem dX3_passMinutes_39 : decode cX3_passMinutes 39 = .ok (.aload_n 0, 1) := by decide +kernel
theorem dX3_passMinutes_40 : decode cX3_passMinutes 40 = .ok (.invokevirtual 107, 3) := by decide +kernel
theorem dX3_passMinutes_43 : decode cX3_passMinutes 43 = .ok (.iadd, 1) := by decide +kernel
theorem dX3_passMinutes_44 : decode cX3_passMinutes 44 = .ok (.istore_n 2, 1) := by decide +kernel
theorem dX3_passMinutes_45 : decode cX3_passMinutes 45 = .ok (.iinc 3 1, 3) := by decide +kernel
theorem dX3_passMinutes_48 : decode cX3_passMinutes 48 = .ok (.goto (-15), 3) := by decide +kernel
theorem dX3_passMinutes_51 : decode cX3_passMinutes 51 = .ok (.iload_n 2, 1) := by decide +kernel
theorem dX3_passMinutes_52 : decode cX3_passMinutes 52 = .ok (.ireturn, 1) := by decide +kernel
set_option maxRecDepth 20000 in
theorem ggX3_passOneMinute_X3_passMinuteOf : GoodIn wsX3_passOneMinute wsX3_passMinuteOf := goodIn_r _ [9, 10, 11, 12, 13, 14, 15, 16, 17, 18, 19, 20, 21, 22, 23, 47, 48, 49, 50, 51, 52, 53, 54, 55, 56, 57, 58, 59, 60, 61] (by decide +kernel) (by decide +kernel)
set_option maxRecDepth 20000 in
theorem gX3_passOneMinute_X3_passMinuteOf : GoodIn wsX3_passOneMinute (wsV RX3 111 RX3 yX3_passMinuteOf wsX3_passMinuteOf) := goodIn_app (goodIn_of _ (by decide +kernel)) ggX3_passOneMinute_X3_passMinuteOf
set_option maxRecDepth 20000 in
theorem ggX3_passOneMinute_X0_add : GoodIn wsX3_passOneMinute wsX0_add := goodIn_r _ [28, 29, 30, 31, 32, 33, 34, 21, 22, 23, 62, 63, 64, 65, 66] (by decide +kernel) (by decide +kernel)
set_option maxRecDepth 20000 in
theorem gX3_passOneMinute_X0_add : GoodIn wsX3_passOneMinute (wsV RX3 91 RX0 yX0_add wsX0_add) := goodIn_app (goodIn_of _ (by decide +kernel)) ggX3_passOneMinute_X0_add
set_option maxRecDepth 20000 in
theorem ggX3_passOneMinute_X3_followTaken : GoodIn wsX3_passOneMinute wsX3_followTaken := goodIn_r _ [38, 2, 3, 39, 40, 41, 42, 43, 44, 14, 45, 46, 18, 47, 48, 49, 50, 51, 52, 53, 54, 55, 56, 57, 58, 59, 60, 61] (by decide +kernel) (by decide +kernel)
set_option maxRecDepth 20000 in
theorem gX3_passOneMinute_X3_followTaken : GoodIn wsX3_passOneMinute (wsV RX3 73 RX3 yX3_followTaken wsX3_followTaken) := goodIn_app (goodIn_of _ (by decide +kernel)) ggX3_passOneMinute_X3_followTaken
theorem dX3_passOneMinute_0 : decode cX3_passOneMinute 0 = .ok (.aload_n 0, 1) := by decide +kernel
theorem dX3_passOneMinute_1 : decode cX3_passOneMinute 1 = .ok (.dup, 1) := by decide +kernel
theorem dX3_passOneMinute_2 : decode cX3_passOneMinute 2 = .ok (.getfield 33, 3) := by decide +kernel
theorem dX3_passOneMinute_5 : decode cX3_passOneMinute 5 = .ok (.iconst 1, 1) := by decide +kernel
theorem dX3_passOneMinute_6 : decode cX3_passOneMinute 6 = .ok (.iadd, 1) := by decide +kernel
theorem dX3_passOneMinute_7 : decode cX3_passOneMinute 7 = .ok (.putfield 33, 3) := by decide +kernel
theorem dX3_passOneMinute_10 : decode cX3_passOneMinute 10 = .ok (.iconst 0, 1) := by decide +kernel
theorem dX3_passOneMinute_11 : decode cX3_passOneMinute 11 = .ok (.istore_n 1, 1) := by decide +kernel
theorem dX3_passOneMinute_12 : decode cX3_passOneMinute 12 = .ok (.iconst 0, 1) := by decide +kernel
theorem dX3_passOneMinute_13 : decode cX3_passOneMinute 13 = .ok (.istore_n 2, 1) := by decide +kernel
theorem dX3_passOneMinute_14 : decode cX3_passOneMinute 14 = .ok (.iload_n 2, 1) := by decide +kernel
theorem dX3_passOneMinute_15 : decode cX3_passOneMinute 15 = .ok (.aload_n 0, 1) := by decide +kernel
theorem dX3_passOneMinute_16 : decode cX3_passOneMinute 16 = .ok (.getfield 29, 3) := by decide +kernel
theorem dX3_passOneMinute_19 : decode cX3_passOneMinute 19 = .ok (.if_icmp .ge 38, 3) := by decide +kernel
theorem dX3_passOneMinute_22 : decode cX3_passOneMinute 22 = .ok (.aload_n 0, 1) := by decide +kernel
theorem dX3_passOneMinute_23 : decode cX3_passOneMinute 23 = .ok (.aload_n 0, 1) := by decide +kernel
theorem dX3_passOneMinute_24 : decode cX3_passOneMinute 24 = .ok (.getfield 25, 3) := by decide +kernel
theorem dX3_passOneMinute_27 : decode cX3_passOneMinute 27 = .ok (.iload_n 2, 1) := by decide +kernel
theorem dX3_passOneMinute_28 : decode cX3_passOneMinute 28 = .ok (.aaload, 1) := by decide +kernel
theorem dX3_passOneMinute_29 : decode cX3_passOneMinute 29 = .ok (.invokevirtual 111, 3) := by decide +kernel
theorem dX3_passOneMinute_32 : decode cX3_passOneMinute 32 = .ok (.ifCond .eq 19, 3) := by decide +kernel
theorem dX3_passOneMinute_35 : decode cX3_passOneMinute 35 = .ok (.aload_n 0, 1) := by decide +kernel
theorem dX3_passOneMinute_36 : decode cX3_passOneMinute 36 = .ok (.getfield 45, 3) := by decide +kernel
theorem dX3_passOneMinute_39 : decode cX3_passOneMinute 39 = .ok (.iconst 4, 1) := by decide +kernel
theorem dX3_passOneMinute_40 : decode cX3_passOneMinute 40 = .ok (.iload_n 2, 1) := by decide +kernel
theorem dX3_passOneMinute_41 : decode cX3_passOneMinute 41 = .ok (.aload_n 0, 1) := by decide +kernel
theorem dX3_passOneMinute_42 : decode cX3_passOneMinute 42 = .ok (.getfield 33, 3) := by decide +kernel
theorem dX3_passOneMinute_45 : decode cX3_passOneMinute 45 = .ok (.invokevirtual 91, 3) := by decide +kernel
theorem dX3_passOneMinute_48 : decode cX3_passOneMinute 48 = .ok (.iinc 1 1, 3) := by decide +kernel
theorem dX3_passOneMinute_51 : decode cX3_passOneMinute 51 = .ok (.iinc 2 1, 3) := by decide +kernel
theorem dX3_passOneMinute_54 : decode cX3_passOneMinute 54 = .ok (.goto (-40), 3) := by decide +kernel
theorem dX3_passOneMinute_57 : decode cX3_passOneMinute 57 = .ok (.iload_n 1, 1) := by decide +kernel
theorem dX3_passOneMinute_58 : decode cX3_passOneMinute 58 = .ok (.ifCond .le 7, 3) := by decide +kernel
theorem dX3_passOneMinute_61 : decode cX3_passOneMinute 61 = .ok (.aload_n 0, 1) := by decide +kernel
theorem dX3_passOneMinute_62 : decode cX3_passOneMinute 62 = .ok (.invokevirtual 73, 3) := by decide +kernel
theorem dX3_passOneMinute_65 : decode cX3_passOneMinute 65 = .ok (.iload_n 1, 1) := by decide +kernel
theorem dX3_passOneMinute_66 : decode cX3_passOneMinute 66 = .ok (.ireturn, 1) := by decide +kernel
set_option maxRecDepth 20000 in
theorem ggX3_passMinuteOf_X1_passMinute : GoodIn wsX3_passMinuteOf wsX1_passMinute := goodIn_r _ [6, 7, 8, 9, 10, 11, 12, 13, 14, 22, 23, 24, 25, 26, 27, 28, 29] (by decide +kernel) (by decide +kernel)
set_option maxRecDepth 20000 in
theorem gX3_passMinuteOf_X1_passMinute : GoodIn wsX3_passMinuteOf (wsV RX3 115 RX1 yX1_passMinute wsX1_passMinute) := goodIn_app (goodIn_of _ (by decide +kernel)) ggX3_passMinuteOf_X1_passMinute
theorem dX3_passMinuteOf_0 : decode cX3_passMinuteOf 0 = .ok (.aload_n 1, 1) := by decide +kernel
theorem dX3_passMinuteOf_1 : decode cX3_passMinuteOf 1 = .ok (.aload_n 0, 1) := by decide +kernel
theorem dX3_passMinuteOf_2 : decode cX3_passMinuteOf 2 = .ok (.getfield 18, 3) := by decide +kernel
theorem dX3_passMinuteOf_5 : decode cX3_passMinuteOf 5 = .ok (.iconst 3, 1) := by decide +kernel
theorem dX3_passMinuteOf_6 : decode cX3_passMinuteOf 6 = .ok (.iaload, 1) := by decide +kernel
theorem dX3_passMinuteOf_7 : decode cX3_passMinuteOf 7 = .ok (.aload_n 0, 1) := by decide +kernel
theorem dX3_passMinuteOf_8 : decode cX3_passMinuteOf 8 = .ok (.getfield 18, 3) := by decide +kernel
theorem dX3_passMinuteOf_11 : decode cX3_passMinuteOf 11 = .ok (.iconst 5, 1) := by decide +kernel
theorem dX3_passMinuteOf_12 : decode cX3_passMinuteOf 12 = .ok (.iaload, 1) := by decide +kernel
theorem dX3_passMinuteOf_13 : decode cX3_passMinuteOf 13 = .ok (.aload_n 0, 1) := by decide +kernel
theorem dX3_passMinuteOf_14 : decode cX3_passMinuteOf 14 = .ok (.getfield 18, 3) := by decide +kernel
theorem dX3_passMinuteOf_17 : decode cX3_passMinuteOf 17 = .ok (.bipush 6, 2) := by decide +kernel
theorem dX3_passMinuteOf_19 : decode cX3_passMinuteOf 19 = .ok (.iaload, 1) := by decide +kernel
theorem dX3_passMinuteOf_20 : decode cX3_passMinuteOf 20 = .ok (.invokevirtual 115, 3) := by decide +kernel
theorem dX3_passMinuteOf_23 : decode cX3_passMinuteOf 23 = .ok (.ireturn, 1) := by decide +kernel
set_option maxRecDepth 20000 in
theorem ggX3_followTaken_X1_canBeTaken : GoodIn wsX3_followTaken wsX1_canBeTaken := goodIn_r _ [10, 11, 12, 20, 21, 22, 23, 24, 25, 26, 27] (by decide +kernel) (by decide +kernel)
set_option maxRecDepth 20000 in
theorem gX3_followTaken_X1_canBeTaken : GoodIn wsX3_followTaken (wsV RX3 131 RX1 yX1_canBeTaken wsX1_canBeTaken) := goodIn_app (goodIn_of _ (by decide +kernel)) ggX3_followTaken_X1_canBeTaken
theorem dX3_followTaken_0 : decode cX3_followTaken 0 = .ok (.bipush (-6), 2) := by decide +kernel
theorem dX3_followTaken_2 : decode cX3_followTaken 2 = .ok (.istore_n 1, 1) := by decide +kernel
theorem dX3_followTaken_3 : decode cX3_followTaken 3 = .ok (.iconst 0, 1) := by decide +kernel
theorem dX3_followTaken_4 : decode cX3_followTaken 4 = .ok (.istore_n 2, 1) := by decide +kernel
theorem dX3_followTaken_5 : decode cX3_followTaken 5 = .ok (.iload_n 2, 1) := by decide +kernel
theorem dX3_followTaken_6 : decode cX3_followTaken 6 = .ok (.aload_n 0, 1) := by decide +kernel
theorem dX3_followTaken_7 : decode cX3_followTaken 7 = .ok (.getfield 29, 3) := by decide +kernel
theorem dX3_followTaken_10 : decode cX3_followTaken 10 = .ok (.if_icmp .ge 48, 3) := by decide +kernel
theorem dX3_followTaken_13 : decode cX3_followTaken 13 = .ok (.aload_n 0, 1) := by decide +kernel
theorem dX3_followTaken_14 : decode cX3_followTaken 14 = .ok (.getfield 25, 3) := by decide +kernel
theorem dX3_followTaken_17 : decode cX3_followTaken 17 = .ok (.iload_n 2, 1) := by decide +kernel
theorem dX3_followTaken_18 : decode cX3_followTaken 18 = .ok (.aaload, 1) := by decide +kernel
theorem dX3_followTaken_19 : decode cX3_followTaken 19 = .ok (.invokevirtual 131, 3) := by decide +kernel
theorem dX3_followTaken_22 : decode cX3_followTaken 22 = .ok (.ifCond .eq 30, 3) := by decide +kernel
theorem dX3_followTaken_25 : decode cX3_followTaken 25 = .ok (.iload_n 1, 1) := by decide +kernel
theorem dX3_followTaken_26 : decode cX3_followTaken 26 = .ok (.ifCond .lt 24, 3) := by decide +kernel
theorem dX3_followTaken_29 : decode cX3_followTaken 29 = .ok (.aload_n 0, 1) := by decide +kernel
theorem dX3_followTaken_30 : decode cX3_followTaken 30 = .ok (.getfield 25, 3) := by decide +kernel
theorem dX3_followTaken_33 : decode cX3_followTaken 33 = .ok (.iload_n 2, 1) := by decide +kernel
theorem dX3_followTaken_34 : decode cX3_followTaken 34 = .ok (.aaload, 1) := by decide +kernel
theorem dX3_followTaken_35 : decode cX3_followTaken 35 = .ok (.getfield 88, 3) := by decide +kernel
theorem dX3_followTaken_38 : decode cX3_followTaken 38 = .ok (.aload_n 0, 1) := by decide +kernel
theorem dX3_followTaken_39 : decode cX3_followTaken 39 = .ok (.getfield 25, 3) := by decide +kernel
theorem dX3_followTaken_42 : decode cX3_followTaken 42 = .ok (.iload_n 1, 1) := by decide +kernel
theorem dX3_followTaken_43 : decode cX3_followTaken 43 = .ok (.aaload, 1) := by decide +kernel
theorem dX3_followTaken_44 : decode cX3_followTaken 44 = .ok (.getfield 88, 3) := by decide +kernel
theorem dX3_followTaken_47 : decode cX3_followTaken 47 = .ok (.if_icmp .ge 5, 3) := by decide +kernel
theorem dX3_followTaken_50 : decode cX3_followTaken 50 = .ok (.iload_n 2, 1) := by decide +kernel
theorem dX3_followTaken_51 : decode cX3_followTaken 51 = .ok (.istore_n 1, 1) := by decide +kernel
theorem dX3_followTaken_52 : decode cX3_followTaken 52 = .ok (.iinc 2 1, 3) := by decide +kernel
theorem dX3_followTaken_55 : decode cX3_followTaken 55 = .ok (.goto (-50), 3) := by decide +kernel
theorem dX3_followTaken_58 : decode cX3_followTaken 58 = .ok (.iload_n 1, 1) := by decide +kernel
theorem dX3_followTaken_59 : decode cX3_followTaken 59 = .ok (.aload_n 0, 1) := by decide +kernel
theorem dX3_followTaken_60 : decode cX3_followTaken 60 = .ok (.getfield 36, 3) := by decide +kernel
theorem dX3_followTaken_63 : decode cX3_followTaken 63 = .ok (.if_icmp .eq 18, 3) := by decide +kernel
theorem dX3_followTaken_66 : decode cX3_followTaken 66 = .ok (.aload_n 0, 1) := by decide +kernel
theorem dX3_followTaken_67 : decode cX3_followTaken 67 = .ok (.iload_n 1, 1) := by decide +kernel
theorem dX3_followTaken_68 : decode cX3_followTaken 68 = .ok (.putfield 36, 3) := by decide +kernel
theorem dX3_followTaken_71 : decode cX3_followTaken 71 = .ok (.aload_n 0, 1) := by decide +kernel
theorem dX3_followTaken_72 : decode cX3_followTaken 72 = .ok (.dup, 1) := by decide +kernel
theorem dX3_followTaken_73 : decode cX3_followTaken 73 = .ok (.getfield 39, 3) := by decide +kernel
theorem dX3_followTaken_76 : decode cX3_followTaken 76 = .ok (.iconst 1, 1) := by decide +kernel
theorem dX3_followTaken_77 : decode cX3_followTaken 77 = .ok (.iadd, 1) := by decide +kernel
theorem dX3_followTaken_78 : decode cX3_followTaken 78 = .ok (.putfield 39, 3) := by decide +kernel
theorem dX3_followTaken_81 : decode cX3_followTaken 81 = .ok (.return_, 1) := by decide +kernel
set_option maxRecDepth 20000 in
theorem ggX3_chosen_X1_canBeTaken : GoodIn wsX3_chosen wsX1_canBeTaken := goodIn_r _ [7, 8, 9, 23, 24, 25, 26, 27, 28, 29, 30] (by decide +kernel) (by decide +kernel)
set_option maxRecDepth 20000 in
theorem gX3_chosen_X1_canBeTaken : GoodIn wsX3_chosen (wsV RX3 131 RX1 yX1_canBeTaken wsX1_canBeTaken) := goodIn_app (goodIn_of _ (by decide +kernel)) ggX3_chosen_X1_canBeTaken
set_option maxRecDepth 20000 in
theorem ggX3_chosen_X3_rankOf : GoodIn wsX3_chosen wsX3_rankOf := goodIn_r _ [14, 2, 15, 1, 3, 4, 5, 6, 7, 8, 9, 16, 17, 18, 19, 20, 21, 22, 23, 24, 25, 26, 27, 28, 29, 30] (by decide +kernel) (by decide +kernel)
set_option maxRecDepth 20000 in
theorem gX3_chosen_X3_rankOf : GoodIn wsX3_chosen (wsV RX3 135 RX3 yX3_rankOf wsX3_rankOf) := goodIn_app (goodIn_of _ (by decide +kernel)) ggX3_chosen_X3_rankOf
theorem dX3_chosen_0 : decode cX3_chosen 0 = .ok (.iconst 0, 1) := by decide +kernel
theorem dX3_chosen_1 : decode cX3_chosen 1 = .ok (.istore_n 2, 1) := by decide +kernel
theorem dX3_chosen_2 : decode cX3_chosen 2 = .ok (.iload_n 2, 1) := by decide +kernel
theorem dX3_chosen_3 : decode cX3_chosen 3 = .ok (.aload_n 0, 1) := by decide +kernel
theorem dX3_chosen_4 : decode cX3_chosen 4 = .ok (.getfield 29, 3) := by decide +kernel
theorem dX3_chosen_7 : decode cX3_chosen 7 = .ok (.if_icmp .ge 32, 3) := by decide +kernel
theorem dX3_chosen_10 : decode cX3_chosen 10 = .ok (.aload_n 0, 1) := by decide +kernel
theorem dX3_chosen_11 : decode cX3_chosen 11 = .ok (.getfield 25, 3) := by decide +kernel
theorem dX3_chosen_14 : decode cX3_chosen 14 = .ok (.iload_n 2, 1) := by decide +kernel
theorem dX3_chosen_15 : decode cX3_chosen 15 = .ok (.aaload, 1) := by decide +kernel
theorem dX3_chosen_16 : decode cX3_chosen 16 = .ok (.invokevirtual 131, 3) := by decide +kernel
theorem dX3_chosen_19 : decode cX3_chosen 19 = .ok (.ifCond .eq 14, 3) := by decide +kernel
theorem dX3_chosen_22 : decode cX3_chosen 22 = .ok (.aload_n 0, 1) := by decide +kernel
theorem dX3_chosen_23 : decode cX3_chosen 23 = .ok (.iload_n 2, 1) := by decide +kernel
theorem dX3_chosen_24 : decode cX3_chosen 24 = .ok (.invokevirtual 135, 3) := by decide +kernel
theorem dX3_chosen_27 : decode cX3_chosen 27 = .ok (.iload_n 1, 1) := by decide +kernel
theorem dX3_chosen_28 : decode cX3_chosen 28 = .ok (.if_icmp .ne 5, 3) := by decide +kernel
theorem dX3_chosen_31 : decode cX3_chosen 31 = .ok (.iload_n 2, 1) := by decide +kernel
theorem dX3_chosen_32 : decode cX3_chosen 32 = .ok (.ireturn, 1) := by decide +kernel
theorem dX3_chosen_33 : decode cX3_chosen 33 = .ok (.iinc 2 1, 3) := by decide +kernel
theorem dX3_chosen_36 : decode cX3_chosen 36 = .ok (.goto (-34), 3) := by decide +kernel
theorem dX3_chosen_39 : decode cX3_chosen 39 = .ok (.iconst (-1), 1) := by decide +kernel
theorem dX3_chosen_40 : decode cX3_chosen 40 = .ok (.ireturn, 1) := by decide +kernel
set_option maxRecDepth 20000 in
theorem ggX3_rankOf_X1_canBeTaken : GoodIn wsX3_rankOf wsX1_canBeTaken := goodIn_r _ [8, 9, 10, 18, 19, 20, 21, 22, 23, 24, 25] (by decide +kernel) (by decide +kernel)
set_option maxRecDepth 20000 in
theorem gX3_rankOf_X1_canBeTaken : GoodIn wsX3_rankOf (wsV RX3 131 RX1 yX1_canBeTaken wsX1_canBeTaken) := goodIn_app (goodIn_of _ (by decide +kernel)) ggX3_rankOf_X1_canBeTaken
theorem dX3_rankOf_0 : decode cX3_rankOf 0 = .ok (.iconst 0, 1) := by decide +kernel
theorem dX3_rankOf_1 : decode cX3_rankOf 1 = .ok (.istore_n 2, 1) := by decide +kernel
theorem dX3_rankOf_2 : decode cX3_rankOf 2 = .ok (.aload_n 0, 1) := by decide +kernel
theorem dX3_rankOf_3 : decode cX3_rankOf 3 = .ok (.getfield 25, 3) := by decide +kernel
theorem dX3_rankOf_6 : decode cX3_rankOf 6 = .ok (.iload_n 1, 1) := by decide +kernel
theorem dX3_rankOf_7 : decode cX3_rankOf 7 = .ok (.aaload, 1) := by decide +kernel
theorem dX3_rankOf_8 : decode cX3_rankOf 8 = .ok (.getfield 88, 3) := by decide +kernel
theorem dX3_rankOf_11 : decode cX3_rankOf 11 = .ok (.istore_n 3, 1) := by decide +kernel
theorem dX3_rankOf_12 : decode cX3_rankOf 12 = .ok (.iconst 0, 1) := by decide +kernel
theorem dX3_rankOf_13 : decode cX3_rankOf 13 = .ok (.istore 4, 2) := by decide +kernel
theorem dX3_rankOf_15 : decode cX3_rankOf 15 = .ok (.iload 4, 2) := by decide +kernel
theorem dX3_rankOf_17 : decode cX3_rankOf 17 = .ok (.aload_n 0, 1) := by decide +kernel
theorem dX3_rankOf_18 : decode cX3_rankOf 18 = .ok (.getfield 29, 3) := by decide +kernel
theorem dX3_rankOf_21 : decode cX3_rankOf 21 = .ok (.if_icmp .ge 53, 3) := by decide +kernel
theorem dX3_rankOf_24 : decode cX3_rankOf 24 = .ok (.aload_n 0, 1) := by decide +kernel
theorem dX3_rankOf_25 : decode cX3_rankOf 25 = .ok (.getfield 25, 3) := by decide +kernel
theorem dX3_rankOf_28 : decode cX3_rankOf 28 = .ok (.iload 4, 2) := by decide +kernel
theorem dX3_rankOf_30 : decode cX3_rankOf 30 = .ok (.aaload, 1) := by decide +kernel
theorem dX3_rankOf_31 : decode cX3_rankOf 31 = .ok (.astore 5, 2) := by decide +kernel
theorem dX3_rankOf_33 : decode cX3_rankOf 33 = .ok (.aload 5, 2) := by decide +kernel
theorem dX3_rankOf_35 : decode cX3_rankOf 35 = .ok (.invokevirtual 131, 3) := by decide +kernel
theorem dX3_rankOf_38 : decode cX3_rankOf 38 = .ok (.ifCond .eq 30, 3) := by decide +kernel
theorem dX3_rankOf_41 : decode cX3_rankOf 41 = .ok (.aload 5, 2) := by decide +kernel
theorem dX3_rankOf_43 : decode cX3_rankOf 43 = .ok (.getfield 88, 3) := by decide +kernel
theorem dX3_rankOf_46 : decode cX3_rankOf 46 = .ok (.iload_n 3, 1) := by decide +kernel
theorem dX3_rankOf_47 : decode cX3_rankOf 47 = .ok (.if_icmp .lt 18, 3) := by decide +kernel
theorem dX3_rankOf_50 : decode cX3_rankOf 50 = .ok (.aload 5, 2) := by decide +kernel
theorem dX3_rankOf_52 : decode cX3_rankOf 52 = .ok (.getfield 88, 3) := by decide +kernel
theorem dX3_rankOf_55 : decode cX3_rankOf 55 = .ok (.iload_n 3, 1) := by decide +kernel
theorem dX3_rankOf_56 : decode cX3_rankOf 56 = .ok (.if_icmp .ne 12, 3) := by decide +kernel
theorem dX3_rankOf_59 : decode cX3_rankOf 59 = .ok (.iload 4, 2) := by decide +kernel
theorem dX3_rankOf_61 : decode cX3_rankOf 61 = .ok (.iload_n 1, 1) := by decide +kernel
theorem dX3_rankOf_62 : decode cX3_rankOf 62 = .ok (.if_icmp .ge 6, 3) := by decide +kernel
theorem dX3_rankOf_65 : decode cX3_rankOf 65 = .ok (.iinc 2 1, 3) := by decide +kernel
theorem dX3_rankOf_68 : decode cX3_rankOf 68 = .ok (.iinc 4 1, 3) := by decide +kernel
theorem dX3_rankOf_71 : decode cX3_rankOf 71 = .ok (.goto (-56), 3) := by decide +kernel
theorem dX3_rankOf_74 : decode cX3_rankOf 74 = .ok (.iload_n 2, 1) := by decide +kernel
theorem dX3_rankOf_75 : decode cX3_rankOf 75 = .ok (.ireturn, 1) := by decide +kernel
set_option maxRecDepth 20000 in
theorem ggX3_tell_X3_openOnes : GoodIn wsX3_tell wsX3_openOnes := goodIn_r _ [12, 2, 13, 14, 20, 21, 22, 23, 24, 25, 26, 32, 33, 34, 35, 36, 37, 38, 39] (by decide +kernel) (by decide +kernel)
set_option maxRecDepth 20000 in
theorem gX3_tell_X3_openOnes : GoodIn wsX3_tell (wsV RX3 139 RX3 yX3_openOnes wsX3_openOnes) := goodIn_app (goodIn_of _ (by decide +kernel)) ggX3_tell_X3_openOnes
set_option maxRecDepth 20000 in
theorem ggX3_tell_X3_shunnedOnes : GoodIn wsX3_tell wsX3_shunnedOnes := goodIn_r _ [18, 2, 13, 19, 20, 21, 22, 23, 24, 25, 26, 32, 33, 34, 35, 36, 37, 38, 39] (by decide +kernel) (by decide +kernel)
set_option maxRecDepth 20000 in
theorem gX3_tell_X3_shunnedOnes : GoodIn wsX3_tell (wsV RX3 142 RX3 yX3_shunnedOnes wsX3_shunnedOnes) := goodIn_app (goodIn_of _ (by decide +kernel)) ggX3_tell_X3_shunnedOnes
theorem dX3_tell_0 : decode cX3_tell 0 = .ok (.iload_n 1, 1) := by decide +kernel
theorem dX3_tell_1 : decode cX3_tell 1 = .ok (.tableswitch 81 0 6 #[43, 48, 53, 58, 63, 68, 73], 43) := by decide +kernel
theorem dX3_tell_44 : decode cX3_tell 44 = .ok (.aload_n 0, 1) := by decide +kernel
theorem dX3_tell_45 : decode cX3_tell 45 = .ok (.getfield 33, 3) := by decide +kernel
theorem dX3_tell_48 : decode cX3_tell 48 = .ok (.ireturn, 1) := by decide +kernel
theorem dX3_tell_49 : decode cX3_tell 49 = .ok (.aload_n 0, 1) := by decide +kernel
theorem dX3_tell_50 : decode cX3_tell 50 = .ok (.getfield 29, 3) := by decide +kernel
theorem dX3_tell_53 : decode cX3_tell 53 = .ok (.ireturn, 1) := by decide +kernel
theorem dX3_tell_54 : decode cX3_tell 54 = .ok (.aload_n 0, 1) := by decide +kernel
theorem dX3_tell_55 : decode cX3_tell 55 = .ok (.invokevirtual 139, 3) := by decide +kernel
theorem dX3_tell_58 : decode cX3_tell 58 = .ok (.ireturn, 1) := by decide +kernel
theorem dX3_tell_59 : decode cX3_tell 59 = .ok (.aload_n 0, 1) := by decide +kernel
theorem dX3_tell_60 : decode cX3_tell 60 = .ok (.invokevirtual 142, 3) := by decide +kernel
theorem dX3_tell_63 : decode cX3_tell 63 = .ok (.ireturn, 1) := by decide +kernel
theorem dX3_tell_64 : decode cX3_tell 64 = .ok (.aload_n 0, 1) := by decide +kernel
theorem dX3_tell_65 : decode cX3_tell 65 = .ok (.getfield 36, 3) := by decide +kernel
theorem dX3_tell_68 : decode cX3_tell 68 = .ok (.ireturn, 1) := by decide +kernel
theorem dX3_tell_69 : decode cX3_tell 69 = .ok (.aload_n 0, 1) := by decide +kernel
theorem dX3_tell_70 : decode cX3_tell 70 = .ok (.getfield 39, 3) := by decide +kernel
theorem dX3_tell_73 : decode cX3_tell 73 = .ok (.ireturn, 1) := by decide +kernel
theorem dX3_tell_74 : decode cX3_tell 74 = .ok (.aload_n 0, 1) := by decide +kernel
theorem dX3_tell_75 : decode cX3_tell 75 = .ok (.getfield 45, 3) := by decide +kernel
theorem dX3_tell_78 : decode cX3_tell 78 = .ok (.getfield 145, 3) := by decide +kernel
theorem dX3_tell_81 : decode cX3_tell 81 = .ok (.ireturn, 1) := by decide +kernel
theorem dX3_tell_82 : decode cX3_tell 82 = .ok (.iload_n 1, 1) := by decide +kernel
theorem dX3_tell_83 : decode cX3_tell 83 = .ok (.bipush 7, 2) := by decide +kernel
theorem dX3_tell_85 : decode cX3_tell 85 = .ok (.if_icmp .lt 27, 3) := by decide +kernel
theorem dX3_tell_88 : decode cX3_tell 88 = .ok (.iload_n 1, 1) := by decide +kernel
theorem dX3_tell_89 : decode cX3_tell 89 = .ok (.bipush 7, 2) := by decide +kernel
theorem dX3_tell_91 : decode cX3_tell 91 = .ok (.isub, 1) := by decide +kernel
theorem dX3_tell_92 : decode cX3_tell 92 = .ok (.aload_n 0, 1) := by decide +kernel
theorem dX3_tell_93 : decode cX3_tell 93 = .ok (.getfield 18, 3) := by decide +kernel
theorem dX3_tell_96 : decode cX3_tell 96 = .ok (.arraylength, 1) := by decide +kernel
theorem dX3_tell_97 : decode cX3_tell 97 = .ok (.if_icmp .ge 15, 3) := by decide +kernel
theorem dX3_tell_100 : decode cX3_tell 100 = .ok (.aload_n 0, 1) := by decide +kernel
theorem dX3_tell_101 : decode cX3_tell 101 = .ok (.getfield 18, 3) := by decide +kernel
theorem dX3_tell_104 : decode cX3_tell 104 = .ok (.iload_n 1, 1) := by decide +kernel
theorem dX3_tell_105 : decode cX3_tell 105 = .ok (.bipush 7, 2) := by decide +kernel
theorem dX3_tell_107 : decode cX3_tell 107 = .ok (.isub, 1) := by decide +kernel
theorem dX3_tell_108 : decode cX3_tell 108 = .ok (.iaload, 1) := by decide +kernel
theorem dX3_tell_109 : decode cX3_tell 109 = .ok (.goto 5, 3) := by decide +kernel
theorem dX3_tell_112 : decode cX3_tell 112 = .ok (.bipush (-2), 2) := by decide +kernel
theorem dX3_tell_114 : decode cX3_tell 114 = .ok (.ireturn, 1) := by decide +kernel
theorem dX3_openOnes_0 : decode cX3_openOnes 0 = .ok (.iconst 0, 1) := by decide +kernel
theorem dX3_openOnes_1 : decode cX3_openOnes 1 = .ok (.istore_n 1, 1) := by decide +kernel
theorem dX3_openOnes_2 : decode cX3_openOnes 2 = .ok (.iconst 0, 1) := by decide +kernel
theorem dX3_openOnes_3 : decode cX3_openOnes 3 = .ok (.istore_n 2, 1) := by decide +kernel
theorem dX3_openOnes_4 : decode cX3_openOnes 4 = .ok (.iload_n 2, 1) := by decide +kernel
theorem dX3_openOnes_5 : decode cX3_openOnes 5 = .ok (.aload_n 0, 1) := by decide +kernel
theorem dX3_openOnes_6 : decode cX3_openOnes 6 = .ok (.getfield 29, 3) := by decide +kernel
theorem dX3_openOnes_9 : decode cX3_openOnes 9 = .ok (.if_icmp .ge 27, 3) := by decide +kernel
theorem dX3_openOnes_12 : decode cX3_openOnes 12 = .ok (.aload_n 0, 1) := by decide +kernel
theorem dX3_openOnes_13 : decode cX3_openOnes 13 = .ok (.getfield 25, 3) := by decide +kernel
theorem dX3_openOnes_16 : decode cX3_openOnes 16 = .ok (.iload_n 2, 1) := by decide +kernel
theorem dX3_openOnes_17 : decode cX3_openOnes 17 = .ok (.aaload, 1) := by decide +kernel
theorem dX3_openOnes_18 : decode cX3_openOnes 18 = .ok (.getfield 80, 3) := by decide +kernel
theorem dX3_openOnes_21 : decode cX3_openOnes 21 = .ok (.ifCond .eq 9, 3) := by decide +kernel
theorem dX3_openOnes_24 : decode cX3_openOnes 24 = .ok (.iload_n 1, 1) := by decide +kernel
theorem dX3_openOnes_25 : decode cX3_openOnes 25 = .ok (.iconst 1, 1) := by decide +kernel
theorem dX3_openOnes_26 : decode cX3_openOnes 26 = .ok (.iload_n 2, 1) := by decide +kernel
theorem dX3_openOnes_27 : decode cX3_openOnes 27 = .ok (.ishl, 1) := by decide +kernel
theorem dX3_openOnes_28 : decode cX3_openOnes 28 = .ok (.ior, 1) := by decide +kernel
theorem dX3_openOnes_29 : decode cX3_openOnes 29 = .ok (.istore_n 1, 1) := by decide +kernel
theorem dX3_openOnes_30 : decode cX3_openOnes 30 = .ok (.iinc 2 1, 3) := by decide +kernel
theorem dX3_openOnes_33 : decode cX3_openOnes 33 = .ok (.goto (-29), 3) := by decide +kernel
theorem dX3_openOnes_36 : decode cX3_openOnes 36 = .ok (.iload_n 1, 1) := by decide +kernel
theorem dX3_openOnes_37 : decode cX3_openOnes 37 = .ok (.ireturn, 1) := by decide +kernel
theorem dX3_shunnedOnes_0 : decode cX3_shunnedOnes 0 = .ok (.iconst 0, 1) := by decide +kernel
theorem dX3_shunnedOnes_1 : decode cX3_shunnedOnes 1 = .ok (.istore_n 1, 1) := by decide +kernel
theorem dX3_shunnedOnes_2 : decode cX3_shunnedOnes 2 = .ok (.iconst 0, 1) := by decide +kernel
theorem dX3_shunnedOnes_3 : decode cX3_shunnedOnes 3 = .ok (.istore_n 2, 1) := by decide +kernel
theorem dX3_shunnedOnes_4 : decode cX3_shunnedOnes 4 = .ok (.iload_n 2, 1) := by decide +kernel
theorem dX3_shunnedOnes_5 : decode cX3_shunnedOnes 5 = .ok (.aload_n 0, 1) := by decide +kernel
theorem dX3_shunnedOnes_6 : decode cX3_shunnedOnes 6 = .ok (.getfield 29, 3) := by decide +kernel
theorem dX3_shunnedOnes_9 : decode cX3_shunnedOnes 9 = .ok (.if_icmp .ge 27, 3) := by decide +kernel
theorem dX3_shunnedOnes_12 : decode cX3_shunnedOnes 12 = .ok (.aload_n 0, 1) := by decide +kernel
theorem dX3_shunnedOnes_13 : decode cX3_shunnedOnes 13 = .ok (.getfield 25, 3) := by decide +kernel
theorem dX3_shunnedOnes_16 : decode cX3_shunnedOnes 16 = .ok (.iload_n 2, 1) := by decide +kernel
theorem dX3_shunnedOnes_17 : decode cX3_shunnedOnes 17 = .ok (.aaload, 1) := by decide +kernel
theorem dX3_shunnedOnes_18 : decode cX3_shunnedOnes 18 = .ok (.getfield 148, 3) := by decide +kernel
theorem dX3_shunnedOnes_21 : decode cX3_shunnedOnes 21 = .ok (.ifCond .eq 9, 3) := by decide +kernel
theorem dX3_shunnedOnes_24 : decode cX3_shunnedOnes 24 = .ok (.iload_n 1, 1) := by decide +kernel
theorem dX3_shunnedOnes_25 : decode cX3_shunnedOnes 25 = .ok (.iconst 1, 1) := by decide +kernel
theorem dX3_shunnedOnes_26 : decode cX3_shunnedOnes 26 = .ok (.iload_n 2, 1) := by decide +kernel
theorem dX3_shunnedOnes_27 : decode cX3_shunnedOnes 27 = .ok (.ishl, 1) := by decide +kernel
theorem dX3_shunnedOnes_28 : decode cX3_shunnedOnes 28 = .ok (.ior, 1) := by decide +kernel
theorem dX3_shunnedOnes_29 : decode cX3_shunnedOnes 29 = .ok (.istore_n 1, 1) := by decide +kernel
theorem dX3_shunnedOnes_30 : decode cX3_shunnedOnes 30 = .ok (.iinc 2 1, 3) := by decide +kernel
theorem dX3_shunnedOnes_33 : decode cX3_shunnedOnes 33 = .ok (.goto (-29), 3) := by decide +kernel
theorem dX3_shunnedOnes_36 : decode cX3_shunnedOnes 36 = .ok (.iload_n 1, 1) := by decide +kernel
theorem dX3_shunnedOnes_37 : decode cX3_shunnedOnes 37 = .ok (.ireturn, 1) := by decide +kernel
