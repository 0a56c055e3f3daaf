theorem dX5_init_0 : decode cX5_init 0 = .ok (.aload_n 0, 1) := by decide +kernel
theorem dX5_init_1 : decode cX5_init 1 = .ok (.aload_n 1, 1) := by decide +kernel
theorem dX5_init_2 : decode cX5_init 2 = .ok (.putfield 3, 3) := by decide +kernel
theorem dX5_init_5 : decode cX5_init 5 = .ok (.aload_n 0, 1) := by decide +kernel
theorem dX5_init_6 : decode cX5_init 6 = .ok (.invokespecial 9, 3) := by decide +kernel
theorem dX5_init_9 : decode cX5_init 9 = .ok (.aload_n 0, 1) := by decide +kernel
theorem dX5_init_10 : decode cX5_init 10 = .ok (.bipush 12, 2) := by decide +kernel
theorem dX5_init_12 : decode cX5_init 12 = .ok (.newarray .int, 2) := by decide +kernel
theorem dX5_init_14 : decode cX5_init 14 = .ok (.putfield 15, 3) := by decide +kernel
theorem dX5_init_17 : decode cX5_init 17 = .ok (.aload_n 0, 1) := by decide +kernel
theorem dX5_init_18 : decode cX5_init 18 = .ok (.bipush 12, 2) := by decide +kernel
theorem dX5_init_20 : decode cX5_init 20 = .ok (.newarray .int, 2) := by decide +kernel
theorem dX5_init_22 : decode cX5_init 22 = .ok (.putfield 19, 3) := by decide +kernel
theorem dX5_init_25 : decode cX5_init 25 = .ok (.aload_n 0, 1) := by decide +kernel
theorem dX5_init_26 : decode cX5_init 26 = .ok (.bipush 12, 2) := by decide +kernel
theorem dX5_init_28 : decode cX5_init 28 = .ok (.newarray .boolean, 2) := by decide +kernel
theorem dX5_init_30 : decode cX5_init 30 = .ok (.putfield 22, 3) := by decide +kernel
theorem dX5_init_33 : decode cX5_init 33 = .ok (.aload_n 0, 1) := by decide +kernel
theorem dX5_init_34 : decode cX5_init 34 = .ok (.bipush 12, 2) := by decide +kernel
theorem dX5_init_36 : decode cX5_init 36 = .ok (.newarray .int, 2) := by decide +kernel
theorem dX5_init_38 : decode cX5_init 38 = .ok (.putfield 26, 3) := by decide +kernel
theorem dX5_init_41 : decode cX5_init 41 = .ok (.aload_n 0, 1) := by decide +kernel
theorem dX5_init_42 : decode cX5_init 42 = .ok (.bipush 12, 2) := by decide +kernel
theorem dX5_init_44 : decode cX5_init 44 = .ok (.newarray .double, 2) := by decide +kernel
theorem dX5_init_46 : decode cX5_init 46 = .ok (.putfield 29, 3) := by decide +kernel
theorem dX5_init_49 : decode cX5_init 49 = .ok (.aload_n 0, 1) := by decide +kernel
theorem dX5_init_50 : decode cX5_init 50 = .ok (.iconst 3, 1) := by decide +kernel
theorem dX5_init_51 : decode cX5_init 51 = .ok (.newarray .int, 2) := by decide +kernel
theorem dX5_init_53 : decode cX5_init 53 = .ok (.putfield 33, 3) := by decide +kernel
theorem dX5_init_56 : decode cX5_init 56 = .ok (.aload_n 0, 1) := by decide +kernel
theorem dX5_init_57 : decode cX5_init 57 = .ok (.iconst 3, 1) := by decide +kernel
theorem dX5_init_58 : decode cX5_init 58 = .ok (.newarray .double, 2) := by decide +kernel
theorem dX5_init_60 : decode cX5_init 60 = .ok (.putfield 36, 3) := by decide +kernel
theorem dX5_init_63 : decode cX5_init 63 = .ok (.return_, 1) := by decide +kernel
set_option maxRecDepth 20000 in
theorem ggX5_copy_X5_init : GoodIn wsX5_copy wsX5_init := goodIn_r _ [19, 4, 20, 21, 22, 23, 6, 24, 25, 11, 12, 26, 13, 15, 16, 27, 28, 29, 30, 31, 32, 33, 34, 35, 36] (by decide +kernel) (by decide +kernel)
set_option maxRecDepth 20000 in
theorem gX5_copy_X5_init : GoodIn wsX5_copy (wsX5_init) := ggX5_copy_X5_init
theorem dX5_copy_0 : decode cX5_copy 0 = .ok (.new 4, 3) := by decide +kernel
theorem dX5_copy_3 : decode cX5_copy 3 = .ok (.dup, 1) := by decide +kernel
theorem dX5_copy_4 : decode cX5_copy 4 = .ok (.aload_n 0, 1) := by decide +kernel
theorem dX5_copy_5 : decode cX5_copy 5 = .ok (.getfield 3, 3) := by decide +kernel
theorem dX5_copy_8 : decode cX5_copy 8 = .ok (.invokespecial 39, 3) := by decide +kernel
theorem dX5_copy_11 : decode cX5_copy 11 = .ok (.astore_n 1, 1) := by decide +kernel
theorem dX5_copy_12 : decode cX5_copy 12 = .ok (.aload_n 1, 1) := by decide +kernel
theorem dX5_copy_13 : decode cX5_copy 13 = .ok (.aload_n 0, 1) := by decide +kernel
theorem dX5_copy_14 : decode cX5_copy 14 = .ok (.getfield 42, 3) := by decide +kernel
theorem dX5_copy_17 : decode cX5_copy 17 = .ok (.putfield 42, 3) := by decide +kernel
theorem dX5_copy_20 : decode cX5_copy 20 = .ok (.aload_n 0, 1) := by decide +kernel
theorem dX5_copy_21 : decode cX5_copy 21 = .ok (.getfield 15, 3) := by decide +kernel
theorem dX5_copy_24 : decode cX5_copy 24 = .ok (.iconst 0, 1) := by decide +kernel
theorem dX5_copy_25 : decode cX5_copy 25 = .ok (.aload_n 1, 1) := by decide +kernel
theorem dX5_copy_26 : decode cX5_copy 26 = .ok (.getfield 15, 3) := by decide +kernel
theorem dX5_copy_29 : decode cX5_copy 29 = .ok (.iconst 0, 1) := by decide +kernel
theorem dX5_copy_30 : decode cX5_copy 30 = .ok (.bipush 12, 2) := by decide +kernel
theorem dX5_copy_32 : decode cX5_copy 32 = .ok (.invokestatic 46, 3) := by decide +kernel
theorem dX5_copy_35 : decode cX5_copy 35 = .ok (.aload_n 0, 1) := by decide +kernel
theorem dX5_copy_36 : decode cX5_copy 36 = .ok (.getfield 22, 3) := by decide +kernel
theorem dX5_copy_39 : decode cX5_copy 39 = .ok (.iconst 0, 1) := by decide +kernel
theorem dX5_copy_40 : decode cX5_copy 40 = .ok (.aload_n 1, 1) := by decide +kernel
theorem dX5_copy_41 : decode cX5_copy 41 = .ok (.getfield 22, 3) := by decide +kernel
theorem dX5_copy_44 : decode cX5_copy 44 = .ok (.iconst 0, 1) := by decide +kernel
theorem dX5_copy_45 : decode cX5_copy 45 = .ok (.bipush 12, 2) := by decide +kernel
theorem dX5_copy_47 : decode cX5_copy 47 = .ok (.invokestatic 46, 3) := by decide +kernel
theorem dX5_copy_50 : decode cX5_copy 50 = .ok (.aload_n 0, 1) := by decide +kernel
theorem dX5_copy_51 : decode cX5_copy 51 = .ok (.getfield 26, 3) := by decide +kernel
theorem dX5_copy_54 : decode cX5_copy 54 = .ok (.iconst 0, 1) := by decide +kernel
theorem dX5_copy_55 : decode cX5_copy 55 = .ok (.aload_n 1, 1) := by decide +kernel
theorem dX5_copy_56 : decode cX5_copy 56 = .ok (.getfield 26, 3) := by decide +kernel
theorem dX5_copy_59 : decode cX5_copy 59 = .ok (.iconst 0, 1) := by decide +kernel
theorem dX5_copy_60 : decode cX5_copy 60 = .ok (.bipush 12, 2) := by decide +kernel
theorem dX5_copy_62 : decode cX5_copy 62 = .ok (.invokestatic 46, 3) := by decide +kernel
theorem dX5_copy_65 : decode cX5_copy 65 = .ok (.aload_n 0, 1) := by decide +kernel
theorem dX5_copy_66 : decode cX5_copy 66 = .ok (.getfield 29, 3) := by decide +kernel
theorem dX5_copy_69 : decode cX5_copy 69 = .ok (.iconst 0, 1) := by decide +kernel
theorem dX5_copy_70 : decode cX5_copy 70 = .ok (.aload_n 1, 1) := by decide +kernel
theorem dX5_copy_71 : decode cX5_copy 71 = .ok (.getfield 29, 3) := by decide +kernel
theorem dX5_copy_74 : decode cX5_copy 74 = .ok (.iconst 0, 1) := by decide +kernel
theorem dX5_copy_75 : decode cX5_copy 75 = .ok (.bipush 12, 2) := by decide +kernel
theorem dX5_copy_77 : decode cX5_copy 77 = .ok (.invokestatic 46, 3) := by decide +kernel
theorem dX5_copy_80 : decode cX5_copy 80 = .ok (.aload_n 1, 1) := by decide +kernel
theorem dX5_copy_81 : decode cX5_copy 81 = .ok (.aload_n 0, 1) := by decide +kernel
theorem dX5_copy_82 : decode cX5_copy 82 = .ok (.getfield 52, 3) := by decide +kernel
theorem dX5_copy_85 : decode cX5_copy 85 = .ok (.putfield 52, 3) := by decide +kernel
theorem dX5_copy_88 : decode cX5_copy 88 = .ok (.aload_n 0, 1) := by decide +kernel
theorem dX5_copy_89 : decode cX5_copy 89 = .ok (.getfield 33, 3) := by decide +kernel
theorem dX5_copy_92 : decode cX5_copy 92 = .ok (.iconst 0, 1) := by decide +kernel
theorem dX5_copy_93 : decode cX5_copy 93 = .ok (.aload_n 1, 1) := by decide +kernel
theorem dX5_copy_94 : decode cX5_copy 94 = .ok (.getfield 33, 3) := by decide +kernel
theorem dX5_copy_97 : decode cX5_copy 97 = .ok (.iconst 0, 1) := by decide +kernel
theorem dX5_copy_98 : decode cX5_copy 98 = .ok (.iconst 3, 1) := by decide +kernel
theorem dX5_copy_99 : decode cX5_copy 99 = .ok (.invokestatic 46, 3) := by decide +kernel
theorem dX5_copy_102 : decode cX5_copy 102 = .ok (.aload_n 0, 1) := by decide +kernel
theorem dX5_copy_103 : decode cX5_copy 103 = .ok (.getfield 36, 3) := by decide +kernel
theorem dX5_copy_106 : decode cX5_copy 106 = .ok (.iconst 0, 1) := by decide +kernel
theorem dX5_copy_107 : decode cX5_copy 107 = .ok (.aload_n 1, 1) := by decide +kernel
theorem dX5_copy_108 : decode cX5_copy 108 = .ok (.getfield 36, 3) := by decide +kernel
theorem dX5_copy_111 : decode cX5_copy 111 = .ok (.iconst 0, 1) := by decide +kernel
theorem dX5_copy_112 : decode cX5_copy 112 = .ok (.iconst 3, 1) := by decide +kernel
theorem dX5_copy_113 : decode cX5_copy 113 = .ok (.invokestatic 46, 3) := by decide +kernel
theorem dX5_copy_116 : decode cX5_copy 116 = .ok (.aload_n 1, 1) := by decide +kernel
theorem dX5_copy_117 : decode cX5_copy 117 = .ok (.areturn, 1) := by decide +kernel
set_option maxRecDepth 20000 in
theorem ggX5_hour_Jx4a65c_get_915e3 : GoodIn wsX5_hour wsJx4a65c_get_915e3 := goodIn_r _ [17, 18, 19, 20, 21, 22, 23, 24, 25, 26, 27, 28, 29, 16, 30, 31, 96, 97, 98] (by decide +kernel) (by decide +kernel)
set_option maxRecDepth 20000 in
theorem gX5_hour_Jx4a65c_get_915e3_f61Jx4a65c : GoodIn wsX5_hour (va_wsF RX5 61 RJx4a65c ⟨"java/util/List", "get", "(I)Ljava/lang/Object;"⟩ yJx4a65c_get_915e3 wsJx4a65c_get_915e3) := goodIn_app (goodIn_of _ (by decide +kernel)) ggX5_hour_Jx4a65c_get_915e3
set_option maxRecDepth 20000 in
theorem ggX5_hour_X6_ice : GoodIn wsX5_hour wsX6_ice := goodIn_r _ [36, 37, 38, 39, 35, 40, 41, 42, 43, 44, 45, 46, 47, 48, 49, 50, 51, 52, 53, 54, 55, 56, 57, 16, 58, 18, 59, 14, 15, 17, 19, 20, 21, 22, 23, 24, 25, 26, 27, 28, 29, 30, 31, 60, 61, 62, 63, 99, 100, 101, 102, 103, 87, 88, 89, 90, 91, 92, 93, 94, 95, 96, 97, 98] (by decide +kernel) (by decide +kernel)
set_option maxRecDepth 20000 in
theorem gX5_hour_X6_ice : GoodIn wsX5_hour (wsV RX5 71 RX6 yX6_ice wsX6_ice) := goodIn_app (goodIn_of _ (by decide +kernel)) ggX5_hour_X6_ice
set_option maxRecDepth 20000 in
theorem ggX5_hour_J9_abs_294c1 : GoodIn wsX5_hour wsJ9_abs_294c1 := goodIn_r _ [67, 68, 69, 70, 71, 72, 73, 74, 75] (by decide +kernel) (by decide +kernel)
set_option maxRecDepth 20000 in
theorem gX5_hour_J9_abs_294c1 : GoodIn wsX5_hour (va_wsS RX5 75 yJ9_abs_294c1 wsJ9_abs_294c1) := goodIn_app (goodIn_of _ (by decide +kernel)) ggX5_hour_J9_abs_294c1
set_option maxRecDepth 20000 in
theorem ggX5_hour_X6_freezes : GoodIn wsX5_hour wsX6_freezes := goodIn_r _ [40, 41, 42, 43, 44, 45, 35, 46, 47, 48, 49, 50, 51, 52, 53, 54, 55, 56, 57, 16, 58, 18, 59, 14, 15, 17, 19, 20, 21, 22, 23, 24, 25, 26, 27, 28, 29, 30, 31, 60, 61, 62, 63, 99, 100, 101, 102, 103, 87, 88, 89, 90, 91, 92, 93, 94, 95, 96, 97, 98] (by decide +kernel) (by decide +kernel)
set_option maxRecDepth 20000 in
theorem gX5_hour_X6_freezes : GoodIn wsX5_hour (wsV RX5 80 RX6 yX6_freezes wsX6_freezes) := goodIn_app (goodIn_of _ (by decide +kernel)) ggX5_hour_X6_freezes
theorem dX5_hour_0 : decode cX5_hour 0 = .ok (.iconst 0, 1) := by decide +kernel
theorem dX5_hour_1 : decode cX5_hour 1 = .ok (.istore_n 1, 1) := by decide +kernel
theorem dX5_hour_2 : decode cX5_hour 2 = .ok (.iload_n 1, 1) := by decide +kernel
theorem dX5_hour_3 : decode cX5_hour 3 = .ok (.aload_n 0, 1) := by decide +kernel
theorem dX5_hour_4 : decode cX5_hour 4 = .ok (.getfield 42, 3) := by decide +kernel
theorem dX5_hour_7 : decode cX5_hour 7 = .ok (.if_icmp .ge 36, 3) := by decide +kernel
theorem dX5_hour_10 : decode cX5_hour 10 = .ok (.aload_n 0, 1) := by decide +kernel
theorem dX5_hour_11 : decode cX5_hour 11 = .ok (.getfield 26, 3) := by decide +kernel
theorem dX5_hour_14 : decode cX5_hour 14 = .ok (.iload_n 1, 1) := by decide +kernel
theorem dX5_hour_15 : decode cX5_hour 15 = .ok (.iaload, 1) := by decide +kernel
theorem dX5_hour_16 : decode cX5_hour 16 = .ok (.iconst (-1), 1) := by decide +kernel
theorem dX5_hour_17 : decode cX5_hour 17 = .ok (.if_icmp .ne 20, 3) := by decide +kernel
theorem dX5_hour_20 : decode cX5_hour 20 = .ok (.aload_n 0, 1) := by decide +kernel
theorem dX5_hour_21 : decode cX5_hour 21 = .ok (.getfield 22, 3) := by decide +kernel
theorem dX5_hour_24 : decode cX5_hour 24 = .ok (.iload_n 1, 1) := by decide +kernel
theorem dX5_hour_25 : decode cX5_hour 25 = .ok (.baload, 1) := by decide +kernel
theorem dX5_hour_26 : decode cX5_hour 26 = .ok (.ifCond .ne 11, 3) := by decide +kernel
theorem dX5_hour_29 : decode cX5_hour 29 = .ok (.aload_n 0, 1) := by decide +kernel
theorem dX5_hour_30 : decode cX5_hour 30 = .ok (.getfield 26, 3) := by decide +kernel
theorem dX5_hour_33 : decode cX5_hour 33 = .ok (.iload_n 1, 1) := by decide +kernel
theorem dX5_hour_34 : decode cX5_hour 34 = .ok (.bipush 11, 2) := by decide +kernel
theorem dX5_hour_36 : decode cX5_hour 36 = .ok (.iastore, 1) := by decide +kernel
theorem dX5_hour_37 : decode cX5_hour 37 = .ok (.iinc 1 1, 3) := by decide +kernel
theorem dX5_hour_40 : decode cX5_hour 40 = .ok (.goto (-38), 3) := by decide +kernel
theorem dX5_hour_43 : decode cX5_hour 43 = .ok (.iconst 0, 1) := by decide +kernel
theorem dX5_hour_44 : decode cX5_hour 44 = .ok (.istore_n 1, 1) := by decide +kernel
theorem dX5_hour_45 : decode cX5_hour 45 = .ok (.iload_n 1, 1) := by decide +kernel
theorem dX5_hour_46 : decode cX5_hour 46 = .ok (.aload_n 0, 1) := by decide +kernel
theorem dX5_hour_47 : decode cX5_hour 47 = .ok (.getfield 52, 3) := by decide +kernel
theorem dX5_hour_50 : decode cX5_hour 50 = .ok (.if_icmp .ge 147, 3) := by decide +kernel
theorem dX5_hour_53 : decode cX5_hour 53 = .ok (.aload_n 0, 1) := by decide +kernel
theorem dX5_hour_54 : decode cX5_hour 54 = .ok (.getfield 36, 3) := by decide +kernel
theorem dX5_hour_57 : decode cX5_hour 57 = .ok (.iload_n 1, 1) := by decide +kernel
theorem dX5_hour_58 : decode cX5_hour 58 = .ok (.daload, 1) := by decide +kernel
theorem dX5_hour_59 : decode cX5_hour 59 = .ok (.dstore_n 2, 1) := by decide +kernel
theorem dX5_hour_60 : decode cX5_hour 60 = .ok (.aload_n 0, 1) := by decide +kernel
theorem dX5_hour_61 : decode cX5_hour 61 = .ok (.getfield 36, 3) := by decide +kernel
theorem dX5_hour_64 : decode cX5_hour 64 = .ok (.iload_n 1, 1) := by decide +kernel
theorem dX5_hour_65 : decode cX5_hour 65 = .ok (.dload_n 2, 1) := by decide +kernel
theorem dX5_hour_66 : decode cX5_hour 66 = .ok (.aload_n 0, 1) := by decide +kernel
theorem dX5_hour_67 : decode cX5_hour 67 = .ok (.getfield 33, 3) := by decide +kernel
theorem dX5_hour_70 : decode cX5_hour 70 = .ok (.iload_n 1, 1) := by decide +kernel
theorem dX5_hour_71 : decode cX5_hour 71 = .ok (.iaload, 1) := by decide +kernel
theorem dX5_hour_72 : decode cX5_hour 72 = .ok (.i2d, 1) := by decide +kernel
theorem dX5_hour_73 : decode cX5_hour 73 = .ok (.dload_n 2, 1) := by decide +kernel
theorem dX5_hour_74 : decode cX5_hour 74 = .ok (.dsub, 1) := by decide +kernel
theorem dX5_hour_75 : decode cX5_hour 75 = .ok (.ldc2_w 55, 3) := by decide +kernel
theorem dX5_hour_78 : decode cX5_hour 78 = .ok (.dmul, 1) := by decide +kernel
theorem dX5_hour_79 : decode cX5_hour 79 = .ok (.dadd, 1) := by decide +kernel
theorem dX5_hour_80 : decode cX5_hour 80 = .ok (.dastore, 1) := by decide +kernel
theorem dX5_hour_81 : decode cX5_hour 81 = .ok (.iconst 0, 1) := by decide +kernel
theorem dX5_hour_82 : decode cX5_hour 82 = .ok (.istore 4, 2) := by decide +kernel
theorem dX5_hour_84 : decode cX5_hour 84 = .ok (.iload 4, 2) := by decide +kernel
theorem dX5_hour_86 : decode cX5_hour 86 = .ok (.aload_n 0, 1) := by decide +kernel
theorem dX5_hour_87 : decode cX5_hour 87 = .ok (.getfield 42, 3) := by decide +kernel
theorem dX5_hour_90 : decode cX5_hour 90 = .ok (.if_icmp .ge 101, 3) := by decide +kernel
theorem dX5_hour_93 : decode cX5_hour 93 = .ok (.aload_n 0, 1) := by decide +kernel
theorem dX5_hour_94 : decode cX5_hour 94 = .ok (.getfield 26, 3) := by decide +kernel
theorem dX5_hour_97 : decode cX5_hour 97 = .ok (.iload 4, 2) := by decide +kernel
theorem dX5_hour_99 : decode cX5_hour 99 = .ok (.iaload, 1) := by decide +kernel
theorem dX5_hour_100 : decode cX5_hour 100 = .ok (.iload_n 1, 1) := by decide +kernel
theorem dX5_hour_101 : decode cX5_hour 101 = .ok (.if_icmp .eq 6, 3) := by decide +kernel
theorem dX5_hour_104 : decode cX5_hour 104 = .ok (.goto 81, 3) := by decide +kernel
theorem dX5_hour_107 : decode cX5_hour 107 = .ok (.aload_n 0, 1) := by decide +kernel
theorem dX5_hour_108 : decode cX5_hour 108 = .ok (.getfield 3, 3) := by decide +kernel
theorem dX5_hour_111 : decode cX5_hour 111 = .ok (.getfield 57, 3) := by decide +kernel
theorem dX5_hour_114 : decode cX5_hour 114 = .ok (.aload_n 0, 1) := by decide +kernel
theorem dX5_hour_115 : decode cX5_hour 115 = .ok (.getfield 15, 3) := by decide +kernel
theorem dX5_hour_118 : decode cX5_hour 118 = .ok (.iload 4, 2) := by decide +kernel
theorem dX5_hour_120 : decode cX5_hour 120 = .ok (.iaload, 1) := by decide +kernel
theorem dX5_hour_121 : decode cX5_hour 121 = .ok (.invokeinterface 61 2, 5) := by decide +kernel
theorem dX5_hour_126 : decode cX5_hour 126 = .ok (.checkcast 67, 3) := by decide +kernel
theorem dX5_hour_129 : decode cX5_hour 129 = .ok (.astore 5, 2) := by decide +kernel
theorem dX5_hour_131 : decode cX5_hour 131 = .ok (.aload_n 0, 1) := by decide +kernel
theorem dX5_hour_132 : decode cX5_hour 132 = .ok (.getfield 29, 3) := by decide +kernel
theorem dX5_hour_135 : decode cX5_hour 135 = .ok (.iload 4, 2) := by decide +kernel
theorem dX5_hour_137 : decode cX5_hour 137 = .ok (.dup2, 1) := by decide +kernel
theorem dX5_hour_138 : decode cX5_hour 138 = .ok (.daload, 1) := by decide +kernel
theorem dX5_hour_139 : decode cX5_hour 139 = .ok (.ldc2_w 69, 3) := by decide +kernel
theorem dX5_hour_142 : decode cX5_hour 142 = .ok (.aload 5, 2) := by decide +kernel
theorem dX5_hour_144 : decode cX5_hour 144 = .ok (.dload_n 2, 1) := by decide +kernel
theorem dX5_hour_145 : decode cX5_hour 145 = .ok (.invokevirtual 71, 3) := by decide +kernel
theorem dX5_hour_148 : decode cX5_hour 148 = .ok (.aload 5, 2) := by decide +kernel
theorem dX5_hour_150 : decode cX5_hour 150 = .ok (.aload_n 0, 1) := by decide +kernel
theorem dX5_hour_151 : decode cX5_hour 151 = .ok (.getfield 36, 3) := by decide +kernel
theorem dX5_hour_154 : decode cX5_hour 154 = .ok (.iload_n 1, 1) := by decide +kernel
theorem dX5_hour_155 : decode cX5_hour 155 = .ok (.daload, 1) := by decide +kernel
theorem dX5_hour_156 : decode cX5_hour 156 = .ok (.invokevirtual 71, 3) := by decide +kernel
theorem dX5_hour_159 : decode cX5_hour 159 = .ok (.dsub, 1) := by decide +kernel
theorem dX5_hour_160 : decode cX5_hour 160 = .ok (.invokestatic 75, 3) := by decide +kernel
theorem dX5_hour_163 : decode cX5_hour 163 = .ok (.dmul, 1) := by decide +kernel
theorem dX5_hour_164 : decode cX5_hour 164 = .ok (.dadd, 1) := by decide +kernel
theorem dX5_hour_165 : decode cX5_hour 165 = .ok (.dastore, 1) := by decide +kernel
theorem dX5_hour_166 : decode cX5_hour 166 = .ok (.dload_n 2, 1) := by decide +kernel
theorem dX5_hour_167 : decode cX5_hour 167 = .ok (.aload 5, 2) := by decide +kernel
theorem dX5_hour_169 : decode cX5_hour 169 = .ok (.invokevirtual 80, 3) := by decide +kernel
theorem dX5_hour_172 : decode cX5_hour 172 = .ok (.dcmp .g, 1) := by decide +kernel
theorem dX5_hour_173 : decode cX5_hour 173 = .ok (.ifCond .lt 12, 3) := by decide +kernel
theorem dX5_hour_176 : decode cX5_hour 176 = .ok (.aload_n 0, 1) := by decide +kernel
theorem dX5_hour_177 : decode cX5_hour 177 = .ok (.getfield 26, 3) := by decide +kernel
theorem dX5_hour_180 : decode cX5_hour 180 = .ok (.iload 4, 2) := by decide +kernel
theorem dX5_hour_182 : decode cX5_hour 182 = .ok (.bipush 11, 2) := by decide +kernel
theorem dX5_hour_184 : decode cX5_hour 184 = .ok (.iastore, 1) := by decide +kernel
theorem dX5_hour_185 : decode cX5_hour 185 = .ok (.iinc 4 1, 3) := by decide +kernel
theorem dX5_hour_188 : decode cX5_hour 188 = .ok (.goto (-104), 3) := by decide +kernel
theorem dX5_hour_191 : decode cX5_hour 191 = .ok (.iinc 1 1, 3) := by decide +kernel
theorem dX5_hour_194 : decode cX5_hour 194 = .ok (.goto (-149), 3) := by decide +kernel
theorem dX5_hour_197 : decode cX5_hour 197 = .ok (.return_, 1) := by decide +kernel
set_option maxRecDepth 20000 in
theorem ggX5_open_J9_min_eb370 : GoodIn wsX5_open wsJ9_min_eb370 := goodIn_r _ [7, 8, 9, 10, 11, 12] (by decide +kernel) (by decide +kernel)
set_option maxRecDepth 20000 in
theorem gX5_open_J9_min_eb370 : GoodIn wsX5_open (va_wsS RX5 88 yJ9_min_eb370 wsJ9_min_eb370) := goodIn_app (goodIn_of _ (by decide +kernel)) ggX5_open_J9_min_eb370
theorem dX5_open_0 : decode cX5_open 0 = .ok (.iconst 0, 1) := by decide +kernel
theorem dX5_open_1 : decode cX5_open 1 = .ok (.istore_n 3, 1) := by decide +kernel
theorem dX5_open_2 : decode cX5_open 2 = .ok (.iload_n 3, 1) := by decide +kernel
theorem dX5_open_3 : decode cX5_open 3 = .ok (.iload_n 2, 1) := by decide +kernel
theorem dX5_open_4 : decode cX5_open 4 = .ok (.if_icmp .ge 31, 3) := by decide +kernel
theorem dX5_open_7 : decode cX5_open 7 = .ok (.aload_n 0, 1) := by decide +kernel
theorem dX5_open_8 : decode cX5_open 8 = .ok (.getfield 36, 3) := by decide +kernel
theorem dX5_open_11 : decode cX5_open 11 = .ok (.iload_n 1, 1) := by decide +kernel
theorem dX5_open_12 : decode cX5_open 12 = .ok (.ldc2_w 84, 3) := by decide +kernel
theorem dX5_open_15 : decode cX5_open 15 = .ok (.aload_n 0, 1) := by decide +kernel
theorem dX5_open_16 : decode cX5_open 16 = .ok (.getfield 36, 3) := by decide +kernel
theorem dX5_open_19 : decode cX5_open 19 = .ok (.iload_n 1, 1) := by decide +kernel
theorem dX5_open_20 : decode cX5_open 20 = .ok (.daload, 1) := by decide +kernel
theorem dX5_open_21 : decode cX5_open 21 = .ok (.ldc2_w 86, 3) := by decide +kernel
theorem dX5_open_24 : decode cX5_open 24 = .ok (.dadd, 1) := by decide +kernel
theorem dX5_open_25 : decode cX5_open 25 = .ok (.invokestatic 88, 3) := by decide +kernel
theorem dX5_open_28 : decode cX5_open 28 = .ok (.dastore, 1) := by decide +kernel
theorem dX5_open_29 : decode cX5_open 29 = .ok (.iinc 3 1, 3) := by decide +kernel
theorem dX5_open_32 : decode cX5_open 32 = .ok (.goto (-30), 3) := by decide +kernel
theorem dX5_open_35 : decode cX5_open 35 = .ok (.return_, 1) := by decide +kernel
theorem dX5_isCoarse_0 : decode cX5_isCoarse 0 = .ok (.aload_n 0, 1) := by decide +kernel
theorem dX5_isCoarse_1 : decode cX5_isCoarse 1 = .ok (.getfield 29, 3) := by decide +kernel
theorem dX5_isCoarse_4 : decode cX5_isCoarse 4 = .ok (.iload_n 1, 1) := by decide +kernel
theorem dX5_isCoarse_5 : decode cX5_isCoarse 5 = .ok (.daload, 1) := by decide +kernel
theorem dX5_isCoarse_6 : decode cX5_isCoarse 6 = .ok (.ldc2_w 92, 3) := by decide +kernel
theorem dX5_isCoarse_9 : decode cX5_isCoarse 9 = .ok (.dcmp .l, 1) := by decide +kernel
theorem dX5_isCoarse_10 : decode cX5_isCoarse 10 = .ok (.ifCond .le 7, 3) := by decide +kernel
theorem dX5_isCoarse_13 : decode cX5_isCoarse 13 = .ok (.iconst 1, 1) := by decide +kernel
theorem dX5_isCoarse_14 : decode cX5_isCoarse 14 = .ok (.goto 4, 3) := by decide +kernel
theorem dX5_isCoarse_17 : decode cX5_isCoarse 17 = .ok (.iconst 0, 1) := by decide +kernel
theorem dX5_isCoarse_18 : decode cX5_isCoarse 18 = .ok (.ireturn, 1) := by decide +kernel
theorem dX5_count_0 : decode cX5_count 0 = .ok (.iconst 0, 1) := by decide +kernel
theorem dX5_count_1 : decode cX5_count 1 = .ok (.istore_n 2, 1) := by decide +kernel
theorem dX5_count_2 : decode cX5_count 2 = .ok (.iconst 0, 1) := by decide +kernel
theorem dX5_count_3 : decode cX5_count 3 = .ok (.istore_n 3, 1) := by decide +kernel
theorem dX5_count_4 : decode cX5_count 4 = .ok (.iload_n 3, 1) := by decide +kernel
theorem dX5_count_5 : decode cX5_count 5 = .ok (.aload_n 0, 1) := by decide +kernel
theorem dX5_count_6 : decode cX5_count 6 = .ok (.getfield 42, 3) := by decide +kernel
theorem dX5_count_9 : decode cX5_count 9 = .ok (.if_icmp .ge 27, 3) := by decide +kernel
theorem dX5_count_12 : decode cX5_count 12 = .ok (.iload_n 2, 1) := by decide +kernel
theorem dX5_count_13 : decode cX5_count 13 = .ok (.aload_n 0, 1) := by decide +kernel
theorem dX5_count_14 : decode cX5_count 14 = .ok (.getfield 26, 3) := by decide +kernel
theorem dX5_count_17 : decode cX5_count 17 = .ok (.iload_n 3, 1) := by decide +kernel
theorem dX5_count_18 : decode cX5_count 18 = .ok (.iaload, 1) := by decide +kernel
theorem dX5_count_19 : decode cX5_count 19 = .ok (.iload_n 1, 1) := by decide +kernel
theorem dX5_count_20 : decode cX5_count 20 = .ok (.if_icmp .ne 7, 3) := by decide +kernel
theorem dX5_count_23 : decode cX5_count 23 = .ok (.iconst 1, 1) := by decide +kernel
theorem dX5_count_24 : decode cX5_count 24 = .ok (.goto 4, 3) := by decide +kernel
theorem dX5_count_27 : decode cX5_count 27 = .ok (.iconst 0, 1) := by decide +kernel
theorem dX5_count_28 : decode cX5_count 28 = .ok (.iadd, 1) := by decide +kernel
theorem dX5_count_29 : decode cX5_count 29 = .ok (.istore_n 2, 1) := by decide +kernel
theorem dX5_count_30 : decode cX5_count 30 = .ok (.iinc 3 1, 3) := by decide +kernel
theorem dX5_count_33 : decode cX5_count 33 = .ok (.goto (-29), 3) := by decide +kernel
theorem dX5_count_36 : decode cX5_count 36 = .ok (.iload_n 2, 1) := by decide +kernel
theorem dX5_count_37 : decode cX5_count 37 = .ok (.ireturn, 1) := by decide +kernel
theorem dX6_init_0 : decode cX6_init 0 = .ok (.aload_n 0, 1) := by decide +kernel
theorem dX6_init_1 : decode cX6_init 1 = .ok (.aload_n 1, 1) := by decide +kernel
theorem dX6_init_2 : decode cX6_init 2 = .ok (.putfield 3, 3) := by decide +kernel
theorem dX6_init_5 : decode cX6_init 5 = .ok (.aload_n 0, 1) := by decide +kernel
theorem dX6_init_6 : decode cX6_init 6 = .ok (.invokespecial 9, 3) := by decide +kernel
theorem dX6_init_9 : decode cX6_init 9 = .ok (.aload_n 0, 1) := by decide +kernel
theorem dX6_init_10 : decode cX6_init 10 = .ok (.bipush 6, 2) := by decide +kernel
theorem dX6_init_12 : decode cX6_init 12 = .ok (.newarray .int, 2) := by decide +kernel
theorem dX6_init_14 : decode cX6_init 14 = .ok (.putfield 15, 3) := by decide +kernel
theorem dX6_init_17 : decode cX6_init 17 = .ok (.return_, 1) := by decide +kernel
theorem dX6_all_0 : decode cX6_all 0 = .ok (.iconst 0, 1) := by decide +kernel
theorem dX6_all_1 : decode cX6_all 1 = .ok (.istore_n 1, 1) := by decide +kernel
theorem dX6_all_2 : decode cX6_all 2 = .ok (.aload_n 0, 1) := by decide +kernel
theorem dX6_all_3 : decode cX6_all 3 = .ok (.getfield 15, 3) := by decide +kernel
theorem dX6_all_6 : decode cX6_all 6 = .ok (.astore_n 2, 1) := by decide +kernel
theorem dX6_all_7 : decode cX6_all 7 = .ok (.aload_n 2, 1) := by decide +kernel
theorem dX6_all_8 : decode cX6_all 8 = .ok (.arraylength, 1) := by decide +kernel
theorem dX6_all_9 : decode cX6_all 9 = .ok (.istore_n 3, 1) := by decide +kernel
theorem dX6_all_10 : decode cX6_all 10 = .ok (.iconst 0, 1) := by decide +kernel
theorem dX6_all_11 : decode cX6_all 11 = .ok (.istore 4, 2) := by decide +kernel
theorem dX6_all_13 : decode cX6_all 13 = .ok (.iload 4, 2) := by decide +kernel
theorem dX6_all_15 : decode cX6_all 15 = .ok (.iload_n 3, 1) := by decide +kernel
theorem dX6_all_16 : decode cX6_all 16 = .ok (.if_icmp .ge 20, 3) := by decide +kernel
theorem dX6_all_19 : decode cX6_all 19 = .ok (.aload_n 2, 1) := by decide +kernel
theorem dX6_all_20 : decode cX6_all 20 = .ok (.iload 4, 2) := by decide +kernel
theorem dX6_all_22 : decode cX6_all 22 = .ok (.iaload, 1) := by decide +kernel
theorem dX6_all_23 : decode cX6_all 23 = .ok (.istore 5, 2) := by decide +kernel
theorem dX6_all_25 : decode cX6_all 25 = .ok (.iload_n 1, 1) := by decide +kernel
theorem dX6_all_26 : decode cX6_all 26 = .ok (.iload 5, 2) := by decide +kernel
theorem dX6_all_28 : decode cX6_all 28 = .ok (.iadd, 1) := by decide +kernel
theorem dX6_all_29 : decode cX6_all 29 = .ok (.istore_n 1, 1) := by decide +kernel
theorem dX6_all_30 : decode cX6_all 30 = .ok (.iinc 4 1, 3) := by decide +kernel
theorem dX6_all_33 : decode cX6_all 33 = .ok (.goto (-20), 3) := by decide +kernel
theorem dX6_all_36 : decode cX6_all 36 = .ok (.iload_n 1, 1) := by decide +kernel
theorem dX6_all_37 : decode cX6_all 37 = .ok (.ireturn, 1) := by decide +kernel
set_option maxRecDepth 20000 in
theorem ggX6_put_X6_all : GoodIn wsX6_put wsX6_all := goodIn_r _ [8, 1, 9, 10, 11, 12, 13] (by decide +kernel) (by decide +kernel)
set_option maxRecDepth 20000 in
theorem gX6_put_X6_all : GoodIn wsX6_put (wsV RX6 27 RX6 yX6_all wsX6_all) := goodIn_app (goodIn_of _ (by decide +kernel)) ggX6_put_X6_all
theorem dX6_put_0 : decode cX6_put 0 = .ok (.aload_n 0, 1) := by decide +kernel
theorem dX6_put_1 : decode cX6_put 1 = .ok (.getfield 15, 3) := by decide +kernel
theorem dX6_put_4 : decode cX6_put 4 = .ok (.iload_n 1, 1) := by decide +kernel
theorem dX6_put_5 : decode cX6_put 5 = .ok (.dup2, 1) := by decide +kernel
theorem dX6_put_6 : decode cX6_put 6 = .ok (.iaload, 1) := by decide +kernel
theorem dX6_put_7 : decode cX6_put 7 = .ok (.iload_n 2, 1) := by decide +kernel
theorem dX6_put_8 : decode cX6_put 8 = .ok (.iadd, 1) := by decide +kernel
theorem dX6_put_9 : decode cX6_put 9 = .ok (.iastore, 1) := by decide +kernel
theorem dX6_put_10 : decode cX6_put 10 = .ok (.aload_n 0, 1) := by decide +kernel
theorem dX6_put_11 : decode cX6_put 11 = .ok (.dup, 1) := by decide +kernel
theorem dX6_put_12 : decode cX6_put 12 = .ok (.getfield 19, 3) := by decide +kernel
theorem dX6_put_15 : decode cX6_put 15 = .ok (.iload_n 2, 1) := by decide +kernel
theorem dX6_put_16 : decode cX6_put 16 = .ok (.iadd, 1) := by decide +kernel
theorem dX6_put_17 : decode cX6_put 17 = .ok (.putfield 19, 3) := by decide +kernel
theorem dX6_put_20 : decode cX6_put 20 = .ok (.aload_n 0, 1) := by decide +kernel
theorem dX6_put_21 : decode cX6_put 21 = .ok (.iconst 0, 1) := by decide +kernel
theorem dX6_put_22 : decode cX6_put 22 = .ok (.putfield 23, 3) := by decide +kernel
theorem dX6_put_25 : decode cX6_put 25 = .ok (.aload_n 0, 1) := by decide +kernel
theorem dX6_put_26 : decode cX6_put 26 = .ok (.invokevirtual 27, 3) := by decide +kernel
theorem dX6_put_29 : decode cX6_put 29 = .ok (.ireturn, 1) := by decide +kernel
set_option maxRecDepth 20000 in
theorem ggX6_sum_Jx4a65c_size_8abf5 : GoodIn wsX6_sum wsJx4a65c_size_8abf5 := goodIn_r _ [8, 9, 41, 42, 43] (by decide +kernel) (by decide +kernel)
set_option maxRecDepth 20000 in
theorem gX6_sum_Jx4a65c_size_8abf5_f35Jx4a65c : GoodIn wsX6_sum (va_wsF RX6 35 RJx4a65c ⟨"java/util/List", "size", "()I"⟩ yJx4a65c_size_8abf5 wsJx4a65c_size_8abf5) := goodIn_app (goodIn_of _ (by decide +kernel)) ggX6_sum_Jx4a65c_size_8abf5
set_option maxRecDepth 20000 in
theorem ggX6_sum_Jx4a65c_get_915e3 : GoodIn wsX6_sum wsJx4a65c_get_915e3 := goodIn_r _ [13, 9, 14, 15, 16, 17, 18, 19, 20, 21, 22, 23, 24, 7, 25, 26, 41, 42, 43] (by decide +kernel) (by decide +kernel)
set_option maxRecDepth 20000 in
theorem gX6_sum_Jx4a65c_get_915e3_f40Jx4a65c : GoodIn wsX6_sum (va_wsF RX6 40 RJx4a65c ⟨"java/util/List", "get", "(I)Ljava/lang/Object;"⟩ yJx4a65c_get_915e3 wsJx4a65c_get_915e3) := goodIn_app (goodIn_of _ (by decide +kernel)) ggX6_sum_Jx4a65c_get_915e3
theorem dX6_sum_0 : decode cX6_sum 0 = .ok (.iconst 0, 1) := by decide +kernel
theorem dX6_sum_1 : decode cX6_sum 1 = .ok (.istore_n 2, 1) := by decide +kernel
theorem dX6_sum_2 : decode cX6_sum 2 = .ok (.iconst 0, 1) := by decide +kernel
theorem dX6_sum_3 : decode cX6_sum 3 = .ok (.istore_n 3, 1) := by decide +kernel
theorem dX6_sum_4 : decode cX6_sum 4 = .ok (.iload_n 3, 1) := by decide +kernel
theorem dX6_sum_5 : decode cX6_sum 5 = .ok (.aload_n 0, 1) := by decide +kernel
theorem dX6_sum_6 : decode cX6_sum 6 = .ok (.getfield 3, 3) := by decide +kernel
theorem dX6_sum_9 : decode cX6_sum 9 = .ok (.getfield 31, 3) := by decide +kernel
theorem dX6_sum_12 : decode cX6_sum 12 = .ok (.invokeinterface 35 1, 5) := by decide +kernel
theorem dX6_sum_17 : decode cX6_sum 17 = .ok (.if_icmp .ge 37, 3) := by decide +kernel
theorem dX6_sum_20 : decode cX6_sum 20 = .ok (.iload_n 2, 1) := by decide +kernel
theorem dX6_sum_21 : decode cX6_sum 21 = .ok (.aload_n 0, 1) := by decide +kernel
theorem dX6_sum_22 : decode cX6_sum 22 = .ok (.getfield 15, 3) := by decide +kernel
theorem dX6_sum_25 : decode cX6_sum 25 = .ok (.iload_n 3, 1) := by decide +kernel
theorem dX6_sum_26 : decode cX6_sum 26 = .ok (.iaload, 1) := by decide +kernel
theorem dX6_sum_27 : decode cX6_sum 27 = .ok (.aload_n 0, 1) := by decide +kernel
theorem dX6_sum_28 : decode cX6_sum 28 = .ok (.getfield 3, 3) := by decide +kernel
theorem dX6_sum_31 : decode cX6_sum 31 = .ok (.getfield 31, 3) := by decide +kernel
theorem dX6_sum_34 : decode cX6_sum 34 = .ok (.iload_n 3, 1) := by decide +kernel
theorem dX6_sum_35 : decode cX6_sum 35 = .ok (.invokeinterface 40 2, 5) := by decide +kernel
theorem dX6_sum_40 : decode cX6_sum 40 = .ok (.checkcast 44, 3) := by decide +kernel
theorem dX6_sum_43 : decode cX6_sum 43 = .ok (.iload_n 1, 1) := by decide +kernel
theorem dX6_sum_44 : decode cX6_sum 44 = .ok (.iaload, 1) := by decide +kernel
theorem dX6_sum_45 : decode cX6_sum 45 = .ok (.imul, 1) := by decide +kernel
theorem dX6_sum_46 : decode cX6_sum 46 = .ok (.iadd, 1) := by decide +kernel
theorem dX6_sum_47 : decode cX6_sum 47 = .ok (.istore_n 2, 1) := by decide +kernel
theorem dX6_sum_48 : decode cX6_sum 48 = .ok (.iinc 3 1, 3) := by decide +kernel
theorem dX6_sum_51 : decode cX6_sum 51 = .ok (.goto (-47), 3) := by decide +kernel
theorem dX6_sum_54 : decode cX6_sum 54 = .ok (.iload_n 2, 1) := by decide +kernel
theorem dX6_sum_55 : decode cX6_sum 55 = .ok (.ireturn, 1) := by decide +kernel
set_option maxRecDepth 20000 in
theorem ggX6_part_X6_sum : GoodIn wsX6_part wsX6_sum := goodIn_r _ [6, 7, 8, 9, 10, 11, 12, 13, 14, 15, 16, 17, 18, 19, 20, 21, 22, 23, 24, 25, 26, 27, 28, 29, 30, 31, 32, 37, 38, 39, 40, 41, 42, 43, 44, 45, 46, 47, 48, 49, 50, 51, 52, 53] (by decide +kernel) (by decide +kernel)
set_option maxRecDepth 20000 in
theorem gX6_part_X6_sum : GoodIn wsX6_part (wsV RX6 45 RX6 yX6_sum wsX6_sum) := goodIn_app (goodIn_of _ (by decide +kernel)) ggX6_part_X6_sum
set_option maxRecDepth 20000 in
theorem ggX6_part_X6_all : GoodIn wsX6_part wsX6_all := goodIn_r _ [36, 8, 37, 38, 39, 40, 41] (by decide +kernel) (by decide +kernel)
set_option maxRecDepth 20000 in
theorem gX6_part_X6_all : GoodIn wsX6_part (wsV RX6 27 RX6 yX6_all wsX6_all) := goodIn_app (goodIn_of _ (by decide +kernel)) ggX6_part_X6_all
theorem dX6_part_0 : decode cX6_part 0 = .ok (.aload_n 0, 1) := by decide +kernel
theorem dX6_part_1 : decode cX6_part 1 = .ok (.iload_n 1, 1) := by decide +kernel
theorem dX6_part_2 : decode cX6_part 2 = .ok (.invokevirtual 45, 3) := by decide +kernel
theorem dX6_part_5 : decode cX6_part 5 = .ok (.i2d, 1) := by decide +kernel
theorem dX6_part_6 : decode cX6_part 6 = .ok (.aload_n 0, 1) := by decide +kernel
theorem dX6_part_7 : decode cX6_part 7 = .ok (.invokevirtual 27, 3) := by decide +kernel
theorem dX6_part_10 : decode cX6_part 10 = .ok (.i2d, 1) := by decide +kernel
theorem dX6_part_11 : decode cX6_part 11 = .ok (.ddiv, 1) := by decide +kernel
theorem dX6_part_12 : decode cX6_part 12 = .ok (.ldc2_w 49, 3) := by decide +kernel
theorem dX6_part_15 : decode cX6_part 15 = .ok (.ddiv, 1) := by decide +kernel
theorem dX6_part_16 : decode cX6_part 16 = .ok (.dreturn, 1) := by decide +kernel
set_option maxRecDepth 20000 in
theorem ggX6_freezes_X6_part : GoodIn wsX6_freezes wsX6_part := goodIn_r _ [7, 8, 9, 10, 11, 6, 12, 13, 14, 15, 16, 17, 18, 19, 20, 21, 22, 23, 24, 25, 26, 27, 28, 29, 30, 31, 32, 33, 34, 35, 36, 37, 38, 39, 40, 41, 42, 43, 44, 45, 46, 47, 48, 49, 50, 51, 52, 53, 54, 55, 56, 57, 58, 59] (by decide +kernel) (by decide +kernel)
set_option maxRecDepth 20000 in
theorem gX6_freezes_X6_part : GoodIn wsX6_freezes (wsV RX6 51 RX6 yX6_part wsX6_part) := goodIn_app (goodIn_of _ (by decide +kernel)) ggX6_freezes_X6_part
theorem dX6_freezes_0 : decode cX6_freezes 0 = .ok (.aload_n 0, 1) := by decide +kernel
theorem dX6_freezes_1 : decode cX6_freezes 1 = .ok (.iconst 2, 1) := by decide +kernel
theorem dX6_freezes_2 : decode cX6_freezes 2 = .ok (.invokevirtual 51, 3) := by decide +kernel
theorem dX6_freezes_5 : decode cX6_freezes 5 = .ok (.ldc2_w 55, 3) := by decide +kernel
theorem dX6_freezes_8 : decode cX6_freezes 8 = .ok (.dmul, 1) := by decide +kernel
theorem dX6_freezes_9 : decode cX6_freezes 9 = .ok (.aload_n 0, 1) := by decide +kernel
theorem dX6_freezes_10 : decode cX6_freezes 10 = .ok (.iconst 1, 1) := by decide +kernel
theorem dX6_freezes_11 : decode cX6_freezes 11 = .ok (.invokevirtual 51, 3) := by decide +kernel
theorem dX6_freezes_14 : decode cX6_freezes 14 = .ok (.ldc2_w 57, 3) := by decide +kernel
theorem dX6_freezes_17 : decode cX6_freezes 17 = .ok (.dmul, 1) := by decide +kernel
theorem dX6_freezes_18 : decode cX6_freezes 18 = .ok (.dadd, 1) := by decide +kernel
theorem dX6_freezes_19 : decode cX6_freezes 19 = .ok (.dneg, 1) := by decide +kernel
theorem dX6_freezes_20 : decode cX6_freezes 20 = .ok (.dreturn, 1) := by decide +kernel
set_option maxRecDepth 20000 in
theorem ggX6_ice_X6_freezes : GoodIn wsX6_ice wsX6_freezes := goodIn_r _ [5, 6, 7, 8, 9, 10, 4, 11, 12, 13, 14, 15, 16, 17, 18, 19, 20, 21, 22, 23, 24, 25, 26, 27, 28, 29, 30, 31, 32, 33, 34, 35, 36, 37, 38, 39, 40, 41, 42, 43, 44, 45, 46, 47, 48, 49, 50, 51, 52, 53, 54, 55, 56, 57, 58, 59, 60, 61, 62, 63] (by decide +kernel) (by decide +kernel)
set_option maxRecDepth 20000 in
theorem gX6_ice_X6_freezes : GoodIn wsX6_ice (wsV RX6 59 RX6 yX6_freezes wsX6_freezes) := goodIn_app (goodIn_of _ (by decide +kernel)) ggX6_ice_X6_freezes
theorem dX6_ice_0 : decode cX6_ice 0 = .ok (.aload_n 0, 1) := by decide +kernel
theorem dX6_ice_1 : decode cX6_ice 1 = .ok (.invokevirtual 59, 3) := by decide +kernel
theorem dX6_ice_4 : decode cX6_ice 4 = .ok (.dstore_n 3, 1) := by decide +kernel
theorem dX6_ice_5 : decode cX6_ice 5 = .ok (.dload_n 1, 1) := by decide +kernel
theorem dX6_ice_6 : decode cX6_ice 6 = .ok (.dload_n 3, 1) := by decide +kernel
theorem dX6_ice_7 : decode cX6_ice 7 = .ok (.dcmp .g, 1) := by decide +kernel
theorem dX6_ice_8 : decode cX6_ice 8 = .ok (.ifCond .ge 11, 3) := by decide +kernel
theorem dX6_ice_11 : decode cX6_ice 11 = .ok (.dconst 1, 1) := by decide +kernel
theorem dX6_ice_12 : decode cX6_ice 12 = .ok (.dload_n 3, 1) := by decide +kernel
theorem dX6_ice_13 : decode cX6_ice 13 = .ok (.dload_n 1, 1) := by decide +kernel
theorem dX6_ice_14 : decode cX6_ice 14 = .ok (.ddiv, 1) := by decide +kernel
theorem dX6_ice_15 : decode cX6_ice 15 = .ok (.dsub, 1) := by decide +kernel
theorem dX6_ice_16 : decode cX6_ice 16 = .ok (.goto 4, 3) := by decide +kernel
theorem dX6_ice_19 : decode cX6_ice 19 = .ok (.dconst 0, 1) := by decide +kernel
theorem dX6_ice_20 : decode cX6_ice 20 = .ok (.dreturn, 1) := by decide +kernel
theorem dX6_set_0 : decode cX6_set 0 = .ok (.iconst 0, 1) := by decide +kernel
theorem dX6_set_1 : decode cX6_set 1 = .ok (.istore_n 1, 1) := by decide +kernel
theorem dX6_set_2 : decode cX6_set 2 = .ok (.iconst 0, 1) := by decide +kernel
theorem dX6_set_3 : decode cX6_set 3 = .ok (.istore_n 2, 1) := by decide +kernel
theorem dX6_set_4 : decode cX6_set 4 = .ok (.iload_n 2, 1) := by decide +kernel
theorem dX6_set_5 : decode cX6_set 5 = .ok (.bipush 6, 2) := by decide +kernel
theorem dX6_set_7 : decode cX6_set 7 = .ok (.if_icmp .ge 28, 3) := by decide +kernel
theorem dX6_set_10 : decode cX6_set 10 = .ok (.iload_n 1, 1) := by decide +kernel
theorem dX6_set_11 : decode cX6_set 11 = .ok (.aload_n 0, 1) := by decide +kernel
theorem dX6_set_12 : decode cX6_set 12 = .ok (.getfield 15, 3) := by decide +kernel
theorem dX6_set_15 : decode cX6_set 15 = .ok (.iload_n 2, 1) := by decide +kernel
theorem dX6_set_16 : decode cX6_set 16 = .ok (.iaload, 1) := by decide +kernel
theorem dX6_set_17 : decode cX6_set 17 = .ok (.ifCond .le 9, 3) := by decide +kernel
theorem dX6_set_20 : decode cX6_set 20 = .ok (.iconst 1, 1) := by decide +kernel
theorem dX6_set_21 : decode cX6_set 21 = .ok (.iload_n 2, 1) := by decide +kernel
theorem dX6_set_22 : decode cX6_set 22 = .ok (.ishl, 1) := by decide +kernel
theorem dX6_set_23 : decode cX6_set 23 = .ok (.goto 4, 3) := by decide +kernel
theorem dX6_set_26 : decode cX6_set 26 = .ok (.iconst 0, 1) := by decide +kernel
theorem dX6_set_27 : decode cX6_set 27 = .ok (.ior, 1) := by decide +kernel
theorem dX6_set_28 : decode cX6_set 28 = .ok (.istore_n 1, 1) := by decide +kernel
theorem dX6_set_29 : decode cX6_set 29 = .ok (.iinc 2 1, 3) := by decide +kernel
theorem dX6_set_32 : decode cX6_set 32 = .ok (.goto (-28), 3) := by decide +kernel
theorem dX6_set_35 : decode cX6_set 35 = .ok (.iload_n 1, 1) := by decide +kernel
theorem dX6_set_36 : decode cX6_set 36 = .ok (.ireturn, 1) := by decide +kernel
set_option maxRecDepth 20000 in
theorem ggX6_harms_Jx4a65c_size_8abf5 : GoodIn wsX6_harms wsJx4a65c_size_8abf5 := goodIn_r _ [8, 9, 41, 42, 43] (by decide +kernel) (by decide +kernel)
set_option maxRecDepth 20000 in
theorem gX6_harms_Jx4a65c_size_8abf5_f35Jx4a65c : GoodIn wsX6_harms (va_wsF RX6 35 RJx4a65c ⟨"java/util/List", "size", "()I"⟩ yJx4a65c_size_8abf5 wsJx4a65c_size_8abf5) := goodIn_app (goodIn_of _ (by decide +kernel)) ggX6_harms_Jx4a65c_size_8abf5
set_option maxRecDepth 20000 in
theorem ggX6_harms_Jx4a65c_get_915e3 : GoodIn wsX6_harms wsJx4a65c_get_915e3 := goodIn_r _ [13, 9, 14, 15, 16, 17, 18, 19, 20, 21, 22, 23, 24, 7, 25, 26, 41, 42, 43] (by decide +kernel) (by decide +kernel)
set_option maxRecDepth 20000 in
theorem gX6_harms_Jx4a65c_get_915e3_f40Jx4a65c : GoodIn wsX6_harms (va_wsF RX6 40 RJx4a65c ⟨"java/util/List", "get", "(I)Ljava/lang/Object;"⟩ yJx4a65c_get_915e3 wsJx4a65c_get_915e3) := goodIn_app (goodIn_of _ (by decide +kernel)) ggX6_harms_Jx4a65c_get_915e3
theorem dX6_harms_0 : decode cX6_harms 0 = .ok (.iconst 0, 1) := by decide +kernel
theorem dX6_harms_1 : decode cX6_harms 1 = .ok (.istore_n 1, 1) := by decide +kernel
theorem dX6_harms_2 : decode cX6_harms 2 = .ok (.iconst 0, 1) := by decide +kernel
theorem dX6_harms_3 : decode cX6_harms 3 = .ok (.istore_n 2, 1) := by decide +kernel
theorem dX6_harms_4 : decode cX6_harms 4 = .ok (.iload_n 2, 1) := by decide +kernel
theorem dX6_harms_5 : decode cX6_harms 5 = .ok (.aload_n 0, 1) := by decide +kernel
theorem dX6_harms_6 : decode cX6_harms 6 = .ok (.getfield 3, 3) := by decide +kernel
theorem dX6_harms_9 : decode cX6_harms 9 = .ok (.getfield 31, 3) := by decide +kernel
theorem dX6_harms_12 : decode cX6_harms 12 = .ok (.invokeinterface 35 1, 5) := by decide +kernel
theorem dX6_harms_17 : decode cX6_harms 17 = .ok (.if_icmp .ge 43, 3) := by decide +kernel
theorem dX6_harms_20 : decode cX6_harms 20 = .ok (.iload_n 1, 1) := by decide +kernel
theorem dX6_harms_21 : decode cX6_harms 21 = .ok (.aload_n 0, 1) := by decide +kernel
theorem dX6_harms_22 : decode cX6_harms 22 = .ok (.getfield 15, 3) := by decide +kernel
theorem dX6_harms_25 : decode cX6_harms 25 = .ok (.iload_n 2, 1) := by decide +kernel
theorem dX6_harms_26 : decode cX6_harms 26 = .ok (.iaload, 1) := by decide +kernel
theorem dX6_harms_27 : decode cX6_harms 27 = .ok (.ifCond .le 24, 3) := by decide +kernel
theorem dX6_harms_30 : decode cX6_harms 30 = .ok (.aload_n 0, 1) := by decide +kernel
theorem dX6_harms_31 : decode cX6_harms 31 = .ok (.getfield 3, 3) := by decide +kernel
theorem dX6_harms_34 : decode cX6_harms 34 = .ok (.getfield 31, 3) := by decide +kernel
theorem dX6_harms_37 : decode cX6_harms 37 = .ok (.iload_n 2, 1) := by decide +kernel
theorem dX6_harms_38 : decode cX6_harms 38 = .ok (.invokeinterface 40 2, 5) := by decide +kernel
theorem dX6_harms_43 : decode cX6_harms 43 = .ok (.checkcast 44, 3) := by decide +kernel
theorem dX6_harms_46 : decode cX6_harms 46 = .ok (.iconst 4, 1) := by decide +kernel
theorem dX6_harms_47 : decode cX6_harms 47 = .ok (.iaload, 1) := by decide +kernel
theorem dX6_harms_48 : decode cX6_harms 48 = .ok (.goto 4, 3) := by decide +kernel
theorem dX6_harms_51 : decode cX6_harms 51 = .ok (.iconst 0, 1) := by decide +kernel
theorem dX6_harms_52 : decode cX6_harms 52 = .ok (.ior, 1) := by decide +kernel
theorem dX6_harms_53 : decode cX6_harms 53 = .ok (.istore_n 1, 1) := by decide +kernel
theorem dX6_harms_54 : decode cX6_harms 54 = .ok (.iinc 2 1, 3) := by decide +kernel
theorem dX6_harms_57 : decode cX6_harms 57 = .ok (.goto (-53), 3) := by decide +kernel
theorem dX6_harms_60 : decode cX6_harms 60 = .ok (.iload_n 1, 1) := by decide +kernel
theorem dX6_harms_61 : decode cX6_harms 61 = .ok (.ireturn, 1) := by decide +kernel
set_option maxRecDepth 20000 in
theorem ggX6_isCream_X6_part : GoodIn wsX6_isCream wsX6_part := goodIn_r _ [7, 1, 8, 9, 10, 6, 11, 12, 13, 14, 15, 16, 17, 18, 19, 20, 21, 22, 23, 24, 25, 26, 27, 28, 29, 30, 31, 32, 33, 34, 35, 36, 37, 38, 39, 40, 41, 42, 43, 44, 45, 46, 47, 48, 49, 50, 51, 52, 53, 54, 55, 56, 57, 58] (by decide +kernel) (by decide +kernel)
set_option maxRecDepth 20000 in
theorem gX6_isCream_X6_part : GoodIn wsX6_isCream (wsV RX6 51 RX6 yX6_part wsX6_part) := goodIn_app (goodIn_of _ (by decide +kernel)) ggX6_isCream_X6_part
theorem dX6_isCream_0 : decode cX6_isCream 0 = .ok (.aload_n 0, 1) := by decide +kernel
theorem dX6_isCream_1 : decode cX6_isCream 1 = .ok (.iconst 0, 1) := by decide +kernel
theorem dX6_isCream_2 : decode cX6_isCream 2 = .ok (.invokevirtual 51, 3) := by decide +kernel
theorem dX6_isCream_5 : decode cX6_isCream 5 = .ok (.ldc2_w 49, 3) := by decide +kernel
theorem dX6_isCream_8 : decode cX6_isCream 8 = .ok (.dcmp .l, 1) := by decide +kernel
theorem dX6_isCream_9 : decode cX6_isCream 9 = .ok (.ifCond .lt 19, 3) := by decide +kernel
theorem dX6_isCream_12 : decode cX6_isCream 12 = .ok (.aload_n 0, 1) := by decide +kernel
theorem dX6_isCream_13 : decode cX6_isCream 13 = .ok (.iconst 1, 1) := by decide +kernel
theorem dX6_isCream_14 : decode cX6_isCream 14 = .ok (.invokevirtual 51, 3) := by decide +kernel
theorem dX6_isCream_17 : decode cX6_isCream 17 = .ok (.ldc2_w 63, 3) := by decide +kernel
theorem dX6_isCream_20 : decode cX6_isCream 20 = .ok (.dcmp .l, 1) := by decide +kernel
theorem dX6_isCream_21 : decode cX6_isCream 21 = .ok (.ifCond .lt 7, 3) := by decide +kernel
theorem dX6_isCream_24 : decode cX6_isCream 24 = .ok (.iconst 1, 1) := by decide +kernel
theorem dX6_isCream_25 : decode cX6_isCream 25 = .ok (.goto 4, 3) := by decide +kernel
theorem dX6_isCream_28 : decode cX6_isCream 28 = .ok (.iconst 0, 1) := by decide +kernel
theorem dX6_isCream_29 : decode cX6_isCream 29 = .ok (.ireturn, 1) := by decide +kernel
set_option maxRecDepth 20000 in
theorem ggX7_init_Jx4a65c_init_da8c8 : GoodIn wsX7_init wsJx4a65c_init_da8c8 := goodIn_r _ [17, 18, 19, 20, 21, 22, 23, 24, 25, 26, 27, 28, 29, 2, 3, 43, 44, 45] (by decide +kernel) (by decide +kernel)
set_option maxRecDepth 20000 in
theorem gX7_init_Jx4a65c_init_da8c8 : GoodIn wsX7_init (wsJx4a65c_init_da8c8) := ggX7_init_Jx4a65c_init_da8c8
set_option maxRecDepth 20000 in
theorem ggX7_init_X5_init : GoodIn wsX7_init wsX5_init := goodIn_r _ [31, 32, 33, 2, 3, 13, 34, 35, 36, 37, 38, 39, 40, 41, 42, 55, 56, 57, 58, 59, 60, 61, 62, 63, 64] (by decide +kernel) (by decide +kernel)
set_option maxRecDepth 20000 in
theorem gX7_init_X5_init_n21 : GoodIn wsX7_init (wsX5_init) := ggX7_init_X5_init
theorem dX7_init_0 : decode cX7_init 0 = .ok (.aload_n 0, 1) := by decide +kernel
theorem dX7_init_1 : decode cX7_init 1 = .ok (.invokespecial 1, 3) := by decide +kernel
theorem dX7_init_4 : decode cX7_init 4 = .ok (.aload_n 0, 1) := by decide +kernel
theorem dX7_init_5 : decode cX7_init 5 = .ok (.new 7, 3) := by decide +kernel
theorem dX7_init_8 : decode cX7_init 8 = .ok (.dup, 1) := by decide +kernel
theorem dX7_init_9 : decode cX7_init 9 = .ok (.invokespecial 9, 3) := by decide +kernel
theorem dX7_init_12 : decode cX7_init 12 = .ok (.putfield 10, 3) := by decide +kernel
theorem dX7_init_15 : decode cX7_init 15 = .ok (.aload_n 0, 1) := by decide +kernel
theorem dX7_init_16 : decode cX7_init 16 = .ok (.new 7, 3) := by decide +kernel
theorem dX7_init_19 : decode cX7_init 19 = .ok (.dup, 1) := by decide +kernel
theorem dX7_init_20 : decode cX7_init 20 = .ok (.invokespecial 9, 3) := by decide +kernel
theorem dX7_init_23 : decode cX7_init 23 = .ok (.putfield 16, 3) := by decide +kernel
theorem dX7_init_26 : decode cX7_init 26 = .ok (.aload_n 0, 1) := by decide +kernel
theorem dX7_init_27 : decode cX7_init 27 = .ok (.new 19, 3) := by decide +kernel
theorem dX7_init_30 : decode cX7_init 30 = .ok (.dup, 1) := by decide +kernel
theorem dX7_init_31 : decode cX7_init 31 = .ok (.aload_n 0, 1) := by decide +kernel
theorem dX7_init_32 : decode cX7_init 32 = .ok (.invokespecial 21, 3) := by decide +kernel
theorem dX7_init_35 : decode cX7_init 35 = .ok (.putfield 24, 3) := by decide +kernel
theorem dX7_init_38 : decode cX7_init 38 = .ok (.aload_n 0, 1) := by decide +kernel
theorem dX7_init_39 : decode cX7_init 39 = .ok (.iconst 2, 1) := by decide +kernel
theorem dX7_init_40 : decode cX7_init 40 = .ok (.newarray .int, 2) := by decide +kernel
theorem dX7_init_42 : decode cX7_init 42 = .ok (.putfield 28, 3) := by decide +kernel
theorem dX7_init_45 : decode cX7_init 45 = .ok (.return_, 1) := by decide +kernel
theorem dX7_thrown_0 : decode cX7_thrown 0 = .ok (.aload_n 0, 1) := by decide +kernel
theorem dX7_thrown_1 : decode cX7_thrown 1 = .ok (.getfield 32, 3) := by decide +kernel
theorem dX7_thrown_4 : decode cX7_thrown 4 = .ok (.ireturn, 1) := by decide +kernel
theorem dX7_no_0 : decode cX7_no 0 = .ok (.aload_n 0, 1) := by decide +kernel
theorem dX7_no_1 : decode cX7_no 1 = .ok (.iload_n 1, 1) := by decide +kernel
theorem dX7_no_2 : decode cX7_no 2 = .ok (.putfield 32, 3) := by decide +kernel
theorem dX7_no_5 : decode cX7_no 5 = .ok (.iconst 0, 1) := by decide +kernel
theorem dX7_no_6 : decode cX7_no 6 = .ok (.ireturn, 1) := by decide +kernel
theorem dX7_in_0 : decode cX7_in 0 = .ok (.iload_n 0, 1) := by decide +kernel
theorem dX7_in_1 : decode cX7_in 1 = .ok (.iload_n 1, 1) := by decide +kernel
theorem dX7_in_2 : decode cX7_in 2 = .ok (.if_icmp .lt 12, 3) := by decide +kernel
theorem dX7_in_5 : decode cX7_in 5 = .ok (.iload_n 0, 1) := by decide +kernel
theorem dX7_in_6 : decode cX7_in 6 = .ok (.iload_n 2, 1) := by decide +kernel
theorem dX7_in_7 : decode cX7_in 7 = .ok (.if_icmp .gt 7, 3) := by decide +kernel
theorem dX7_in_10 : decode cX7_in 10 = .ok (.iconst 1, 1) := by decide +kernel
theorem dX7_in_11 : decode cX7_in 11 = .ok (.goto 4, 3) := by decide +kernel
theorem dX7_in_14 : decode cX7_in 14 = .ok (.iconst 0, 1) := by decide +kernel
theorem dX7_in_15 : decode cX7_in 15 = .ok (.ireturn, 1) := by decide +kernel
set_option maxRecDepth 20000 in
theorem ggX7_isIngredient_Jx4a65c_size_8abf5 : GoodIn wsX7_isIngredient wsJx4a65c_size_8abf5 := goodIn_r _ [6, 7, 21, 22, 23] (by decide +kernel) (by decide +kernel)
set_option maxRecDepth 20000 in
theorem gX7_isIngredient_Jx4a65c_size_8abf5_f36Jx4a65c : GoodIn wsX7_isIngredient (va_wsF RX7 36 RJx4a65c ⟨"java/util/List", "size", "()I"⟩ yJx4a65c_size_8abf5 wsJx4a65c_size_8abf5) := goodIn_app (goodIn_of _ (by decide +kernel)) ggX7_isIngredient_Jx4a65c_size_8abf5
set_option maxRecDepth 20000 in
theorem ggX7_isIngredient_X7_in : GoodIn wsX7_isIngredient wsX7_in := goodIn_r _ [11] (by decide +kernel) (by decide +kernel)
set_option maxRecDepth 20000 in
theorem gX7_isIngredient_X7_in : GoodIn wsX7_isIngredient (va_wsS RX7 42 yX7_in wsX7_in) := goodIn_app (goodIn_of _ (by decide +kernel)) ggX7_isIngredient_X7_in
theorem dX7_isIngredient_0 : decode cX7_isIngredient 0 = .ok (.iload_n 1, 1) := by decide +kernel
theorem dX7_isIngredient_1 : decode cX7_isIngredient 1 = .ok (.iconst 0, 1) := by decide +kernel
theorem dX7_isIngredient_2 : decode cX7_isIngredient 2 = .ok (.aload_n 0, 1) := by decide +kernel
theorem dX7_isIngredient_3 : decode cX7_isIngredient 3 = .ok (.getfield 10, 3) := by decide +kernel
theorem dX7_isIngredient_6 : decode cX7_isIngredient 6 = .ok (.invokeinterface 36 1, 5) := by decide +kernel
theorem dX7_isIngredient_11 : decode cX7_isIngredient 11 = .ok (.iconst 1, 1) := by decide +kernel
theorem dX7_isIngredient_12 : decode cX7_isIngredient 12 = .ok (.isub, 1) := by decide +kernel
theorem dX7_isIngredient_13 : decode cX7_isIngredient 13 = .ok (.invokestatic 42, 3) := by decide +kernel
theorem dX7_isIngredient_16 : decode cX7_isIngredient 16 = .ok (.ireturn, 1) := by decide +kernel
set_option maxRecDepth 20000 in
theorem ggX7_isMix_Jx4a65c_size_8abf5 : GoodIn wsX7_isMix wsJx4a65c_size_8abf5 := goodIn_r _ [6, 7, 21, 22, 23] (by decide +kernel) (by decide +kernel)
set_option maxRecDepth 20000 in
theorem gX7_isMix_Jx4a65c_size_8abf5_f36Jx4a65c : GoodIn wsX7_isMix (va_wsF RX7 36 RJx4a65c ⟨"java/util/List", "size", "()I"⟩ yJx4a65c_size_8abf5 wsJx4a65c_size_8abf5) := goodIn_app (goodIn_of _ (by decide +kernel)) ggX7_isMix_Jx4a65c_size_8abf5
set_option maxRecDepth 20000 in
theorem ggX7_isMix_X7_in : GoodIn wsX7_isMix wsX7_in := goodIn_r _ [11] (by decide +kernel) (by decide +kernel)
set_option maxRecDepth 20000 in
theorem gX7_isMix_X7_in : GoodIn wsX7_isMix (va_wsS RX7 42 yX7_in wsX7_in) := goodIn_app (goodIn_of _ (by decide +kernel)) ggX7_isMix_X7_in
theorem dX7_isMix_0 : decode cX7_isMix 0 = .ok (.iload_n 1, 1) := by decide +kernel
theorem dX7_isMix_1 : decode cX7_isMix 1 = .ok (.iconst 0, 1) := by decide +kernel
theorem dX7_isMix_2 : decode cX7_isMix 2 = .ok (.aload_n 0, 1) := by decide +kernel
theorem dX7_isMix_3 : decode cX7_isMix 3 = .ok (.getfield 16, 3) := by decide +kernel
theorem dX7_isMix_6 : decode cX7_isMix 6 = .ok (.invokeinterface 36 1, 5) := by decide +kernel
theorem dX7_isMix_11 : decode cX7_isMix 11 = .ok (.iconst 1, 1) := by decide +kernel
theorem dX7_isMix_12 : decode cX7_isMix 12 = .ok (.isub, 1) := by decide +kernel
theorem dX7_isMix_13 : decode cX7_isMix 13 = .ok (.invokestatic 42, 3) := by decide +kernel
theorem dX7_isMix_16 : decode cX7_isMix 16 = .ok (.ireturn, 1) := by decide +kernel
set_option maxRecDepth 20000 in
theorem ggX7_isBatch_X7_in : GoodIn wsX7_isBatch wsX7_in := goodIn_r _ [6] (by decide +kernel) (by decide +kernel)
set_option maxRecDepth 20000 in
theorem gX7_isBatch_X7_in : GoodIn wsX7_isBatch (va_wsS RX7 42 yX7_in wsX7_in) := goodIn_app (goodIn_of _ (by decide +kernel)) ggX7_isBatch_X7_in
theorem dX7_isBatch_0 : decode cX7_isBatch 0 = .ok (.iload_n 1, 1) := by decide +kernel
theorem dX7_isBatch_1 : decode cX7_isBatch 1 = .ok (.iconst 0, 1) := by decide +kernel
theorem dX7_isBatch_2 : decode cX7_isBatch 2 = .ok (.aload_n 0, 1) := by decide +kernel
theorem dX7_isBatch_3 : decode cX7_isBatch 3 = .ok (.getfield 24, 3) := by decide +kernel
theorem dX7_isBatch_6 : decode cX7_isBatch 6 = .ok (.getfield 46, 3) := by decide +kernel
theorem dX7_isBatch_9 : decode cX7_isBatch 9 = .ok (.iconst 1, 1) := by decide +kernel
theorem dX7_isBatch_10 : decode cX7_isBatch 10 = .ok (.isub, 1) := by decide +kernel
theorem dX7_isBatch_11 : decode cX7_isBatch 11 = .ok (.invokestatic 42, 3) := by decide +kernel
theorem dX7_isBatch_14 : decode cX7_isBatch 14 = .ok (.ireturn, 1) := by decide +kernel
set_option maxRecDepth 20000 in
theorem ggX7_isStore_X7_in : GoodIn wsX7_isStore wsX7_in := goodIn_r _ [6] (by decide +kernel) (by decide +kernel)
set_option maxRecDepth 20000 in
theorem gX7_isStore_X7_in : GoodIn wsX7_isStore (va_wsS RX7 42 yX7_in wsX7_in) := goodIn_app (goodIn_of _ (by decide +kernel)) ggX7_isStore_X7_in
theorem dX7_isStore_0 : decode cX7_isStore 0 = .ok (.iload_n 1, 1) := by decide +kernel
theorem dX7_isStore_1 : decode cX7_isStore 1 = .ok (.iconst 0, 1) := by decide +kernel
theorem dX7_isStore_2 : decode cX7_isStore 2 = .ok (.aload_n 0, 1) := by decide +kernel
theorem dX7_isStore_3 : decode cX7_isStore 3 = .ok (.getfield 24, 3) := by decide +kernel
theorem dX7_isStore_6 : decode cX7_isStore 6 = .ok (.getfield 49, 3) := by decide +kernel
theorem dX7_isStore_9 : decode cX7_isStore 9 = .ok (.iconst 1, 1) := by decide +kernel
theorem dX7_isStore_10 : decode cX7_isStore 10 = .ok (.isub, 1) := by decide +kernel
theorem dX7_isStore_11 : decode cX7_isStore 11 = .ok (.invokestatic 42, 3) := by decide +kernel
theorem dX7_isStore_14 : decode cX7_isStore 14 = .ok (.ireturn, 1) := by decide +kernel
theorem dX7_batchesOf_0 : decode cX7_batchesOf 0 = .ok (.iconst 0, 1) := by decide +kernel
theorem dX7_batchesOf_1 : decode cX7_batchesOf 1 = .ok (.istore_n 2, 1) := by decide +kernel
theorem dX7_batchesOf_2 : decode cX7_batchesOf 2 = .ok (.iconst 0, 1) := by decide +kernel
theorem dX7_batchesOf_3 : decode cX7_batchesOf 3 = .ok (.istore_n 3, 1) := by decide +kernel
theorem dX7_batchesOf_4 : decode cX7_batchesOf 4 = .ok (.iload_n 3, 1) := by decide +kernel
theorem dX7_batchesOf_5 : decode cX7_batchesOf 5 = .ok (.aload_n 0, 1) := by decide +kernel
theorem dX7_batchesOf_6 : decode cX7_batchesOf 6 = .ok (.getfield 24, 3) := by decide +kernel
theorem dX7_batchesOf_9 : decode cX7_batchesOf 9 = .ok (.getfield 46, 3) := by decide +kernel
theorem dX7_batchesOf_12 : decode cX7_batchesOf 12 = .ok (.if_icmp .ge 30, 3) := by decide +kernel
theorem dX7_batchesOf_15 : decode cX7_batchesOf 15 = .ok (.iload_n 2, 1) := by decide +kernel
theorem dX7_batchesOf_16 : decode cX7_batchesOf 16 = .ok (.aload_n 0, 1) := by decide +kernel
theorem dX7_batchesOf_17 : decode cX7_batchesOf 17 = .ok (.getfield 24, 3) := by decide +kernel
theorem dX7_batchesOf_20 : decode cX7_batchesOf 20 = .ok (.getfield 52, 3) := by decide +kernel
theorem dX7_batchesOf_23 : decode cX7_batchesOf 23 = .ok (.iload_n 3, 1) := by decide +kernel
theorem dX7_batchesOf_24 : decode cX7_batchesOf 24 = .ok (.iaload, 1) := by decide +kernel
theorem dX7_batchesOf_25 : decode cX7_batchesOf 25 = .ok (.iload_n 1, 1) := by decide +kernel
theorem dX7_batchesOf_26 : decode cX7_batchesOf 26 = .ok (.if_icmp .ne 7, 3) := by decide +kernel
theorem dX7_batchesOf_29 : decode cX7_batchesOf 29 = .ok (.iconst 1, 1) := by decide +kernel
theorem dX7_batchesOf_30 : decode cX7_batchesOf 30 = .ok (.goto 4, 3) := by decide +kernel
theorem dX7_batchesOf_33 : decode cX7_batchesOf 33 = .ok (.iconst 0, 1) := by decide +kernel
theorem dX7_batchesOf_34 : decode cX7_batchesOf 34 = .ok (.iadd, 1) := by decide +kernel
theorem dX7_batchesOf_35 : decode cX7_batchesOf 35 = .ok (.istore_n 2, 1) := by decide +kernel
theorem dX7_batchesOf_36 : decode cX7_batchesOf 36 = .ok (.iinc 3 1, 3) := by decide +kernel
theorem dX7_batchesOf_39 : decode cX7_batchesOf 39 = .ok (.goto (-35), 3) := by decide +kernel
theorem dX7_batchesOf_42 : decode cX7_batchesOf 42 = .ok (.iload_n 2, 1) := by decide +kernel
theorem dX7_batchesOf_43 : decode cX7_batchesOf 43 = .ok (.ireturn, 1) := by decide +kernel
set_option maxRecDepth 20000 in
theorem ggX7_isCalled_Jx4a65c_get_915e3 : GoodIn wsX7_isCalled wsJx4a65c_get_915e3 := goodIn_r _ [10, 11, 12, 13, 14, 15, 16, 17, 18, 19, 20, 21, 22, 9, 23, 24, 50, 51, 52] (by decide +kernel) (by decide +kernel)
set_option maxRecDepth 20000 in
theorem gX7_isCalled_Jx4a65c_get_915e3_f55Jx4a65c : GoodIn wsX7_isCalled (va_wsF RX7 55 RJx4a65c ⟨"java/util/List", "get", "(I)Ljava/lang/Object;"⟩ yJx4a65c_get_915e3 wsJx4a65c_get_915e3) := goodIn_app (goodIn_of _ (by decide +kernel)) ggX7_isCalled_Jx4a65c_get_915e3
set_option maxRecDepth 20000 in
theorem ggX7_isCalled_X6_set : GoodIn wsX7_isCalled wsX6_set := goodIn_r _ [29, 30, 53, 54, 55, 56, 57] (by decide +kernel) (by decide +kernel)
set_option maxRecDepth 20000 in
theorem gX7_isCalled_X6_set : GoodIn wsX7_isCalled (wsV RX7 61 RX6 yX6_set wsX6_set) := goodIn_app (goodIn_of _ (by decide +kernel)) ggX7_isCalled_X6_set
theorem dX7_isCalled_0 : decode cX7_isCalled 0 = .ok (.aload_n 0, 1) := by decide +kernel
theorem dX7_isCalled_1 : decode cX7_isCalled 1 = .ok (.getfield 16, 3) := by decide +kernel
theorem dX7_isCalled_4 : decode cX7_isCalled 4 = .ok (.aload_n 0, 1) := by decide +kernel
theorem dX7_isCalled_5 : decode cX7_isCalled 5 = .ok (.getfield 24, 3) := by decide +kernel
theorem dX7_isCalled_8 : decode cX7_isCalled 8 = .ok (.getfield 52, 3) := by decide +kernel
theorem dX7_isCalled_11 : decode cX7_isCalled 11 = .ok (.iload_n 1, 1) := by decide +kernel
theorem dX7_isCalled_12 : decode cX7_isCalled 12 = .ok (.iaload, 1) := by decide +kernel
theorem dX7_isCalled_13 : decode cX7_isCalled 13 = .ok (.invokeinterface 55 2, 5) := by decide +kernel
theorem dX7_isCalled_18 : decode cX7_isCalled 18 = .ok (.checkcast 59, 3) := by decide +kernel
theorem dX7_isCalled_21 : decode cX7_isCalled 21 = .ok (.invokevirtual 61, 3) := by decide +kernel
theorem dX7_isCalled_24 : decode cX7_isCalled 24 = .ok (.aload_n 0, 1) := by decide +kernel
theorem dX7_isCalled_25 : decode cX7_isCalled 25 = .ok (.getfield 64, 3) := by decide +kernel
theorem dX7_isCalled_28 : decode cX7_isCalled 28 = .ok (.iand, 1) := by decide +kernel
theorem dX7_isCalled_29 : decode cX7_isCalled 29 = .ok (.ifCond .eq 7, 3) := by decide +kernel
theorem dX7_isCalled_32 : decode cX7_isCalled 32 = .ok (.iconst 1, 1) := by decide +kernel
theorem dX7_isCalled_33 : decode cX7_isCalled 33 = .ok (.goto 4, 3) := by decide +kernel
theorem dX7_isCalled_36 : decode cX7_isCalled 36 = .ok (.iconst 0, 1) := by decide +kernel
theorem dX7_isCalled_37 : decode cX7_isCalled 37 = .ok (.ireturn, 1) := by decide +kernel
set_option maxRecDepth 20000 in
theorem ggX7_ingredient_X7_in : GoodIn wsX7_ingredient wsX7_in := goodIn_r _ [8] (by decide +kernel) (by decide +kernel)
set_option maxRecDepth 20000 in
theorem gX7_ingredient_X7_in : GoodIn wsX7_ingredient (va_wsS RX7 42 yX7_in wsX7_in) := goodIn_app (goodIn_of _ (by decide +kernel)) ggX7_ingredient_X7_in
set_option maxRecDepth 20000 in
theorem ggX7_ingredient_X7_no : GoodIn wsX7_ingredient wsX7_no := goodIn_r _ [12, 1, 73, 74, 75, 76, 77, 78, 79, 80, 81] (by decide +kernel) (by decide +kernel)
set_option maxRecDepth 20000 in
theorem gX7_ingredient_X7_no : GoodIn wsX7_ingredient (wsV RX7 69 RX7 yX7_no wsX7_no) := goodIn_app (goodIn_of _ (by decide +kernel)) ggX7_ingredient_X7_no
set_option maxRecDepth 20000 in
theorem ggX7_ingredient_Jx4a65c_size_8abf5 : GoodIn wsX7_ingredient wsJx4a65c_size_8abf5 := goodIn_r _ [17, 18, 82, 83, 84] (by decide +kernel) (by decide +kernel)
set_option maxRecDepth 20000 in
theorem gX7_ingredient_Jx4a65c_size_8abf5_f36Jx4a65c : GoodIn wsX7_ingredient (va_wsF RX7 36 RJx4a65c ⟨"java/util/List", "size", "()I"⟩ yJx4a65c_size_8abf5 wsJx4a65c_size_8abf5) := goodIn_app (goodIn_of _ (by decide +kernel)) ggX7_ingredient_Jx4a65c_size_8abf5
set_option maxRecDepth 20000 in
theorem ggX7_ingredient_Jx4a65c_add_9ea2d : GoodIn wsX7_ingredient wsJx4a65c_add_9ea2d := goodIn_r _ [22, 23, 24, 25, 18, 26, 27, 28, 16, 29, 30, 31, 32, 33, 34, 35, 36, 37, 38, 39, 40, 41, 42, 43, 44, 45, 46, 47, 48, 49, 50, 51, 52, 53, 54, 55, 56, 57, 58, 59, 60, 61, 62, 63, 64, 65, 66, 67, 68, 69, 70, 71, 72, 82, 83, 84] (by decide +kernel) (by decide +kernel)
set_option maxRecDepth 20000 in
theorem gX7_ingredient_Jx4a65c_add_9ea2d_f73Jx4a65c : GoodIn wsX7_ingredient (va_wsF RX7 73 RJx4a65c ⟨"java/util/List", "add", "(Ljava/lang/Object;)Z"⟩ yJx4a65c_add_9ea2d wsJx4a65c_add_9ea2d) := goodIn_app (goodIn_of _ (by decide +kernel)) ggX7_ingredient_Jx4a65c_add_9ea2d
theorem dX7_ingredient_0 : decode cX7_ingredient 0 = .ok (.aload_n 0, 1) := by decide +kernel
theorem dX7_ingredient_1 : decode cX7_ingredient 1 = .ok (.iconst 0, 1) := by decide +kernel
theorem dX7_ingredient_2 : decode cX7_ingredient 2 = .ok (.putfield 32, 3) := by decide +kernel
theorem dX7_ingredient_5 : decode cX7_ingredient 5 = .ok (.iload_n 1, 1) := by decide +kernel
theorem dX7_ingredient_6 : decode cX7_ingredient 6 = .ok (.ifCond .lt 48, 3) := by decide +kernel
theorem dX7_ingredient_9 : decode cX7_ingredient 9 = .ok (.iload_n 2, 1) := by decide +kernel
theorem dX7_ingredient_10 : decode cX7_ingredient 10 = .ok (.ifCond .lt 44, 3) := by decide +kernel
theorem dX7_ingredient_13 : decode cX7_ingredient 13 = .ok (.iload_n 3, 1) := by decide +kernel
theorem dX7_ingredient_14 : decode cX7_ingredient 14 = .ok (.ifCond .lt 40, 3) := by decide +kernel
theorem dX7_ingredient_17 : decode cX7_ingredient 17 = .ok (.iload_n 1, 1) := by decide +kernel
theorem dX7_ingredient_18 : decode cX7_ingredient 18 = .ok (.i2l, 1) := by decide +kernel
theorem dX7_ingredient_19 : decode cX7_ingredient 19 = .ok (.iload_n 2, 1) := by decide +kernel
theorem dX7_ingredient_20 : decode cX7_ingredient 20 = .ok (.i2l, 1) := by decide +kernel
theorem dX7_ingredient_21 : decode cX7_ingredient 21 = .ok (.ladd, 1) := by decide +kernel
theorem dX7_ingredient_22 : decode cX7_ingredient 22 = .ok (.iload_n 3, 1) := by decide +kernel
theorem dX7_ingredient_23 : decode cX7_ingredient 23 = .ok (.i2l, 1) := by decide +kernel
theorem dX7_ingredient_24 : decode cX7_ingredient 24 = .ok (.ladd, 1) := by decide +kernel
theorem dX7_ingredient_25 : decode cX7_ingredient 25 = .ok (.ldc2_w 67, 3) := by decide +kernel
theorem dX7_ingredient_28 : decode cX7_ingredient 28 = .ok (.lcmp, 1) := by decide +kernel
theorem dX7_ingredient_29 : decode cX7_ingredient 29 = .ok (.ifCond .gt 25, 3) := by decide +kernel
theorem dX7_ingredient_32 : decode cX7_ingredient 32 = .ok (.iload 4, 2) := by decide +kernel
theorem dX7_ingredient_34 : decode cX7_ingredient 34 = .ok (.iconst 1, 1) := by decide +kernel
theorem dX7_ingredient_35 : decode cX7_ingredient 35 = .ok (.bipush 99, 2) := by decide +kernel
theorem dX7_ingredient_37 : decode cX7_ingredient 37 = .ok (.invokestatic 42, 3) := by decide +kernel
theorem dX7_ingredient_40 : decode cX7_ingredient 40 = .ok (.ifCond .eq 14, 3) := by decide +kernel
theorem dX7_ingredient_43 : decode cX7_ingredient 43 = .ok (.iload 5, 2) := by decide +kernel
theorem dX7_ingredient_45 : decode cX7_ingredient 45 = .ok (.iconst 0, 1) := by decide +kernel
theorem dX7_ingredient_46 : decode cX7_ingredient 46 = .ok (.bipush 15, 2) := by decide +kernel
theorem dX7_ingredient_48 : decode cX7_ingredient 48 = .ok (.invokestatic 42, 3) := by decide +kernel
theorem dX7_ingredient_51 : decode cX7_ingredient 51 = .ok (.ifCond .ne 9, 3) := by decide +kernel
theorem dX7_ingredient_54 : decode cX7_ingredient 54 = .ok (.aload_n 0, 1) := by decide +kernel
theorem dX7_ingredient_55 : decode cX7_ingredient 55 = .ok (.iconst 1, 1) := by decide +kernel
theorem dX7_ingredient_56 : decode cX7_ingredient 56 = .ok (.invokevirtual 69, 3) := by decide +kernel
theorem dX7_ingredient_59 : decode cX7_ingredient 59 = .ok (.ireturn, 1) := by decide +kernel
theorem dX7_ingredient_60 : decode cX7_ingredient 60 = .ok (.aload_n 0, 1) := by decide +kernel
theorem dX7_ingredient_61 : decode cX7_ingredient 61 = .ok (.getfield 10, 3) := by decide +kernel
theorem dX7_ingredient_64 : decode cX7_ingredient 64 = .ok (.invokeinterface 36 1, 5) := by decide +kernel
theorem dX7_ingredient_69 : decode cX7_ingredient 69 = .ok (.bipush 6, 2) := by decide +kernel
theorem dX7_ingredient_71 : decode cX7_ingredient 71 = .ok (.if_icmp .ne 9, 3) := by decide +kernel
theorem dX7_ingredient_74 : decode cX7_ingredient 74 = .ok (.aload_n 0, 1) := by decide +kernel
theorem dX7_ingredient_75 : decode cX7_ingredient 75 = .ok (.iconst 2, 1) := by decide +kernel
theorem dX7_ingredient_76 : decode cX7_ingredient 76 = .ok (.invokevirtual 69, 3) := by decide +kernel
theorem dX7_ingredient_79 : decode cX7_ingredient 79 = .ok (.ireturn, 1) := by decide +kernel
theorem dX7_ingredient_80 : decode cX7_ingredient 80 = .ok (.iconst 5, 1) := by decide +kernel
theorem dX7_ingredient_81 : decode cX7_ingredient 81 = .ok (.newarray .int, 2) := by decide +kernel
theorem dX7_ingredient_83 : decode cX7_ingredient 83 = .ok (.dup, 1) := by decide +kernel
theorem dX7_ingredient_84 : decode cX7_ingredient 84 = .ok (.iconst 0, 1) := by decide +kernel
theorem dX7_ingredient_85 : decode cX7_ingredient 85 = .ok (.iload_n 1, 1) := by decide +kernel
theorem dX7_ingredient_86 : decode cX7_ingredient 86 = .ok (.iastore, 1) := by decide +kernel
theorem dX7_ingredient_87 : decode cX7_ingredient 87 = .ok (.dup, 1) := by decide +kernel
theorem dX7_ingredient_88 : decode cX7_ingredient 88 = .ok (.iconst 1, 1) := by decide +kernel
theorem dX7_ingredient_89 : decode cX7_ingredient 89 = .ok (.iload_n 2, 1) := by decide +kernel
theorem dX7_ingredient_90 : decode cX7_ingredient 90 = .ok (.iastore, 1) := by decide +kernel
theorem dX7_ingredient_91 : decode cX7_ingredient 91 = .ok (.dup, 1) := by decide +kernel
theorem dX7_ingredient_92 : decode cX7_ingredient 92 = .ok (.iconst 2, 1) := by decide +kernel
theorem dX7_ingredient_93 : decode cX7_ingredient 93 = .ok (.iload_n 3, 1) := by decide +kernel
theorem dX7_ingredient_94 : decode cX7_ingredient 94 = .ok (.iastore, 1) := by decide +kernel
theorem dX7_ingredient_95 : decode cX7_ingredient 95 = .ok (.dup, 1) := by decide +kernel
theorem dX7_ingredient_96 : decode cX7_ingredient 96 = .ok (.iconst 3, 1) := by decide +kernel
theorem dX7_ingredient_97 : decode cX7_ingredient 97 = .ok (.iload 4, 2) := by decide +kernel
theorem dX7_ingredient_99 : decode cX7_ingredient 99 = .ok (.iastore, 1) := by decide +kernel
theorem dX7_ingredient_100 : decode cX7_ingredient 100 = .ok (.dup, 1) := by decide +kernel
theorem dX7_ingredient_101 : decode cX7_ingredient 101 = .ok (.iconst 4, 1) := by decide +kernel
theorem dX7_ingredient_102 : decode cX7_ingredient 102 = .ok (.iload 5, 2) := by decide +kernel
theorem dX7_ingredient_104 : decode cX7_ingredient 104 = .ok (.iastore, 1) := by decide +kernel
theorem dX7_ingredient_105 : decode cX7_ingredient 105 = .ok (.astore 6, 2) := by decide +kernel
theorem dX7_ingredient_107 : decode cX7_ingredient 107 = .ok (.aload_n 0, 1) := by decide +kernel
theorem dX7_ingredient_108 : decode cX7_ingredient 108 = .ok (.getfield 10, 3) := by decide +kernel
theorem dX7_ingredient_111 : decode cX7_ingredient 111 = .ok (.aload 6, 2) := by decide +kernel
theorem dX7_ingredient_113 : decode cX7_ingredient 113 = .ok (.invokeinterface 73 2, 5) := by decide +kernel
theorem dX7_ingredient_118 : decode cX7_ingredient 118 = .ok (.pop, 1) := by decide +kernel
theorem dX7_ingredient_119 : decode cX7_ingredient 119 = .ok (.aload_n 0, 1) := by decide +kernel
theorem dX7_ingredient_120 : decode cX7_ingredient 120 = .ok (.getfield 10, 3) := by decide +kernel
theorem dX7_ingredient_123 : decode cX7_ingredient 123 = .ok (.invokeinterface 36 1, 5) := by decide +kernel
theorem dX7_ingredient_128 : decode cX7_ingredient 128 = .ok (.iconst 1, 1) := by decide +kernel
theorem dX7_ingredient_129 : decode cX7_ingredient 129 = .ok (.isub, 1) := by decide +kernel
theorem dX7_ingredient_130 : decode cX7_ingredient 130 = .ok (.ireturn, 1) := by decide +kernel
set_option maxRecDepth 20000 in
theorem ggX7_mix_X7_isIngredient : GoodIn wsX7_mix wsX7_isIngredient := goodIn_r _ [10, 11, 12, 13, 14, 15, 16, 17, 18, 19, 9, 20, 97, 98, 99, 100, 101, 102, 103, 104, 105, 111, 112, 113] (by decide +kernel) (by decide +kernel)
set_option maxRecDepth 20000 in
theorem gX7_mix_X7_isIngredient : GoodIn wsX7_mix (wsV RX7 77 RX7 yX7_isIngredient wsX7_isIngredient) := goodIn_app (goodIn_of _ (by decide +kernel)) ggX7_mix_X7_isIngredient
set_option maxRecDepth 20000 in
theorem ggX7_mix_X7_no : GoodIn wsX7_mix wsX7_no := goodIn_r _ [24, 1, 97, 98, 99, 100, 101, 102, 103, 104, 105] (by decide +kernel) (by decide +kernel)
set_option maxRecDepth 20000 in
theorem gX7_mix_X7_no : GoodIn wsX7_mix (wsV RX7 69 RX7 yX7_no wsX7_no) := goodIn_app (goodIn_of _ (by decide +kernel)) ggX7_mix_X7_no
set_option maxRecDepth 20000 in
theorem ggX7_mix_X7_in : GoodIn wsX7_mix wsX7_in := goodIn_r _ [20] (by decide +kernel) (by decide +kernel)
set_option maxRecDepth 20000 in
theorem gX7_mix_X7_in : GoodIn wsX7_mix (va_wsS RX7 42 yX7_in wsX7_in) := goodIn_app (goodIn_of _ (by decide +kernel)) ggX7_mix_X7_in
set_option maxRecDepth 20000 in
theorem ggX7_mix_Jx4a65c_size_8abf5 : GoodIn wsX7_mix wsJx4a65c_size_8abf5 := goodIn_r _ [16, 17, 111, 112, 113] (by decide +kernel) (by decide +kernel)
set_option maxRecDepth 20000 in
theorem gX7_mix_Jx4a65c_size_8abf5_f36Jx4a65c : GoodIn wsX7_mix (va_wsF RX7 36 RJx4a65c ⟨"java/util/List", "size", "()I"⟩ yJx4a65c_size_8abf5 wsJx4a65c_size_8abf5) := goodIn_app (goodIn_of _ (by decide +kernel)) ggX7_mix_Jx4a65c_size_8abf5
set_option maxRecDepth 20000 in
theorem ggX7_mix_X6_init : GoodIn wsX7_mix wsX6_init := goodIn_r _ [26, 27, 28, 29, 30, 31, 32, 106, 107, 108, 109, 110] (by decide +kernel) (by decide +kernel)
set_option maxRecDepth 20000 in
theorem gX7_mix_X6_init_n81 : GoodIn wsX7_mix (wsX6_init) := ggX7_mix_X6_init
set_option maxRecDepth 20000 in
theorem ggX7_mix_X6_put : GoodIn wsX7_mix wsX6_put := goodIn_r _ [36, 32, 37, 38, 39, 40, 41, 5, 42, 106, 107, 108, 109, 110] (by decide +kernel) (by decide +kernel)
set_option maxRecDepth 20000 in
theorem gX7_mix_X6_put : GoodIn wsX7_mix (wsV RX7 82 RX6 yX6_put wsX6_put) := goodIn_app (goodIn_of _ (by decide +kernel)) ggX7_mix_X6_put
set_option maxRecDepth 20000 in
theorem ggX7_mix_Jx4a65c_add_9ea2d : GoodIn wsX7_mix wsJx4a65c_add_9ea2d := goodIn_r _ [46, 47, 48, 49, 17, 50, 51, 52, 15, 53, 54, 55, 56, 57, 58, 59, 60, 61, 62, 63, 64, 65, 66, 67, 68, 69, 70, 71, 72, 73, 74, 75, 76, 77, 78, 79, 80, 81, 82, 83, 84, 85, 86, 87, 88, 89, 90, 91, 92, 93, 94, 95, 96, 111, 112, 113] (by decide +kernel) (by decide +kernel)
set_option maxRecDepth 20000 in
theorem gX7_mix_Jx4a65c_add_9ea2d_f73Jx4a65c : GoodIn wsX7_mix (va_wsF RX7 73 RJx4a65c ⟨"java/util/List", "add", "(Ljava/lang/Object;)Z"⟩ yJx4a65c_add_9ea2d wsJx4a65c_add_9ea2d) := goodIn_app (goodIn_of _ (by decide +kernel)) ggX7_mix_Jx4a65c_add_9ea2d
theorem dX7_mix_0 : decode cX7_mix 0 = .ok (.aload_n 0, 1) := by decide +kernel
theorem dX7_mix_1 : decode cX7_mix 1 = .ok (.iconst 0, 1) := by decide +kernel
theorem dX7_mix_2 : decode cX7_mix 2 = .ok (.putfield 32, 3) := by decide +kernel
theorem dX7_mix_5 : decode cX7_mix 5 = .ok (.aload_n 0, 1) := by decide +kernel
theorem dX7_mix_6 : decode cX7_mix 6 = .ok (.iload_n 1, 1) := by decide +kernel
theorem dX7_mix_7 : decode cX7_mix 7 = .ok (.invokevirtual 77, 3) := by decide +kernel
theorem dX7_mix_10 : decode cX7_mix 10 = .ok (.ifCond .ne 9, 3) := by decide +kernel
theorem dX7_mix_13 : decode cX7_mix 13 = .ok (.aload_n 0, 1) := by decide +kernel
theorem dX7_mix_14 : decode cX7_mix 14 = .ok (.iconst 1, 1) := by decide +kernel
theorem dX7_mix_15 : decode cX7_mix 15 = .ok (.invokevirtual 69, 3) := by decide +kernel
theorem dX7_mix_18 : decode cX7_mix 18 = .ok (.ireturn, 1) := by decide +kernel
theorem dX7_mix_19 : decode cX7_mix 19 = .ok (.iload_n 2, 1) := by decide +kernel
theorem dX7_mix_20 : decode cX7_mix 20 = .ok (.iconst 1, 1) := by decide +kernel
theorem dX7_mix_21 : decode cX7_mix 21 = .ok (.sipush 500, 3) := by decide +kernel
theorem dX7_mix_24 : decode cX7_mix 24 = .ok (.invokestatic 42, 3) := by decide +kernel
theorem dX7_mix_27 : decode cX7_mix 27 = .ok (.ifCond .ne 9, 3) := by decide +kernel
theorem dX7_mix_30 : decode cX7_mix 30 = .ok (.aload_n 0, 1) := by decide +kernel
theorem dX7_mix_31 : decode cX7_mix 31 = .ok (.iconst 2, 1) := by decide +kernel
theorem dX7_mix_32 : decode cX7_mix 32 = .ok (.invokevirtual 69, 3) := by decide +kernel
theorem dX7_mix_35 : decode cX7_mix 35 = .ok (.ireturn, 1) := by decide +kernel
theorem dX7_mix_36 : decode cX7_mix 36 = .ok (.aload_n 0, 1) := by decide +kernel
theorem dX7_mix_37 : decode cX7_mix 37 = .ok (.getfield 16, 3) := by decide +kernel
theorem dX7_mix_40 : decode cX7_mix 40 = .ok (.invokeinterface 36 1, 5) := by decide +kernel
theorem dX7_mix_45 : decode cX7_mix 45 = .ok (.iconst 5, 1) := by decide +kernel
theorem dX7_mix_46 : decode cX7_mix 46 = .ok (.if_icmp .ne 9, 3) := by decide +kernel
theorem dX7_mix_49 : decode cX7_mix 49 = .ok (.aload_n 0, 1) := by decide +kernel
theorem dX7_mix_50 : decode cX7_mix 50 = .ok (.iconst 3, 1) := by decide +kernel
theorem dX7_mix_51 : decode cX7_mix 51 = .ok (.invokevirtual 69, 3) := by decide +kernel
theorem dX7_mix_54 : decode cX7_mix 54 = .ok (.ireturn, 1) := by decide +kernel
theorem dX7_mix_55 : decode cX7_mix 55 = .ok (.new 59, 3) := by decide +kernel
theorem dX7_mix_58 : decode cX7_mix 58 = .ok (.dup, 1) := by decide +kernel
theorem dX7_mix_59 : decode cX7_mix 59 = .ok (.aload_n 0, 1) := by decide +kernel
theorem dX7_mix_60 : decode cX7_mix 60 = .ok (.invokespecial 81, 3) := by decide +kernel
theorem dX7_mix_63 : decode cX7_mix 63 = .ok (.astore_n 3, 1) := by decide +kernel
theorem dX7_mix_64 : decode cX7_mix 64 = .ok (.aload_n 3, 1) := by decide +kernel
theorem dX7_mix_65 : decode cX7_mix 65 = .ok (.iload_n 1, 1) := by decide +kernel
theorem dX7_mix_66 : decode cX7_mix 66 = .ok (.iload_n 2, 1) := by decide +kernel
theorem dX7_mix_67 : decode cX7_mix 67 = .ok (.invokevirtual 82, 3) := by decide +kernel
theorem dX7_mix_70 : decode cX7_mix 70 = .ok (.pop, 1) := by decide +kernel
theorem dX7_mix_71 : decode cX7_mix 71 = .ok (.aload_n 0, 1) := by decide +kernel
theorem dX7_mix_72 : decode cX7_mix 72 = .ok (.getfield 16, 3) := by decide +kernel
theorem dX7_mix_75 : decode cX7_mix 75 = .ok (.aload_n 3, 1) := by decide +kernel
theorem dX7_mix_76 : decode cX7_mix 76 = .ok (.invokeinterface 73 2, 5) := by decide +kernel
theorem dX7_mix_81 : decode cX7_mix 81 = .ok (.pop, 1) := by decide +kernel
theorem dX7_mix_82 : decode cX7_mix 82 = .ok (.aload_n 0, 1) := by decide +kernel
theorem dX7_mix_83 : decode cX7_mix 83 = .ok (.getfield 16, 3) := by decide +kernel
theorem dX7_mix_86 : decode cX7_mix 86 = .ok (.invokeinterface 36 1, 5) := by decide +kernel
theorem dX7_mix_91 : decode cX7_mix 91 = .ok (.iconst 1, 1) := by decide +kernel
theorem dX7_mix_92 : decode cX7_mix 92 = .ok (.isub, 1) := by decide +kernel
theorem dX7_mix_93 : decode cX7_mix 93 = .ok (.ireturn, 1) := by decide +kernel
set_option maxRecDepth 20000 in
theorem ggX7_put_X7_isMix : GoodIn wsX7_put wsX7_isMix := goodIn_r _ [8, 2, 9, 10, 11, 12, 13, 14, 15, 16, 7, 17, 64, 65, 66, 67, 68, 69, 70, 71, 72, 73, 74, 75] (by decide +kernel) (by decide +kernel)
set_option maxRecDepth 20000 in
theorem gX7_put_X7_isMix : GoodIn wsX7_put (wsV RX7 86 RX7 yX7_isMix wsX7_isMix) := goodIn_app (goodIn_of _ (by decide +kernel)) ggX7_put_X7_isMix
set_option maxRecDepth 20000 in
theorem ggX7_put_X7_isIngredient : GoodIn wsX7_put wsX7_isIngredient := goodIn_r _ [21, 22, 9, 10, 11, 12, 13, 14, 15, 16, 7, 17, 64, 65, 66, 67, 68, 69, 70, 71, 72, 73, 74, 75] (by decide +kernel) (by decide +kernel)
set_option maxRecDepth 20000 in
theorem gX7_put_X7_isIngredient : GoodIn wsX7_put (wsV RX7 77 RX7 yX7_isIngredient wsX7_isIngredient) := goodIn_app (goodIn_of _ (by decide +kernel)) ggX7_put_X7_isIngredient
set_option maxRecDepth 20000 in
theorem ggX7_put_X7_no : GoodIn wsX7_put wsX7_no := goodIn_r _ [26, 1, 64, 65, 66, 67, 68, 69, 70, 71, 72] (by decide +kernel) (by decide +kernel)
set_option maxRecDepth 20000 in
theorem gX7_put_X7_no : GoodIn wsX7_put (wsV RX7 69 RX7 yX7_no wsX7_no) := goodIn_app (goodIn_of _ (by decide +kernel)) ggX7_put_X7_no
set_option maxRecDepth 20000 in
theorem ggX7_put_X7_in : GoodIn wsX7_put wsX7_in := goodIn_r _ [17] (by decide +kernel) (by decide +kernel)
set_option maxRecDepth 20000 in
theorem gX7_put_X7_in : GoodIn wsX7_put (va_wsS RX7 42 yX7_in wsX7_in) := goodIn_app (goodIn_of _ (by decide +kernel)) ggX7_put_X7_in
set_option maxRecDepth 20000 in
theorem ggX7_put_Jx4a65c_get_915e3 : GoodIn wsX7_put wsJx4a65c_get_915e3 := goodIn_r _ [30, 14, 31, 32, 33, 34, 35, 36, 37, 38, 39, 40, 41, 12, 42, 43, 73, 74, 75] (by decide +kernel) (by decide +kernel)
set_option maxRecDepth 20000 in
theorem gX7_put_Jx4a65c_get_915e3_f55Jx4a65c : GoodIn wsX7_put (va_wsF RX7 55 RJx4a65c ⟨"java/util/List", "get", "(I)Ljava/lang/Object;"⟩ yJx4a65c_get_915e3 wsJx4a65c_get_915e3) := goodIn_app (goodIn_of _ (by decide +kernel)) ggX7_put_Jx4a65c_get_915e3
set_option maxRecDepth 20000 in
theorem ggX7_put_X6_all : GoodIn wsX7_put wsX6_all := goodIn_r _ [48, 49, 76, 77, 78, 79, 80] (by decide +kernel) (by decide +kernel)
set_option maxRecDepth 20000 in
theorem gX7_put_X6_all : GoodIn wsX7_put (wsV RX7 89 RX6 yX6_all wsX6_all) := goodIn_app (goodIn_of _ (by decide +kernel)) ggX7_put_X6_all
set_option maxRecDepth 20000 in
theorem ggX7_put_X7_batchesOf : GoodIn wsX7_put wsX7_batchesOf := goodIn_r _ [53, 54, 55, 56, 64, 65, 66, 67, 68, 69, 70, 71, 72, 81, 82, 83, 84, 85, 86, 87, 88, 89, 90] (by decide +kernel) (by decide +kernel)
set_option maxRecDepth 20000 in
theorem gX7_put_X7_batchesOf : GoodIn wsX7_put (wsV RX7 92 RX7 yX7_batchesOf wsX7_batchesOf) := goodIn_app (goodIn_of _ (by decide +kernel)) ggX7_put_X7_batchesOf
set_option maxRecDepth 20000 in
theorem ggX7_put_X6_put : GoodIn wsX7_put wsX6_put := goodIn_r _ [60, 49, 61, 62, 63, 45, 46, 47, 48, 76, 77, 78, 79, 80] (by decide +kernel) (by decide +kernel)
set_option maxRecDepth 20000 in
theorem gX7_put_X6_put : GoodIn wsX7_put (wsV RX7 82 RX6 yX6_put wsX6_put) := goodIn_app (goodIn_of _ (by decide +kernel)) ggX7_put_X6_put
theorem dX7_put_0 : decode cX7_put 0 = .ok (.aload_n 0, 1) := by decide +kernel
theorem dX7_put_1 : decode cX7_put 1 = .ok (.iconst 0, 1) := by decide +kernel
theorem dX7_put_2 : decode cX7_put 2 = .ok (.putfield 32, 3) := by decide +kernel
theorem dX7_put_5 : decode cX7_put 5 = .ok (.aload_n 0, 1) := by decide +kernel
theorem dX7_put_6 : decode cX7_put 6 = .ok (.iload_n 1, 1) := by decide +kernel
theorem dX7_put_7 : decode cX7_put 7 = .ok (.invokevirtual 86, 3) := by decide +kernel
theorem dX7_put_10 : decode cX7_put 10 = .ok (.ifCond .eq 11, 3) := by decide +kernel
theorem dX7_put_13 : decode cX7_put 13 = .ok (.aload_n 0, 1) := by decide +kernel
theorem dX7_put_14 : decode cX7_put 14 = .ok (.iload_n 2, 1) := by decide +kernel
theorem dX7_put_15 : decode cX7_put 15 = .ok (.invokevirtual 77, 3) := by decide +kernel
theorem dX7_put_18 : decode cX7_put 18 = .ok (.ifCond .ne 9, 3) := by decide +kernel
theorem dX7_put_21 : decode cX7_put 21 = .ok (.aload_n 0, 1) := by decide +kernel
theorem dX7_put_22 : decode cX7_put 22 = .ok (.iconst 1, 1) := by decide +kernel
theorem dX7_put_23 : decode cX7_put 23 = .ok (.invokevirtual 69, 3) := by decide +kernel
theorem dX7_put_26 : decode cX7_put 26 = .ok (.ireturn, 1) := by decide +kernel
theorem dX7_put_27 : decode cX7_put 27 = .ok (.iload_n 3, 1) := by decide +kernel
theorem dX7_put_28 : decode cX7_put 28 = .ok (.iconst 1, 1) := by decide +kernel
theorem dX7_put_29 : decode cX7_put 29 = .ok (.sipush 500, 3) := by decide +kernel
theorem dX7_put_32 : decode cX7_put 32 = .ok (.invokestatic 42, 3) := by decide +kernel
theorem dX7_put_35 : decode cX7_put 35 = .ok (.ifCond .ne 9, 3) := by decide +kernel
theorem dX7_put_38 : decode cX7_put 38 = .ok (.aload_n 0, 1) := by decide +kernel
theorem dX7_put_39 : decode cX7_put 39 = .ok (.iconst 2, 1) := by decide +kernel
theorem dX7_put_40 : decode cX7_put 40 = .ok (.invokevirtual 69, 3) := by decide +kernel
theorem dX7_put_43 : decode cX7_put 43 = .ok (.ireturn, 1) := by decide +kernel
theorem dX7_put_44 : decode cX7_put 44 = .ok (.aload_n 0, 1) := by decide +kernel
theorem dX7_put_45 : decode cX7_put 45 = .ok (.getfield 16, 3) := by decide +kernel
theorem dX7_put_48 : decode cX7_put 48 = .ok (.iload_n 1, 1) := by decide +kernel
theorem dX7_put_49 : decode cX7_put 49 = .ok (.invokeinterface 55 2, 5) := by decide +kernel
theorem dX7_put_54 : decode cX7_put 54 = .ok (.checkcast 59, 3) := by decide +kernel
theorem dX7_put_57 : decode cX7_put 57 = .ok (.invokevirtual 89, 3) := by decide +kernel
theorem dX7_put_60 : decode cX7_put 60 = .ok (.iload_n 3, 1) := by decide +kernel
theorem dX7_put_61 : decode cX7_put 61 = .ok (.iadd, 1) := by decide +kernel
theorem dX7_put_62 : decode cX7_put 62 = .ok (.sipush 500, 3) := by decide +kernel
theorem dX7_put_65 : decode cX7_put 65 = .ok (.if_icmp .gt 11, 3) := by decide +kernel
theorem dX7_put_68 : decode cX7_put 68 = .ok (.aload_n 0, 1) := by decide +kernel
theorem dX7_put_69 : decode cX7_put 69 = .ok (.iload_n 1, 1) := by decide +kernel
theorem dX7_put_70 : decode cX7_put 70 = .ok (.invokevirtual 92, 3) := by decide +kernel
theorem dX7_put_73 : decode cX7_put 73 = .ok (.ifCond .le 9, 3) := by decide +kernel
theorem dX7_put_76 : decode cX7_put 76 = .ok (.aload_n 0, 1) := by decide +kernel
theorem dX7_put_77 : decode cX7_put 77 = .ok (.iconst 3, 1) := by decide +kernel
theorem dX7_put_78 : decode cX7_put 78 = .ok (.invokevirtual 69, 3) := by decide +kernel
theorem dX7_put_81 : decode cX7_put 81 = .ok (.ireturn, 1) := by decide +kernel
theorem dX7_put_82 : decode cX7_put 82 = .ok (.aload_n 0, 1) := by decide +kernel
theorem dX7_put_83 : decode cX7_put 83 = .ok (.getfield 16, 3) := by decide +kernel
theorem dX7_put_86 : decode cX7_put 86 = .ok (.iload_n 1, 1) := by decide +kernel
theorem dX7_put_87 : decode cX7_put 87 = .ok (.invokeinterface 55 2, 5) := by decide +kernel
theorem dX7_put_92 : decode cX7_put 92 = .ok (.checkcast 59, 3) := by decide +kernel
theorem dX7_put_95 : decode cX7_put 95 = .ok (.iload_n 2, 1) := by decide +kernel
theorem dX7_put_96 : decode cX7_put 96 = .ok (.iload_n 3, 1) := by decide +kernel
theorem dX7_put_97 : decode cX7_put 97 = .ok (.invokevirtual 82, 3) := by decide +kernel
theorem dX7_put_100 : decode cX7_put 100 = .ok (.ireturn, 1) := by decide +kernel
set_option maxRecDepth 20000 in
theorem ggX7_heat_X7_isMix : GoodIn wsX7_heat wsX7_isMix := goodIn_r _ [10, 2, 11, 12, 13, 14, 15, 16, 17, 18, 9, 19, 41, 42, 43, 44, 45, 46, 47, 48, 49, 55, 56, 57] (by decide +kernel) (by decide +kernel)
set_option maxRecDepth 20000 in
theorem gX7_heat_X7_isMix : GoodIn wsX7_heat (wsV RX7 86 RX7 yX7_isMix wsX7_isMix) := goodIn_app (goodIn_of _ (by decide +kernel)) ggX7_heat_X7_isMix
set_option maxRecDepth 20000 in
theorem ggX7_heat_X7_no : GoodIn wsX7_heat wsX7_no := goodIn_r _ [23, 1, 41, 42, 43, 44, 45, 46, 47, 48, 49] (by decide +kernel) (by decide +kernel)
set_option maxRecDepth 20000 in
theorem gX7_heat_X7_no : GoodIn wsX7_heat (wsV RX7 69 RX7 yX7_no wsX7_no) := goodIn_app (goodIn_of _ (by decide +kernel)) ggX7_heat_X7_no
set_option maxRecDepth 20000 in
theorem ggX7_heat_X7_in : GoodIn wsX7_heat wsX7_in := goodIn_r _ [19] (by decide +kernel) (by decide +kernel)
set_option maxRecDepth 20000 in
theorem gX7_heat_X7_in : GoodIn wsX7_heat (va_wsS RX7 42 yX7_in wsX7_in) := goodIn_app (goodIn_of _ (by decide +kernel)) ggX7_heat_X7_in
set_option maxRecDepth 20000 in
theorem ggX7_heat_Jx4a65c_get_915e3 : GoodIn wsX7_heat wsJx4a65c_get_915e3 := goodIn_r _ [27, 16, 28, 29, 30, 31, 32, 33, 34, 35, 36, 37, 38, 14, 39, 40, 55, 56, 57] (by decide +kernel) (by decide +kernel)
set_option maxRecDepth 20000 in
theorem gX7_heat_Jx4a65c_get_915e3_f55Jx4a65c : GoodIn wsX7_heat (va_wsF RX7 55 RJx4a65c ⟨"java/util/List", "get", "(I)Ljava/lang/Object;"⟩ yJx4a65c_get_915e3 wsJx4a65c_get_915e3) := goodIn_app (goodIn_of _ (by decide +kernel)) ggX7_heat_Jx4a65c_get_915e3
theorem dX7_heat_0 : decode cX7_heat 0 = .ok (.aload_n 0, 1) := by decide +kernel
theorem dX7_heat_1 : decode cX7_heat 1 = .ok (.iconst 0, 1) := by decide +kernel
theorem dX7_heat_2 : decode cX7_heat 2 = .ok (.putfield 32, 3) := by decide +kernel
theorem dX7_heat_5 : decode cX7_heat 5 = .ok (.aload_n 0, 1) := by decide +kernel
theorem dX7_heat_6 : decode cX7_heat 6 = .ok (.iload_n 1, 1) := by decide +kernel
theorem dX7_heat_7 : decode cX7_heat 7 = .ok (.invokevirtual 86, 3) := by decide +kernel
theorem dX7_heat_10 : decode cX7_heat 10 = .ok (.ifCond .ne 17, 3) := by decide +kernel
theorem dX7_heat_13 : decode cX7_heat 13 = .ok (.aload_n 0, 1) := by decide +kernel
theorem dX7_heat_14 : decode cX7_heat 14 = .ok (.iconst 1, 1) := by decide +kernel
theorem dX7_heat_15 : decode cX7_heat 15 = .ok (.invokevirtual 69, 3) := by decide +kernel
theorem dX7_heat_18 : decode cX7_heat 18 = .ok (.ifCond .le 7, 3) := by decide +kernel
theorem dX7_heat_21 : decode cX7_heat 21 = .ok (.iconst 1, 1) := by decide +kernel
theorem dX7_heat_22 : decode cX7_heat 22 = .ok (.goto 4, 3) := by decide +kernel
theorem dX7_heat_25 : decode cX7_heat 25 = .ok (.iconst 0, 1) := by decide +kernel
theorem dX7_heat_26 : decode cX7_heat 26 = .ok (.ireturn, 1) := by decide +kernel
theorem dX7_heat_27 : decode cX7_heat 27 = .ok (.iload_n 2, 1) := by decide +kernel
theorem dX7_heat_28 : decode cX7_heat 28 = .ok (.bipush 20, 2) := by decide +kernel
theorem dX7_heat_30 : decode cX7_heat 30 = .ok (.bipush 120, 2) := by decide +kernel
theorem dX7_heat_32 : decode cX7_heat 32 = .ok (.invokestatic 42, 3) := by decide +kernel
theorem dX7_heat_35 : decode cX7_heat 35 = .ok (.ifCond .eq 14, 3) := by decide +kernel
theorem dX7_heat_38 : decode cX7_heat 38 = .ok (.iload_n 3, 1) := by decide +kernel
theorem dX7_heat_39 : decode cX7_heat 39 = .ok (.iconst 1, 1) := by decide +kernel
theorem dX7_heat_40 : decode cX7_heat 40 = .ok (.sipush 9999, 3) := by decide +kernel
theorem dX7_heat_43 : decode cX7_heat 43 = .ok (.invokestatic 42, 3) := by decide +kernel
theorem dX7_heat_46 : decode cX7_heat 46 = .ok (.ifCond .ne 17, 3) := by decide +kernel
theorem dX7_heat_49 : decode cX7_heat 49 = .ok (.aload_n 0, 1) := by decide +kernel
theorem dX7_heat_50 : decode cX7_heat 50 = .ok (.iconst 2, 1) := by decide +kernel
theorem dX7_heat_51 : decode cX7_heat 51 = .ok (.invokevirtual 69, 3) := by decide +kernel
theorem dX7_heat_54 : decode cX7_heat 54 = .ok (.ifCond .le 7, 3) := by decide +kernel
theorem dX7_heat_57 : decode cX7_heat 57 = .ok (.iconst 1, 1) := by decide +kernel
theorem dX7_heat_58 : decode cX7_heat 58 = .ok (.goto 4, 3) := by decide +kernel
theorem dX7_heat_61 : decode cX7_heat 61 = .ok (.iconst 0, 1) := by decide +kernel
theorem dX7_heat_62 : decode cX7_heat 62 = .ok (.ireturn, 1) := by decide +kernel
theorem dX7_heat_63 : decode cX7_heat 63 = .ok (.iload_n 2, 1) := by decide +kernel
theorem dX7_heat_64 : decode cX7_heat 64 = .ok (.bipush 65, 2) := by decide +kernel
theorem dX7_heat_66 : decode cX7_heat 66 = .ok (.if_icmp .ge 9, 3) := by decide +kernel
theorem dX7_heat_69 : decode cX7_heat 69 = .ok (.sipush 10000, 3) := by decide +kernel
theorem dX7_heat_72 : decode cX7_heat 72 = .ok (.goto 40, 3) := by decide +kernel
theorem dX7_heat_75 : decode cX7_heat 75 = .ok (.iload_n 2, 1) := by decide +kernel
theorem dX7_heat_76 : decode cX7_heat 76 = .ok (.bipush 70, 2) := by decide +kernel
theorem dX7_heat_78 : decode cX7_heat 78 = .ok (.if_icmp .ge 9, 3) := by decide +kernel
theorem dX7_heat_81 : decode cX7_heat 81 = .ok (.sipush 1800, 3) := by decide +kernel
theorem dX7_heat_84 : decode cX7_heat 84 = .ok (.goto 28, 3) := by decide +kernel
theorem dX7_heat_87 : decode cX7_heat 87 = .ok (.iload_n 2, 1) := by decide +kernel
theorem dX7_heat_88 : decode cX7_heat 88 = .ok (.bipush 75, 2) := by decide +kernel
theorem dX7_heat_90 : decode cX7_heat 90 = .ok (.if_icmp .ge 9, 3) := by decide +kernel
theorem dX7_heat_93 : decode cX7_heat 93 = .ok (.sipush 300, 3) := by decide +kernel
theorem dX7_heat_96 : decode cX7_heat 96 = .ok (.goto 16, 3) := by decide +kernel
theorem dX7_heat_99 : decode cX7_heat 99 = .ok (.iload_n 2, 1) := by decide +kernel
theorem dX7_heat_100 : decode cX7_heat 100 = .ok (.bipush 80, 2) := by decide +kernel
theorem dX7_heat_102 : decode cX7_heat 102 = .ok (.if_icmp .ge 8, 3) := by decide +kernel
theorem dX7_heat_105 : decode cX7_heat 105 = .ok (.bipush 60, 2) := by decide +kernel
theorem dX7_heat_107 : decode cX7_heat 107 = .ok (.goto 5, 3) := by decide +kernel
theorem dX7_heat_110 : decode cX7_heat 110 = .ok (.bipush 15, 2) := by decide +kernel
theorem dX7_heat_112 : decode cX7_heat 112 = .ok (.istore 4, 2) := by decide +kernel
theorem dX7_heat_114 : decode cX7_heat 114 = .ok (.aload_n 0, 1) := by decide +kernel
theorem dX7_heat_115 : decode cX7_heat 115 = .ok (.getfield 16, 3) := by decide +kernel
theorem dX7_heat_118 : decode cX7_heat 118 = .ok (.iload_n 1, 1) := by decide +kernel
theorem dX7_heat_119 : decode cX7_heat 119 = .ok (.invokeinterface 55 2, 5) := by decide +kernel
theorem dX7_heat_124 : decode cX7_heat 124 = .ok (.checkcast 59, 3) := by decide +kernel
theorem dX7_heat_127 : decode cX7_heat 127 = .ok (.dup, 1) := by decide +kernel
theorem dX7_heat_128 : decode cX7_heat 128 = .ok (.getfield 95, 3) := by decide +kernel
theorem dX7_heat_131 : decode cX7_heat 131 = .ok (.iload_n 3, 1) := by decide +kernel
theorem dX7_heat_132 : decode cX7_heat 132 = .ok (.iload 4, 2) := by decide +kernel
theorem dX7_heat_134 : decode cX7_heat 134 = .ok (.if_icmp .lt 7, 3) := by decide +kernel
theorem dX7_heat_137 : decode cX7_heat 137 = .ok (.iconst 1, 1) := by decide +kernel
theorem dX7_heat_138 : decode cX7_heat 138 = .ok (.goto 4, 3) := by decide +kernel
theorem dX7_heat_141 : decode cX7_heat 141 = .ok (.iconst 0, 1) := by decide +kernel
theorem dX7_heat_142 : decode cX7_heat 142 = .ok (.ior, 1) := by decide +kernel
theorem dX7_heat_143 : decode cX7_heat 143 = .ok (.putfield 95, 3) := by decide +kernel
theorem dX7_heat_146 : decode cX7_heat 146 = .ok (.aload_n 0, 1) := by decide +kernel
theorem dX7_heat_147 : decode cX7_heat 147 = .ok (.getfield 16, 3) := by decide +kernel
theorem dX7_heat_150 : decode cX7_heat 150 = .ok (.iload_n 1, 1) := by decide +kernel
theorem dX7_heat_151 : decode cX7_heat 151 = .ok (.invokeinterface 55 2, 5) := by decide +kernel
theorem dX7_heat_156 : decode cX7_heat 156 = .ok (.checkcast 59, 3) := by decide +kernel
theorem dX7_heat_159 : decode cX7_heat 159 = .ok (.iconst 0, 1) := by decide +kernel
theorem dX7_heat_160 : decode cX7_heat 160 = .ok (.putfield 99, 3) := by decide +kernel
theorem dX7_heat_163 : decode cX7_heat 163 = .ok (.aload_n 0, 1) := by decide +kernel
theorem dX7_heat_164 : decode cX7_heat 164 = .ok (.getfield 16, 3) := by decide +kernel
theorem dX7_heat_167 : decode cX7_heat 167 = .ok (.iload_n 1, 1) := by decide +kernel
theorem dX7_heat_168 : decode cX7_heat 168 = .ok (.invokeinterface 55 2, 5) := by decide +kernel
theorem dX7_heat_173 : decode cX7_heat 173 = .ok (.checkcast 59, 3) := by decide +kernel
theorem dX7_heat_176 : decode cX7_heat 176 = .ok (.getfield 95, 3) := by decide +kernel
theorem dX7_heat_179 : decode cX7_heat 179 = .ok (.ireturn, 1) := by decide +kernel
set_option maxRecDepth 20000 in
theorem ggX7_barsNow_X7_in : GoodIn wsX7_barsNow wsX7_in := goodIn_r _ [10] (by decide +kernel) (by decide +kernel)
set_option maxRecDepth 20000 in
theorem gX7_barsNow_X7_in : GoodIn wsX7_barsNow (va_wsS RX7 42 yX7_in wsX7_in) := goodIn_app (goodIn_of _ (by decide +kernel)) ggX7_barsNow_X7_in
set_option maxRecDepth 20000 in
theorem ggX7_barsNow_X6_harms : GoodIn wsX7_barsNow wsX6_harms := goodIn_r _ [15, 16, 17, 18, 19, 20, 21, 22, 23, 24, 25, 26, 27, 28, 29, 30, 31, 32, 33, 34, 35, 36, 37, 38, 39, 40, 41, 60, 61, 62, 63, 64, 65, 66, 67, 68, 69, 70, 71, 72, 73, 84, 85, 86] (by decide +kernel) (by decide +kernel)
set_option maxRecDepth 20000 in
theorem gX7_barsNow_X6_harms : GoodIn wsX7_barsNow (wsV RX7 105 RX6 yX6_harms wsX6_harms) := goodIn_app (goodIn_of _ (by decide +kernel)) ggX7_barsNow_X6_harms
set_option maxRecDepth 20000 in
theorem ggX7_barsNow_X6_isCream : GoodIn wsX7_barsNow wsX6_isCream := goodIn_r _ [45, 46, 47, 48, 49, 50, 14, 51, 52, 53, 54, 55, 16, 17, 18, 19, 20, 21, 22, 23, 24, 25, 26, 27, 28, 29, 30, 31, 32, 33, 34, 35, 36, 37, 38, 39, 40, 41, 56, 57, 58, 59, 60, 61, 62, 63, 64, 65, 66, 67, 68, 69, 70, 71, 72, 73, 84, 85, 86] (by decide +kernel) (by decide +kernel)
set_option maxRecDepth 20000 in
theorem gX7_barsNow_X6_isCream : GoodIn wsX7_barsNow (wsV RX7 108 RX6 yX6_isCream wsX6_isCream) := goodIn_app (goodIn_of _ (by decide +kernel)) ggX7_barsNow_X6_isCream
theorem dX7_barsNow_0 : decode cX7_barsNow 0 = .ok (.aload_n 2, 1) := by decide +kernel
theorem dX7_barsNow_1 : decode cX7_barsNow 1 = .ok (.getfield 95, 3) := by decide +kernel
theorem dX7_barsNow_4 : decode cX7_barsNow 4 = .ok (.ifCond .ne 5, 3) := by decide +kernel
theorem dX7_barsNow_7 : decode cX7_barsNow 7 = .ok (.iconst 1, 1) := by decide +kernel
theorem dX7_barsNow_8 : decode cX7_barsNow 8 = .ok (.ireturn, 1) := by decide +kernel
theorem dX7_barsNow_9 : decode cX7_barsNow 9 = .ok (.aload_n 2, 1) := by decide +kernel
theorem dX7_barsNow_10 : decode cX7_barsNow 10 = .ok (.getfield 99, 3) := by decide +kernel
theorem dX7_barsNow_13 : decode cX7_barsNow 13 = .ok (.iconst 4, 1) := by decide +kernel
theorem dX7_barsNow_14 : decode cX7_barsNow 14 = .ok (.bipush 72, 2) := by decide +kernel
theorem dX7_barsNow_16 : decode cX7_barsNow 16 = .ok (.invokestatic 42, 3) := by decide +kernel
theorem dX7_barsNow_19 : decode cX7_barsNow 19 = .ok (.ifCond .ne 17, 3) := by decide +kernel
theorem dX7_barsNow_22 : decode cX7_barsNow 22 = .ok (.aload_n 2, 1) := by decide +kernel
theorem dX7_barsNow_23 : decode cX7_barsNow 23 = .ok (.getfield 99, 3) := by decide +kernel
theorem dX7_barsNow_26 : decode cX7_barsNow 26 = .ok (.iconst 4, 1) := by decide +kernel
theorem dX7_barsNow_27 : decode cX7_barsNow 27 = .ok (.if_icmp .ge 7, 3) := by decide +kernel
theorem dX7_barsNow_30 : decode cX7_barsNow 30 = .ok (.iconst 2, 1) := by decide +kernel
theorem dX7_barsNow_31 : decode cX7_barsNow 31 = .ok (.goto 4, 3) := by decide +kernel
theorem dX7_barsNow_34 : decode cX7_barsNow 34 = .ok (.iconst 3, 1) := by decide +kernel
theorem dX7_barsNow_35 : decode cX7_barsNow 35 = .ok (.ireturn, 1) := by decide +kernel
theorem dX7_barsNow_36 : decode cX7_barsNow 36 = .ok (.aload_n 2, 1) := by decide +kernel
theorem dX7_barsNow_37 : decode cX7_barsNow 37 = .ok (.getfield 102, 3) := by decide +kernel
theorem dX7_barsNow_40 : decode cX7_barsNow 40 = .ok (.iload_n 3, 1) := by decide +kernel
theorem dX7_barsNow_41 : decode cX7_barsNow 41 = .ok (.if_icmp .ge 5, 3) := by decide +kernel
theorem dX7_barsNow_44 : decode cX7_barsNow 44 = .ok (.iconst 4, 1) := by decide +kernel
theorem dX7_barsNow_45 : decode cX7_barsNow 45 = .ok (.ireturn, 1) := by decide +kernel
theorem dX7_barsNow_46 : decode cX7_barsNow 46 = .ok (.aload_n 0, 1) := by decide +kernel
theorem dX7_barsNow_47 : decode cX7_barsNow 47 = .ok (.getfield 28, 3) := by decide +kernel
theorem dX7_barsNow_50 : decode cX7_barsNow 50 = .ok (.iload_n 1, 1) := by decide +kernel
theorem dX7_barsNow_51 : decode cX7_barsNow 51 = .ok (.iaload, 1) := by decide +kernel
theorem dX7_barsNow_52 : decode cX7_barsNow 52 = .ok (.aload_n 2, 1) := by decide +kernel
theorem dX7_barsNow_53 : decode cX7_barsNow 53 = .ok (.invokevirtual 105, 3) := by decide +kernel
theorem dX7_barsNow_56 : decode cX7_barsNow 56 = .ok (.iconst (-1), 1) := by decide +kernel
theorem dX7_barsNow_57 : decode cX7_barsNow 57 = .ok (.ixor, 1) := by decide +kernel
theorem dX7_barsNow_58 : decode cX7_barsNow 58 = .ok (.iand, 1) := by decide +kernel
theorem dX7_barsNow_59 : decode cX7_barsNow 59 = .ok (.ifCond .eq 5, 3) := by decide +kernel
theorem dX7_barsNow_62 : decode cX7_barsNow 62 = .ok (.iconst 5, 1) := by decide +kernel
theorem dX7_barsNow_63 : decode cX7_barsNow 63 = .ok (.ireturn, 1) := by decide +kernel
theorem dX7_barsNow_64 : decode cX7_barsNow 64 = .ok (.iload 4, 2) := by decide +kernel
theorem dX7_barsNow_66 : decode cX7_barsNow 66 = .ok (.bipush 100, 2) := by decide +kernel
theorem dX7_barsNow_68 : decode cX7_barsNow 68 = .ok (.if_icmp .le 13, 3) := by decide +kernel
theorem dX7_barsNow_71 : decode cX7_barsNow 71 = .ok (.aload_n 2, 1) := by decide +kernel
theorem dX7_barsNow_72 : decode cX7_barsNow 72 = .ok (.invokevirtual 108, 3) := by decide +kernel
theorem dX7_barsNow_75 : decode cX7_barsNow 75 = .ok (.ifCond .eq 6, 3) := by decide +kernel
theorem dX7_barsNow_78 : decode cX7_barsNow 78 = .ok (.bipush 6, 2) := by decide +kernel
theorem dX7_barsNow_80 : decode cX7_barsNow 80 = .ok (.ireturn, 1) := by decide +kernel
theorem dX7_barsNow_81 : decode cX7_barsNow 81 = .ok (.aload_n 0, 1) := by decide +kernel
theorem dX7_barsNow_82 : decode cX7_barsNow 82 = .ok (.getfield 24, 3) := by decide +kernel
theorem dX7_barsNow_85 : decode cX7_barsNow 85 = .ok (.getfield 46, 3) := by decide +kernel
theorem dX7_barsNow_88 : decode cX7_barsNow 88 = .ok (.bipush 12, 2) := by decide +kernel
theorem dX7_barsNow_90 : decode cX7_barsNow 90 = .ok (.if_icmp .ne 8, 3) := by decide +kernel
theorem dX7_barsNow_93 : decode cX7_barsNow 93 = .ok (.bipush 7, 2) := by decide +kernel
theorem dX7_barsNow_95 : decode cX7_barsNow 95 = .ok (.goto 4, 3) := by decide +kernel
theorem dX7_barsNow_98 : decode cX7_barsNow 98 = .ok (.iconst 0, 1) := by decide +kernel
theorem dX7_barsNow_99 : decode cX7_barsNow 99 = .ok (.ireturn, 1) := by decide +kernel
set_option maxRecDepth 20000 in
theorem ggX7_canAsk_X7_in : GoodIn wsX7_canAsk wsX7_in := goodIn_r _ [5] (by decide +kernel) (by decide +kernel)
set_option maxRecDepth 20000 in
theorem gX7_canAsk_X7_in : GoodIn wsX7_canAsk (va_wsS RX7 42 yX7_in wsX7_in) := goodIn_app (goodIn_of _ (by decide +kernel)) ggX7_canAsk_X7_in
set_option maxRecDepth 20000 in
theorem ggX7_canAsk_X7_isMix : GoodIn wsX7_canAsk wsX7_isMix := goodIn_r _ [9, 10, 11, 12, 13, 14, 15, 16, 2, 3, 4, 5, 17, 18, 19, 20, 21, 22, 23, 24, 25, 26, 27, 28] (by decide +kernel) (by decide +kernel)
set_option maxRecDepth 20000 in
theorem gX7_canAsk_X7_isMix : GoodIn wsX7_canAsk (wsV RX7 86 RX7 yX7_isMix wsX7_isMix) := goodIn_app (goodIn_of _ (by decide +kernel)) ggX7_canAsk_X7_isMix
theorem dX7_canAsk_0 : decode cX7_canAsk 0 = .ok (.aload_n 0, 1) := by decide +kernel
theorem dX7_canAsk_1 : decode cX7_canAsk 1 = .ok (.iload_n 1, 1) := by decide +kernel
theorem dX7_canAsk_2 : decode cX7_canAsk 2 = .ok (.iconst 0, 1) := by decide +kernel
theorem dX7_canAsk_3 : decode cX7_canAsk 3 = .ok (.iconst 1, 1) := by decide +kernel
theorem dX7_canAsk_4 : decode cX7_canAsk 4 = .ok (.invokestatic 42, 3) := by decide +kernel
theorem dX7_canAsk_7 : decode cX7_canAsk 7 = .ok (.ifCond .eq 11, 3) := by decide +kernel
theorem dX7_canAsk_10 : decode cX7_canAsk 10 = .ok (.aload_n 0, 1) := by decide +kernel
theorem dX7_canAsk_11 : decode cX7_canAsk 11 = .ok (.iload_n 2, 1) := by decide +kernel
theorem dX7_canAsk_12 : decode cX7_canAsk 12 = .ok (.invokevirtual 86, 3) := by decide +kernel
theorem dX7_canAsk_15 : decode cX7_canAsk 15 = .ok (.ifCond .ne 7, 3) := by decide +kernel
theorem dX7_canAsk_18 : decode cX7_canAsk 18 = .ok (.iconst 1, 1) := by decide +kernel
theorem dX7_canAsk_19 : decode cX7_canAsk 19 = .ok (.goto 32, 3) := by decide +kernel
theorem dX7_canAsk_22 : decode cX7_canAsk 22 = .ok (.iload_n 3, 1) := by decide +kernel
theorem dX7_canAsk_23 : decode cX7_canAsk 23 = .ok (.iconst 5, 1) := by decide +kernel
theorem dX7_canAsk_24 : decode cX7_canAsk 24 = .ok (.sipush 500, 3) := by decide +kernel
theorem dX7_canAsk_27 : decode cX7_canAsk 27 = .ok (.invokestatic 42, 3) := by decide +kernel
theorem dX7_canAsk_30 : decode cX7_canAsk 30 = .ok (.ifCond .eq 16, 3) := by decide +kernel
theorem dX7_canAsk_33 : decode cX7_canAsk 33 = .ok (.iload 4, 2) := by decide +kernel
theorem dX7_canAsk_35 : decode cX7_canAsk 35 = .ok (.bipush 20, 2) := by decide +kernel
theorem dX7_canAsk_37 : decode cX7_canAsk 37 = .ok (.sipush 140, 3) := by decide +kernel
theorem dX7_canAsk_40 : decode cX7_canAsk 40 = .ok (.invokestatic 42, 3) := by decide +kernel
theorem dX7_canAsk_43 : decode cX7_canAsk 43 = .ok (.ifCond .ne 7, 3) := by decide +kernel
theorem dX7_canAsk_46 : decode cX7_canAsk 46 = .ok (.iconst 2, 1) := by decide +kernel
theorem dX7_canAsk_47 : decode cX7_canAsk 47 = .ok (.goto 4, 3) := by decide +kernel
theorem dX7_canAsk_50 : decode cX7_canAsk 50 = .ok (.iconst 0, 1) := by decide +kernel
theorem dX7_canAsk_51 : decode cX7_canAsk 51 = .ok (.putfield 32, 3) := by decide +kernel
theorem dX7_canAsk_54 : decode cX7_canAsk 54 = .ok (.aload_n 0, 1) := by decide +kernel
theorem dX7_canAsk_55 : decode cX7_canAsk 55 = .ok (.getfield 32, 3) := by decide +kernel
theorem dX7_canAsk_58 : decode cX7_canAsk 58 = .ok (.ifCond .ne 7, 3) := by decide +kernel
theorem dX7_canAsk_61 : decode cX7_canAsk 61 = .ok (.iconst 1, 1) := by decide +kernel
theorem dX7_canAsk_62 : decode cX7_canAsk 62 = .ok (.goto 4, 3) := by decide +kernel
theorem dX7_canAsk_65 : decode cX7_canAsk 65 = .ok (.iconst 0, 1) := by decide +kernel
theorem dX7_canAsk_66 : decode cX7_canAsk 66 = .ok (.ireturn, 1) := by decide +kernel
set_option maxRecDepth 20000 in
theorem ggX7_run_X7_canAsk : GoodIn wsX7_run wsX7_canAsk := goodIn_r _ [16, 17, 18, 19, 15, 20, 21, 22, 23, 24, 1, 25, 26, 27, 28, 29, 30, 82, 83, 84, 85, 86, 87, 88, 89, 90, 106, 107, 108] (by decide +kernel) (by decide +kernel)
set_option maxRecDepth 20000 in
theorem gX7_run_X7_canAsk : GoodIn wsX7_run (wsV RX7 112 RX7 yX7_canAsk wsX7_canAsk) := goodIn_app (goodIn_of _ (by decide +kernel)) ggX7_run_X7_canAsk
set_option maxRecDepth 20000 in
theorem ggX7_run_Jx4a65c_get_915e3 : GoodIn wsX7_run wsJx4a65c_get_915e3 := goodIn_r _ [34, 30, 35, 36, 37, 38, 39, 40, 41, 42, 43, 44, 45, 28, 46, 47, 106, 107, 108] (by decide +kernel) (by decide +kernel)
set_option maxRecDepth 20000 in
theorem gX7_run_Jx4a65c_get_915e3_f55Jx4a65c : GoodIn wsX7_run (va_wsF RX7 55 RJx4a65c ⟨"java/util/List", "get", "(I)Ljava/lang/Object;"⟩ yJx4a65c_get_915e3 wsJx4a65c_get_915e3) := goodIn_app (goodIn_of _ (by decide +kernel)) ggX7_run_Jx4a65c_get_915e3
set_option maxRecDepth 20000 in
theorem ggX7_run_X7_barsNow : GoodIn wsX7_run wsX7_barsNow := goodIn_r _ [51, 52, 53, 3, 4, 5, 6, 18, 19, 15, 20, 54, 55, 56, 57, 58, 59, 60, 61, 62, 26, 27, 28, 29, 30, 63, 32, 33, 34, 35, 36, 37, 38, 39, 40, 41, 42, 43, 44, 45, 46, 47, 64, 65, 66, 67, 68, 69, 70, 71, 72, 73, 74, 75, 76, 77, 78, 79, 80, 81, 91, 92, 93, 94, 95, 82, 83, 84, 85, 86, 87, 88, 89, 90, 96, 97, 98, 99, 100, 101, 102, 103, 104, 105, 106, 107, 108] (by decide +kernel) (by decide +kernel)
set_option maxRecDepth 20000 in
theorem gX7_run_X7_barsNow : GoodIn wsX7_run (wsV RX7 116 RX7 yX7_barsNow wsX7_barsNow) := goodIn_app (goodIn_of _ (by decide +kernel)) ggX7_run_X7_barsNow
set_option maxRecDepth 20000 in
theorem ggX7_run_X6_harms : GoodIn wsX7_run wsX6_harms := goodIn_r _ [58, 59, 60, 61, 62, 26, 27, 28, 29, 30, 63, 32, 33, 34, 35, 36, 37, 38, 39, 40, 41, 42, 43, 44, 45, 46, 47, 91, 92, 93, 94, 95, 82, 83, 84, 85, 86, 87, 88, 89, 90, 106, 107, 108] (by decide +kernel) (by decide +kernel)
set_option maxRecDepth 20000 in
theorem gX7_run_X6_harms : GoodIn wsX7_run (wsV RX7 105 RX6 yX6_harms wsX6_harms) := goodIn_app (goodIn_of _ (by decide +kernel)) ggX7_run_X6_harms
theorem dX7_run_0 : decode cX7_run 0 = .ok (.aload_n 0, 1) := by decide +kernel
theorem dX7_run_1 : decode cX7_run 1 = .ok (.iload_n 1, 1) := by decide +kernel
theorem dX7_run_2 : decode cX7_run 2 = .ok (.iload_n 2, 1) := by decide +kernel
theorem dX7_run_3 : decode cX7_run 3 = .ok (.iload_n 3, 1) := by decide +kernel
theorem dX7_run_4 : decode cX7_run 4 = .ok (.iload 4, 2) := by decide +kernel
theorem dX7_run_6 : decode cX7_run 6 = .ok (.invokevirtual 112, 3) := by decide +kernel
theorem dX7_run_9 : decode cX7_run 9 = .ok (.ifCond .ne 5, 3) := by decide +kernel
theorem dX7_run_12 : decode cX7_run 12 = .ok (.iconst 0, 1) := by decide +kernel
theorem dX7_run_13 : decode cX7_run 13 = .ok (.ireturn, 1) := by decide +kernel
theorem dX7_run_14 : decode cX7_run 14 = .ok (.aload_n 0, 1) := by decide +kernel
theorem dX7_run_15 : decode cX7_run 15 = .ok (.getfield 16, 3) := by decide +kernel
theorem dX7_run_18 : decode cX7_run 18 = .ok (.iload_n 2, 1) := by decide +kernel
theorem dX7_run_19 : decode cX7_run 19 = .ok (.invokeinterface 55 2, 5) := by decide +kernel
theorem dX7_run_24 : decode cX7_run 24 = .ok (.checkcast 59, 3) := by decide +kernel
theorem dX7_run_27 : decode cX7_run 27 = .ok (.astore 5, 2) := by decide +kernel
theorem dX7_run_29 : decode cX7_run 29 = .ok (.aload_n 0, 1) := by decide +kernel
theorem dX7_run_30 : decode cX7_run 30 = .ok (.iload_n 1, 1) := by decide +kernel
theorem dX7_run_31 : decode cX7_run 31 = .ok (.aload 5, 2) := by decide +kernel
theorem dX7_run_33 : decode cX7_run 33 = .ok (.iload_n 3, 1) := by decide +kernel
theorem dX7_run_34 : decode cX7_run 34 = .ok (.iload 4, 2) := by decide +kernel
theorem dX7_run_36 : decode cX7_run 36 = .ok (.invokevirtual 116, 3) := by decide +kernel
theorem dX7_run_39 : decode cX7_run 39 = .ok (.istore 6, 2) := by decide +kernel
theorem dX7_run_41 : decode cX7_run 41 = .ok (.iload 6, 2) := by decide +kernel
theorem dX7_run_43 : decode cX7_run 43 = .ok (.ifCond .le 9, 3) := by decide +kernel
theorem dX7_run_46 : decode cX7_run 46 = .ok (.bipush (-10), 2) := by decide +kernel
theorem dX7_run_48 : decode cX7_run 48 = .ok (.iload 6, 2) := by decide +kernel
theorem dX7_run_50 : decode cX7_run 50 = .ok (.isub, 1) := by decide +kernel
theorem dX7_run_51 : decode cX7_run 51 = .ok (.ireturn, 1) := by decide +kernel
theorem dX7_run_52 : decode cX7_run 52 = .ok (.aload 5, 2) := by decide +kernel
theorem dX7_run_54 : decode cX7_run 54 = .ok (.dup, 1) := by decide +kernel
theorem dX7_run_55 : decode cX7_run 55 = .ok (.getfield 102, 3) := by decide +kernel
theorem dX7_run_58 : decode cX7_run 58 = .ok (.iload_n 3, 1) := by decide +kernel
theorem dX7_run_59 : decode cX7_run 59 = .ok (.isub, 1) := by decide +kernel
theorem dX7_run_60 : decode cX7_run 60 = .ok (.putfield 102, 3) := by decide +kernel
theorem dX7_run_63 : decode cX7_run 63 = .ok (.aload_n 0, 1) := by decide +kernel
theorem dX7_run_64 : decode cX7_run 64 = .ok (.getfield 28, 3) := by decide +kernel
theorem dX7_run_67 : decode cX7_run 67 = .ok (.iload_n 1, 1) := by decide +kernel
theorem dX7_run_68 : decode cX7_run 68 = .ok (.aload 5, 2) := by decide +kernel
theorem dX7_run_70 : decode cX7_run 70 = .ok (.invokevirtual 105, 3) := by decide +kernel
theorem dX7_run_73 : decode cX7_run 73 = .ok (.iastore, 1) := by decide +kernel
theorem dX7_run_74 : decode cX7_run 74 = .ok (.aload_n 0, 1) := by decide +kernel
theorem dX7_run_75 : decode cX7_run 75 = .ok (.getfield 24, 3) := by decide +kernel
theorem dX7_run_78 : decode cX7_run 78 = .ok (.dup, 1) := by decide +kernel
theorem dX7_run_79 : decode cX7_run 79 = .ok (.getfield 46, 3) := by decide +kernel
theorem dX7_run_82 : decode cX7_run 82 = .ok (.dup_x1, 1) := by decide +kernel
theorem dX7_run_83 : decode cX7_run 83 = .ok (.iconst 1, 1) := by decide +kernel
theorem dX7_run_84 : decode cX7_run 84 = .ok (.iadd, 1) := by decide +kernel
theorem dX7_run_85 : decode cX7_run 85 = .ok (.putfield 46, 3) := by decide +kernel
theorem dX7_run_88 : decode cX7_run 88 = .ok (.istore 7, 2) := by decide +kernel
theorem dX7_run_90 : decode cX7_run 90 = .ok (.aload_n 0, 1) := by decide +kernel
theorem dX7_run_91 : decode cX7_run 91 = .ok (.getfield 24, 3) := by decide +kernel
theorem dX7_run_94 : decode cX7_run 94 = .ok (.getfield 52, 3) := by decide +kernel
theorem dX7_run_97 : decode cX7_run 97 = .ok (.iload 7, 2) := by decide +kernel
theorem dX7_run_99 : decode cX7_run 99 = .ok (.iload_n 2, 1) := by decide +kernel
theorem dX7_run_100 : decode cX7_run 100 = .ok (.iastore, 1) := by decide +kernel
theorem dX7_run_101 : decode cX7_run 101 = .ok (.aload_n 0, 1) := by decide +kernel
theorem dX7_run_102 : decode cX7_run 102 = .ok (.getfield 24, 3) := by decide +kernel
theorem dX7_run_105 : decode cX7_run 105 = .ok (.getfield 120, 3) := by decide +kernel
theorem dX7_run_108 : decode cX7_run 108 = .ok (.iload 7, 2) := by decide +kernel
theorem dX7_run_110 : decode cX7_run 110 = .ok (.iload_n 3, 1) := by decide +kernel
theorem dX7_run_111 : decode cX7_run 111 = .ok (.iconst 2, 1) := by decide +kernel
theorem dX7_run_112 : decode cX7_run 112 = .ok (.isub, 1) := by decide +kernel
theorem dX7_run_113 : decode cX7_run 113 = .ok (.bipush 100, 2) := by decide +kernel
theorem dX7_run_115 : decode cX7_run 115 = .ok (.iload 4, 2) := by decide +kernel
theorem dX7_run_117 : decode cX7_run 117 = .ok (.iadd, 1) := by decide +kernel
theorem dX7_run_118 : decode cX7_run 118 = .ok (.imul, 1) := by decide +kernel
theorem dX7_run_119 : decode cX7_run 119 = .ok (.bipush 100, 2) := by decide +kernel
theorem dX7_run_121 : decode cX7_run 121 = .ok (.idiv, 1) := by decide +kernel
theorem dX7_run_122 : decode cX7_run 122 = .ok (.iastore, 1) := by decide +kernel
theorem dX7_run_123 : decode cX7_run 123 = .ok (.aload_n 0, 1) := by decide +kernel
theorem dX7_run_124 : decode cX7_run 124 = .ok (.getfield 24, 3) := by decide +kernel
theorem dX7_run_127 : decode cX7_run 127 = .ok (.getfield 123, 3) := by decide +kernel
theorem dX7_run_130 : decode cX7_run 130 = .ok (.iload 7, 2) := by decide +kernel
theorem dX7_run_132 : decode cX7_run 132 = .ok (.iconst (-1), 1) := by decide +kernel
theorem dX7_run_133 : decode cX7_run 133 = .ok (.iastore, 1) := by decide +kernel
theorem dX7_run_134 : decode cX7_run 134 = .ok (.aload_n 0, 1) := by decide +kernel
theorem dX7_run_135 : decode cX7_run 135 = .ok (.getfield 24, 3) := by decide +kernel
theorem dX7_run_138 : decode cX7_run 138 = .ok (.getfield 126, 3) := by decide +kernel
theorem dX7_run_141 : decode cX7_run 141 = .ok (.iload 7, 2) := by decide +kernel
theorem dX7_run_143 : decode cX7_run 143 = .ok (.ldc2_w 130, 3) := by decide +kernel
theorem dX7_run_146 : decode cX7_run 146 = .ok (.dastore, 1) := by decide +kernel
theorem dX7_run_147 : decode cX7_run 147 = .ok (.iload 7, 2) := by decide +kernel
theorem dX7_run_149 : decode cX7_run 149 = .ok (.ireturn, 1) := by decide +kernel
set_option maxRecDepth 20000 in
theorem ggX7_wash_X7_in : GoodIn wsX7_wash wsX7_in := goodIn_r _ [7] (by decide +kernel) (by decide +kernel)
set_option maxRecDepth 20000 in
theorem gX7_wash_X7_in : GoodIn wsX7_wash (va_wsS RX7 42 yX7_in wsX7_in) := goodIn_app (goodIn_of _ (by decide +kernel)) ggX7_wash_X7_in
set_option maxRecDepth 20000 in
theorem ggX7_wash_X7_no : GoodIn wsX7_wash wsX7_no := goodIn_r _ [11, 1, 12, 13, 14, 15, 16, 17, 18, 19, 20] (by decide +kernel) (by decide +kernel)
set_option maxRecDepth 20000 in
theorem gX7_wash_X7_no : GoodIn wsX7_wash (wsV RX7 69 RX7 yX7_no wsX7_no) := goodIn_app (goodIn_of _ (by decide +kernel)) ggX7_wash_X7_no
theorem dX7_wash_0 : decode cX7_wash 0 = .ok (.aload_n 0, 1) := by decide +kernel
theorem dX7_wash_1 : decode cX7_wash 1 = .ok (.iconst 0, 1) := by decide +kernel
theorem dX7_wash_2 : decode cX7_wash 2 = .ok (.putfield 32, 3) := by decide +kernel
theorem dX7_wash_5 : decode cX7_wash 5 = .ok (.iload_n 1, 1) := by decide +kernel
theorem dX7_wash_6 : decode cX7_wash 6 = .ok (.iconst 0, 1) := by decide +kernel
theorem dX7_wash_7 : decode cX7_wash 7 = .ok (.iconst 1, 1) := by decide +kernel
theorem dX7_wash_8 : decode cX7_wash 8 = .ok (.invokestatic 42, 3) := by decide +kernel
theorem dX7_wash_11 : decode cX7_wash 11 = .ok (.ifCond .ne 9, 3) := by decide +kernel
theorem dX7_wash_14 : decode cX7_wash 14 = .ok (.aload_n 0, 1) := by decide +kernel
theorem dX7_wash_15 : decode cX7_wash 15 = .ok (.iconst 1, 1) := by decide +kernel
theorem dX7_wash_16 : decode cX7_wash 16 = .ok (.invokevirtual 69, 3) := by decide +kernel
theorem dX7_wash_19 : decode cX7_wash 19 = .ok (.ireturn, 1) := by decide +kernel
theorem dX7_wash_20 : decode cX7_wash 20 = .ok (.aload_n 0, 1) := by decide +kernel
theorem dX7_wash_21 : decode cX7_wash 21 = .ok (.getfield 28, 3) := by decide +kernel
theorem dX7_wash_24 : decode cX7_wash 24 = .ok (.iload_n 1, 1) := by decide +kernel
theorem dX7_wash_25 : decode cX7_wash 25 = .ok (.iaload, 1) := by decide +kernel
theorem dX7_wash_26 : decode cX7_wash 26 = .ok (.istore_n 2, 1) := by decide +kernel
theorem dX7_wash_27 : decode cX7_wash 27 = .ok (.aload_n 0, 1) := by decide +kernel
theorem dX7_wash_28 : decode cX7_wash 28 = .ok (.getfield 28, 3) := by decide +kernel
theorem dX7_wash_31 : decode cX7_wash 31 = .ok (.iload_n 1, 1) := by decide +kernel
theorem dX7_wash_32 : decode cX7_wash 32 = .ok (.iconst 0, 1) := by decide +kernel
theorem dX7_wash_33 : decode cX7_wash 33 = .ok (.iastore, 1) := by decide +kernel
theorem dX7_wash_34 : decode cX7_wash 34 = .ok (.aload_n 0, 1) := by decide +kernel
theorem dX7_wash_35 : decode cX7_wash 35 = .ok (.dup, 1) := by decide +kernel
theorem dX7_wash_36 : decode cX7_wash 36 = .ok (.getfield 132, 3) := by decide +kernel
theorem dX7_wash_39 : decode cX7_wash 39 = .ok (.iconst 1, 1) := by decide +kernel
theorem dX7_wash_40 : decode cX7_wash 40 = .ok (.iadd, 1) := by decide +kernel
theorem dX7_wash_41 : decode cX7_wash 41 = .ok (.putfield 132, 3) := by decide +kernel
theorem dX7_wash_44 : decode cX7_wash 44 = .ok (.iload_n 2, 1) := by decide +kernel
theorem dX7_wash_45 : decode cX7_wash 45 = .ok (.ireturn, 1) := by decide +kernel
set_option maxRecDepth 20000 in
theorem ggX7_harden_X7_isBatch : GoodIn wsX7_harden wsX7_isBatch := goodIn_r _ [11, 2, 12, 13, 14, 10, 15, 20, 21, 22, 23, 24, 25, 26, 27, 28, 29, 30, 31, 32, 33, 34, 35, 36, 37, 38] (by decide +kernel) (by decide +kernel)
set_option maxRecDepth 20000 in
theorem gX7_harden_X7_isBatch : GoodIn wsX7_harden (wsV RX7 135 RX7 yX7_isBatch wsX7_isBatch) := goodIn_app (goodIn_of _ (by decide +kernel)) ggX7_harden_X7_isBatch
set_option maxRecDepth 20000 in
theorem ggX7_harden_X7_no : GoodIn wsX7_harden wsX7_no := goodIn_r _ [19, 1, 20, 21, 22, 23, 24, 25, 26, 27, 28] (by decide +kernel) (by decide +kernel)
set_option maxRecDepth 20000 in
theorem gX7_harden_X7_no : GoodIn wsX7_harden (wsV RX7 69 RX7 yX7_no wsX7_no) := goodIn_app (goodIn_of _ (by decide +kernel)) ggX7_harden_X7_no
set_option maxRecDepth 20000 in
theorem ggX7_harden_X7_in : GoodIn wsX7_harden wsX7_in := goodIn_r _ [15] (by decide +kernel) (by decide +kernel)
set_option maxRecDepth 20000 in
theorem gX7_harden_X7_in : GoodIn wsX7_harden (va_wsS RX7 42 yX7_in wsX7_in) := goodIn_app (goodIn_of _ (by decide +kernel)) ggX7_harden_X7_in
theorem dX7_harden_0 : decode cX7_harden 0 = .ok (.aload_n 0, 1) := by decide +kernel
theorem dX7_harden_1 : decode cX7_harden 1 = .ok (.iconst 0, 1) := by decide +kernel
theorem dX7_harden_2 : decode cX7_harden 2 = .ok (.putfield 32, 3) := by decide +kernel
theorem dX7_harden_5 : decode cX7_harden 5 = .ok (.aload_n 0, 1) := by decide +kernel
theorem dX7_harden_6 : decode cX7_harden 6 = .ok (.iload_n 1, 1) := by decide +kernel
theorem dX7_harden_7 : decode cX7_harden 7 = .ok (.invokevirtual 135, 3) := by decide +kernel
theorem dX7_harden_10 : decode cX7_harden 10 = .ok (.ifCond .ne 10, 3) := by decide +kernel
theorem dX7_harden_13 : decode cX7_harden 13 = .ok (.aload_n 0, 1) := by decide +kernel
theorem dX7_harden_14 : decode cX7_harden 14 = .ok (.iconst 1, 1) := by decide +kernel
theorem dX7_harden_15 : decode cX7_harden 15 = .ok (.invokevirtual 69, 3) := by decide +kernel
theorem dX7_harden_18 : decode cX7_harden 18 = .ok (.i2d, 1) := by decide +kernel
theorem dX7_harden_19 : decode cX7_harden 19 = .ok (.dreturn, 1) := by decide +kernel
theorem dX7_harden_20 : decode cX7_harden 20 = .ok (.iload_n 2, 1) := by decide +kernel
theorem dX7_harden_21 : decode cX7_harden 21 = .ok (.bipush 10, 2) := by decide +kernel
theorem dX7_harden_23 : decode cX7_harden 23 = .ok (.bipush 90, 2) := by decide +kernel
theorem dX7_harden_25 : decode cX7_harden 25 = .ok (.invokestatic 42, 3) := by decide +kernel
theorem dX7_harden_28 : decode cX7_harden 28 = .ok (.ifCond .ne 10, 3) := by decide +kernel
theorem dX7_harden_31 : decode cX7_harden 31 = .ok (.aload_n 0, 1) := by decide +kernel
theorem dX7_harden_32 : decode cX7_harden 32 = .ok (.iconst 2, 1) := by decide +kernel
theorem dX7_harden_33 : decode cX7_harden 33 = .ok (.invokevirtual 69, 3) := by decide +kernel
theorem dX7_harden_36 : decode cX7_harden 36 = .ok (.i2d, 1) := by decide +kernel
theorem dX7_harden_37 : decode cX7_harden 37 = .ok (.dreturn, 1) := by decide +kernel
theorem dX7_harden_38 : decode cX7_harden 38 = .ok (.aload_n 0, 1) := by decide +kernel
theorem dX7_harden_39 : decode cX7_harden 39 = .ok (.getfield 24, 3) := by decide +kernel
theorem dX7_harden_42 : decode cX7_harden 42 = .ok (.getfield 123, 3) := by decide +kernel
theorem dX7_harden_45 : decode cX7_harden 45 = .ok (.iload_n 1, 1) := by decide +kernel
theorem dX7_harden_46 : decode cX7_harden 46 = .ok (.iaload, 1) := by decide +kernel
theorem dX7_harden_47 : decode cX7_harden 47 = .ok (.iconst (-1), 1) := by decide +kernel
theorem dX7_harden_48 : decode cX7_harden 48 = .ok (.if_icmp .ne 15, 3) := by decide +kernel
theorem dX7_harden_51 : decode cX7_harden 51 = .ok (.aload_n 0, 1) := by decide +kernel
theorem dX7_harden_52 : decode cX7_harden 52 = .ok (.getfield 24, 3) := by decide +kernel
theorem dX7_harden_55 : decode cX7_harden 55 = .ok (.getfield 138, 3) := by decide +kernel
theorem dX7_harden_58 : decode cX7_harden 58 = .ok (.iload_n 1, 1) := by decide +kernel
theorem dX7_harden_59 : decode cX7_harden 59 = .ok (.baload, 1) := by decide +kernel
theorem dX7_harden_60 : decode cX7_harden 60 = .ok (.ifCond .eq 10, 3) := by decide +kernel
theorem dX7_harden_63 : decode cX7_harden 63 = .ok (.aload_n 0, 1) := by decide +kernel
theorem dX7_harden_64 : decode cX7_harden 64 = .ok (.iconst 3, 1) := by decide +kernel
theorem dX7_harden_65 : decode cX7_harden 65 = .ok (.invokevirtual 69, 3) := by decide +kernel
theorem dX7_harden_68 : decode cX7_harden 68 = .ok (.i2d, 1) := by decide +kernel
theorem dX7_harden_69 : decode cX7_harden 69 = .ok (.dreturn, 1) := by decide +kernel
theorem dX7_harden_70 : decode cX7_harden 70 = .ok (.aload_n 0, 1) := by decide +kernel
theorem dX7_harden_71 : decode cX7_harden 71 = .ok (.getfield 24, 3) := by decide +kernel
theorem dX7_harden_74 : decode cX7_harden 74 = .ok (.getfield 138, 3) := by decide +kernel
theorem dX7_harden_77 : decode cX7_harden 77 = .ok (.iload_n 1, 1) := by decide +kernel
theorem dX7_harden_78 : decode cX7_harden 78 = .ok (.iconst 1, 1) := by decide +kernel
theorem dX7_harden_79 : decode cX7_harden 79 = .ok (.bastore, 1) := by decide +kernel
theorem dX7_harden_80 : decode cX7_harden 80 = .ok (.aload_n 0, 1) := by decide +kernel
theorem dX7_harden_81 : decode cX7_harden 81 = .ok (.getfield 24, 3) := by decide +kernel
theorem dX7_harden_84 : decode cX7_harden 84 = .ok (.getfield 126, 3) := by decide +kernel
theorem dX7_harden_87 : decode cX7_harden 87 = .ok (.iload_n 1, 1) := by decide +kernel
theorem dX7_harden_88 : decode cX7_harden 88 = .ok (.dup2, 1) := by decide +kernel
theorem dX7_harden_89 : decode cX7_harden 89 = .ok (.daload, 1) := by decide +kernel
theorem dX7_harden_90 : decode cX7_harden 90 = .ok (.iload_n 2, 1) := by decide +kernel
theorem dX7_harden_91 : decode cX7_harden 91 = .ok (.i2d, 1) := by decide +kernel
theorem dX7_harden_92 : decode cX7_harden 92 = .ok (.ldc2_w 142, 3) := by decide +kernel
theorem dX7_harden_95 : decode cX7_harden 95 = .ok (.dmul, 1) := by decide +kernel
theorem dX7_harden_96 : decode cX7_harden 96 = .ok (.dadd, 1) := by decide +kernel
theorem dX7_harden_97 : decode cX7_harden 97 = .ok (.dastore, 1) := by decide +kernel
theorem dX7_harden_98 : decode cX7_harden 98 = .ok (.aload_n 0, 1) := by decide +kernel
theorem dX7_harden_99 : decode cX7_harden 99 = .ok (.getfield 24, 3) := by decide +kernel
theorem dX7_harden_102 : decode cX7_harden 102 = .ok (.getfield 126, 3) := by decide +kernel
theorem dX7_harden_105 : decode cX7_harden 105 = .ok (.iload_n 1, 1) := by decide +kernel
theorem dX7_harden_106 : decode cX7_harden 106 = .ok (.daload, 1) := by decide +kernel
theorem dX7_harden_107 : decode cX7_harden 107 = .ok (.dreturn, 1) := by decide +kernel
set_option maxRecDepth 20000 in
theorem ggX7_store_X7_in : GoodIn wsX7_store wsX7_in := goodIn_r _ [9] (by decide +kernel) (by decide +kernel)
set_option maxRecDepth 20000 in
theorem gX7_store_X7_in : GoodIn wsX7_store (va_wsS RX7 42 yX7_in wsX7_in) := goodIn_app (goodIn_of _ (by decide +kernel)) ggX7_store_X7_in
set_option maxRecDepth 20000 in
theorem ggX7_store_X7_no : GoodIn wsX7_store wsX7_no := goodIn_r _ [13, 1, 14, 15, 16, 17, 18, 19, 20, 21, 22] (by decide +kernel) (by decide +kernel)
set_option maxRecDepth 20000 in
theorem gX7_store_X7_no : GoodIn wsX7_store (wsV RX7 69 RX7 yX7_no wsX7_no) := goodIn_app (goodIn_of _ (by decide +kernel)) ggX7_store_X7_no
theorem dX7_store_0 : decode cX7_store 0 = .ok (.aload_n 0, 1) := by decide +kernel
theorem dX7_store_1 : decode cX7_store 1 = .ok (.iconst 0, 1) := by decide +kernel
theorem dX7_store_2 : decode cX7_store 2 = .ok (.putfield 32, 3) := by decide +kernel
theorem dX7_store_5 : decode cX7_store 5 = .ok (.iload_n 1, 1) := by decide +kernel
theorem dX7_store_6 : decode cX7_store 6 = .ok (.bipush (-30), 2) := by decide +kernel
theorem dX7_store_8 : decode cX7_store 8 = .ok (.bipush (-10), 2) := by decide +kernel
theorem dX7_store_10 : decode cX7_store 10 = .ok (.invokestatic 42, 3) := by decide +kernel
theorem dX7_store_13 : decode cX7_store 13 = .ok (.ifCond .ne 9, 3) := by decide +kernel
theorem dX7_store_16 : decode cX7_store 16 = .ok (.aload_n 0, 1) := by decide +kernel
theorem dX7_store_17 : decode cX7_store 17 = .ok (.iconst 1, 1) := by decide +kernel
theorem dX7_store_18 : decode cX7_store 18 = .ok (.invokevirtual 69, 3) := by decide +kernel
theorem dX7_store_21 : decode cX7_store 21 = .ok (.ireturn, 1) := by decide +kernel
theorem dX7_store_22 : decode cX7_store 22 = .ok (.aload_n 0, 1) := by decide +kernel
theorem dX7_store_23 : decode cX7_store 23 = .ok (.getfield 24, 3) := by decide +kernel
theorem dX7_store_26 : decode cX7_store 26 = .ok (.getfield 49, 3) := by decide +kernel
theorem dX7_store_29 : decode cX7_store 29 = .ok (.iconst 3, 1) := by decide +kernel
theorem dX7_store_30 : decode cX7_store 30 = .ok (.if_icmp .ne 9, 3) := by decide +kernel
theorem dX7_store_33 : decode cX7_store 33 = .ok (.aload_n 0, 1) := by decide +kernel
theorem dX7_store_34 : decode cX7_store 34 = .ok (.iconst 2, 1) := by decide +kernel
theorem dX7_store_35 : decode cX7_store 35 = .ok (.invokevirtual 69, 3) := by decide +kernel
theorem dX7_store_38 : decode cX7_store 38 = .ok (.ireturn, 1) := by decide +kernel
theorem dX7_store_39 : decode cX7_store 39 = .ok (.aload_n 0, 1) := by decide +kernel
theorem dX7_store_40 : decode cX7_store 40 = .ok (.getfield 24, 3) := by decide +kernel
theorem dX7_store_43 : decode cX7_store 43 = .ok (.getfield 144, 3) := by decide +kernel
theorem dX7_store_46 : decode cX7_store 46 = .ok (.aload_n 0, 1) := by decide +kernel
theorem dX7_store_47 : decode cX7_store 47 = .ok (.getfield 24, 3) := by decide +kernel
theorem dX7_store_50 : decode cX7_store 50 = .ok (.getfield 49, 3) := by decide +kernel
theorem dX7_store_53 : decode cX7_store 53 = .ok (.iload_n 1, 1) := by decide +kernel
theorem dX7_store_54 : decode cX7_store 54 = .ok (.iastore, 1) := by decide +kernel
theorem dX7_store_55 : decode cX7_store 55 = .ok (.aload_n 0, 1) := by decide +kernel
theorem dX7_store_56 : decode cX7_store 56 = .ok (.getfield 24, 3) := by decide +kernel
theorem dX7_store_59 : decode cX7_store 59 = .ok (.getfield 146, 3) := by decide +kernel
theorem dX7_store_62 : decode cX7_store 62 = .ok (.aload_n 0, 1) := by decide +kernel
theorem dX7_store_63 : decode cX7_store 63 = .ok (.getfield 24, 3) := by decide +kernel
theorem dX7_store_66 : decode cX7_store 66 = .ok (.getfield 49, 3) := by decide +kernel
theorem dX7_store_69 : decode cX7_store 69 = .ok (.iload_n 1, 1) := by decide +kernel
theorem dX7_store_70 : decode cX7_store 70 = .ok (.i2d, 1) := by decide +kernel
theorem dX7_store_71 : decode cX7_store 71 = .ok (.dastore, 1) := by decide +kernel
theorem dX7_store_72 : decode cX7_store 72 = .ok (.aload_n 0, 1) := by decide +kernel
theorem dX7_store_73 : decode cX7_store 73 = .ok (.getfield 24, 3) := by decide +kernel
theorem dX7_store_76 : decode cX7_store 76 = .ok (.dup, 1) := by decide +kernel
theorem dX7_store_77 : decode cX7_store 77 = .ok (.getfield 49, 3) := by decide +kernel
theorem dX7_store_80 : decode cX7_store 80 = .ok (.dup_x1, 1) := by decide +kernel
theorem dX7_store_81 : decode cX7_store 81 = .ok (.iconst 1, 1) := by decide +kernel
theorem dX7_store_82 : decode cX7_store 82 = .ok (.iadd, 1) := by decide +kernel
theorem dX7_store_83 : decode cX7_store 83 = .ok (.putfield 49, 3) := by decide +kernel
theorem dX7_store_86 : decode cX7_store 86 = .ok (.ireturn, 1) := by decide +kernel
set_option maxRecDepth 20000 in
theorem ggX7_set_X7_isStore : GoodIn wsX7_set wsX7_isStore := goodIn_r _ [8, 2, 9, 10, 11, 7, 12, 17, 18, 19, 20, 21, 22, 23, 24, 25, 26, 27, 28, 29, 30, 31, 32, 33, 34, 35] (by decide +kernel) (by decide +kernel)
set_option maxRecDepth 20000 in
theorem gX7_set_X7_isStore : GoodIn wsX7_set (wsV RX7 149 RX7 yX7_isStore wsX7_isStore) := goodIn_app (goodIn_of _ (by decide +kernel)) ggX7_set_X7_isStore
set_option maxRecDepth 20000 in
theorem ggX7_set_X7_no : GoodIn wsX7_set wsX7_no := goodIn_r _ [16, 1, 17, 18, 19, 20, 21, 22, 23, 24, 25] (by decide +kernel) (by decide +kernel)
set_option maxRecDepth 20000 in
theorem gX7_set_X7_no : GoodIn wsX7_set (wsV RX7 69 RX7 yX7_no wsX7_no) := goodIn_app (goodIn_of _ (by decide +kernel)) ggX7_set_X7_no
set_option maxRecDepth 20000 in
theorem ggX7_set_X7_in : GoodIn wsX7_set wsX7_in := goodIn_r _ [12] (by decide +kernel) (by decide +kernel)
set_option maxRecDepth 20000 in
theorem gX7_set_X7_in : GoodIn wsX7_set (va_wsS RX7 42 yX7_in wsX7_in) := goodIn_app (goodIn_of _ (by decide +kernel)) ggX7_set_X7_in
theorem dX7_set_0 : decode cX7_set 0 = .ok (.aload_n 0, 1) := by decide +kernel
theorem dX7_set_1 : decode cX7_set 1 = .ok (.iconst 0, 1) := by decide +kernel
theorem dX7_set_2 : decode cX7_set 2 = .ok (.putfield 32, 3) := by decide +kernel
theorem dX7_set_5 : decode cX7_set 5 = .ok (.aload_n 0, 1) := by decide +kernel
theorem dX7_set_6 : decode cX7_set 6 = .ok (.iload_n 1, 1) := by decide +kernel
theorem dX7_set_7 : decode cX7_set 7 = .ok (.invokevirtual 149, 3) := by decide +kernel
theorem dX7_set_10 : decode cX7_set 10 = .ok (.ifCond .ne 9, 3) := by decide +kernel
theorem dX7_set_13 : decode cX7_set 13 = .ok (.aload_n 0, 1) := by decide +kernel
theorem dX7_set_14 : decode cX7_set 14 = .ok (.iconst 1, 1) := by decide +kernel
theorem dX7_set_15 : decode cX7_set 15 = .ok (.invokevirtual 69, 3) := by decide +kernel
theorem dX7_set_18 : decode cX7_set 18 = .ok (.ireturn, 1) := by decide +kernel
theorem dX7_set_19 : decode cX7_set 19 = .ok (.iload_n 2, 1) := by decide +kernel
theorem dX7_set_20 : decode cX7_set 20 = .ok (.bipush (-30), 2) := by decide +kernel
theorem dX7_set_22 : decode cX7_set 22 = .ok (.bipush (-10), 2) := by decide +kernel
theorem dX7_set_24 : decode cX7_set 24 = .ok (.invokestatic 42, 3) := by decide +kernel
theorem dX7_set_27 : decode cX7_set 27 = .ok (.ifCond .ne 9, 3) := by decide +kernel
theorem dX7_set_30 : decode cX7_set 30 = .ok (.aload_n 0, 1) := by decide +kernel
theorem dX7_set_31 : decode cX7_set 31 = .ok (.iconst 2, 1) := by decide +kernel
theorem dX7_set_32 : decode cX7_set 32 = .ok (.invokevirtual 69, 3) := by decide +kernel
theorem dX7_set_35 : decode cX7_set 35 = .ok (.ireturn, 1) := by decide +kernel
theorem dX7_set_36 : decode cX7_set 36 = .ok (.aload_n 0, 1) := by decide +kernel
theorem dX7_set_37 : decode cX7_set 37 = .ok (.getfield 24, 3) := by decide +kernel
theorem dX7_set_40 : decode cX7_set 40 = .ok (.getfield 144, 3) := by decide +kernel
theorem dX7_set_43 : decode cX7_set 43 = .ok (.iload_n 1, 1) := by decide +kernel
theorem dX7_set_44 : decode cX7_set 44 = .ok (.iaload, 1) := by decide +kernel
theorem dX7_set_45 : decode cX7_set 45 = .ok (.istore_n 3, 1) := by decide +kernel
theorem dX7_set_46 : decode cX7_set 46 = .ok (.aload_n 0, 1) := by decide +kernel
theorem dX7_set_47 : decode cX7_set 47 = .ok (.getfield 24, 3) := by decide +kernel
theorem dX7_set_50 : decode cX7_set 50 = .ok (.getfield 144, 3) := by decide +kernel
theorem dX7_set_53 : decode cX7_set 53 = .ok (.iload_n 1, 1) := by decide +kernel
theorem dX7_set_54 : decode cX7_set 54 = .ok (.iload_n 2, 1) := by decide +kernel
theorem dX7_set_55 : decode cX7_set 55 = .ok (.iastore, 1) := by decide +kernel
theorem dX7_set_56 : decode cX7_set 56 = .ok (.iload_n 3, 1) := by decide +kernel
theorem dX7_set_57 : decode cX7_set 57 = .ok (.ireturn, 1) := by decide +kernel
set_option maxRecDepth 20000 in
theorem ggX7_lay_X7_isBatch : GoodIn wsX7_lay wsX7_isBatch := goodIn_r _ [9, 2, 10, 11, 12, 8, 13, 30, 31, 32, 33, 34, 35, 36, 37, 38, 39, 40, 41, 42, 43, 44, 45, 46, 47, 48] (by decide +kernel) (by decide +kernel)
set_option maxRecDepth 20000 in
theorem gX7_lay_X7_isBatch : GoodIn wsX7_lay (wsV RX7 135 RX7 yX7_isBatch wsX7_isBatch) := goodIn_app (goodIn_of _ (by decide +kernel)) ggX7_lay_X7_isBatch
set_option maxRecDepth 20000 in
theorem ggX7_lay_X7_isStore : GoodIn wsX7_lay wsX7_isStore := goodIn_r _ [17, 2, 18, 11, 12, 8, 13, 30, 31, 32, 33, 34, 35, 36, 37, 38, 39, 40, 41, 42, 43, 44, 45, 46, 47, 48] (by decide +kernel) (by decide +kernel)
set_option maxRecDepth 20000 in
theorem gX7_lay_X7_isStore : GoodIn wsX7_lay (wsV RX7 149 RX7 yX7_isStore wsX7_isStore) := goodIn_app (goodIn_of _ (by decide +kernel)) ggX7_lay_X7_isStore
set_option maxRecDepth 20000 in
theorem ggX7_lay_X7_no : GoodIn wsX7_lay wsX7_no := goodIn_r _ [22, 1, 30, 31, 32, 33, 34, 35, 36, 37, 38] (by decide +kernel) (by decide +kernel)
set_option maxRecDepth 20000 in
theorem gX7_lay_X7_no : GoodIn wsX7_lay (wsV RX7 69 RX7 yX7_no wsX7_no) := goodIn_app (goodIn_of _ (by decide +kernel)) ggX7_lay_X7_no
set_option maxRecDepth 20000 in
theorem ggX7_lay_X5_count : GoodIn wsX7_lay wsX5_count := goodIn_r _ [27, 28, 29, 39, 40, 41, 42, 43, 44, 45, 46, 47, 48] (by decide +kernel) (by decide +kernel)
set_option maxRecDepth 20000 in
theorem gX7_lay_X5_count : GoodIn wsX7_lay (wsV RX7 152 RX5 yX5_count wsX5_count) := goodIn_app (goodIn_of _ (by decide +kernel)) ggX7_lay_X5_count
theorem dX7_lay_0 : decode cX7_lay 0 = .ok (.aload_n 0, 1) := by decide +kernel
theorem dX7_lay_1 : decode cX7_lay 1 = .ok (.iconst 0, 1) := by decide +kernel
theorem dX7_lay_2 : decode cX7_lay 2 = .ok (.putfield 32, 3) := by decide +kernel
theorem dX7_lay_5 : decode cX7_lay 5 = .ok (.aload_n 0, 1) := by decide +kernel
theorem dX7_lay_6 : decode cX7_lay 6 = .ok (.iload_n 1, 1) := by decide +kernel
theorem dX7_lay_7 : decode cX7_lay 7 = .ok (.invokevirtual 135, 3) := by decide +kernel
theorem dX7_lay_10 : decode cX7_lay 10 = .ok (.ifCond .eq 11, 3) := by decide +kernel
theorem dX7_lay_13 : decode cX7_lay 13 = .ok (.aload_n 0, 1) := by decide +kernel
theorem dX7_lay_14 : decode cX7_lay 14 = .ok (.iload_n 2, 1) := by decide +kernel
theorem dX7_lay_15 : decode cX7_lay 15 = .ok (.invokevirtual 149, 3) := by decide +kernel
theorem dX7_lay_18 : decode cX7_lay 18 = .ok (.ifCond .ne 9, 3) := by decide +kernel
theorem dX7_lay_21 : decode cX7_lay 21 = .ok (.aload_n 0, 1) := by decide +kernel
theorem dX7_lay_22 : decode cX7_lay 22 = .ok (.iconst 1, 1) := by decide +kernel
theorem dX7_lay_23 : decode cX7_lay 23 = .ok (.invokevirtual 69, 3) := by decide +kernel
theorem dX7_lay_26 : decode cX7_lay 26 = .ok (.ireturn, 1) := by decide +kernel
theorem dX7_lay_27 : decode cX7_lay 27 = .ok (.aload_n 0, 1) := by decide +kernel
theorem dX7_lay_28 : decode cX7_lay 28 = .ok (.getfield 24, 3) := by decide +kernel
theorem dX7_lay_31 : decode cX7_lay 31 = .ok (.getfield 138, 3) := by decide +kernel
theorem dX7_lay_34 : decode cX7_lay 34 = .ok (.iload_n 1, 1) := by decide +kernel
theorem dX7_lay_35 : decode cX7_lay 35 = .ok (.baload, 1) := by decide +kernel
theorem dX7_lay_36 : decode cX7_lay 36 = .ok (.ifCond .eq 17, 3) := by decide +kernel
theorem dX7_lay_39 : decode cX7_lay 39 = .ok (.aload_n 0, 1) := by decide +kernel
theorem dX7_lay_40 : decode cX7_lay 40 = .ok (.getfield 24, 3) := by decide +kernel
theorem dX7_lay_43 : decode cX7_lay 43 = .ok (.getfield 123, 3) := by decide +kernel
theorem dX7_lay_46 : decode cX7_lay 46 = .ok (.iload_n 1, 1) := by decide +kernel
theorem dX7_lay_47 : decode cX7_lay 47 = .ok (.iaload, 1) := by decide +kernel
theorem dX7_lay_48 : decode cX7_lay 48 = .ok (.bipush 10, 2) := by decide +kernel
theorem dX7_lay_50 : decode cX7_lay 50 = .ok (.if_icmp .lt 9, 3) := by decide +kernel
theorem dX7_lay_53 : decode cX7_lay 53 = .ok (.aload_n 0, 1) := by decide +kernel
theorem dX7_lay_54 : decode cX7_lay 54 = .ok (.iconst 2, 1) := by decide +kernel
theorem dX7_lay_55 : decode cX7_lay 55 = .ok (.invokevirtual 69, 3) := by decide +kernel
theorem dX7_lay_58 : decode cX7_lay 58 = .ok (.ireturn, 1) := by decide +kernel
theorem dX7_lay_59 : decode cX7_lay 59 = .ok (.aload_n 0, 1) := by decide +kernel
theorem dX7_lay_60 : decode cX7_lay 60 = .ok (.getfield 24, 3) := by decide +kernel
theorem dX7_lay_63 : decode cX7_lay 63 = .ok (.getfield 123, 3) := by decide +kernel
theorem dX7_lay_66 : decode cX7_lay 66 = .ok (.iload_n 1, 1) := by decide +kernel
theorem dX7_lay_67 : decode cX7_lay 67 = .ok (.iload_n 2, 1) := by decide +kernel
theorem dX7_lay_68 : decode cX7_lay 68 = .ok (.iastore, 1) := by decide +kernel
theorem dX7_lay_69 : decode cX7_lay 69 = .ok (.aload_n 0, 1) := by decide +kernel
theorem dX7_lay_70 : decode cX7_lay 70 = .ok (.getfield 24, 3) := by decide +kernel
theorem dX7_lay_73 : decode cX7_lay 73 = .ok (.iload_n 2, 1) := by decide +kernel
theorem dX7_lay_74 : decode cX7_lay 74 = .ok (.invokevirtual 152, 3) := by decide +kernel
theorem dX7_lay_77 : decode cX7_lay 77 = .ok (.ireturn, 1) := by decide +kernel
set_option maxRecDepth 20000 in
theorem ggX7_door_X7_isStore : GoodIn wsX7_door wsX7_isStore := goodIn_r _ [8, 2, 9, 10, 11, 7, 12, 34, 35, 36, 37, 38, 39, 40, 41, 42, 43, 44, 45, 46, 47, 48, 49, 50, 51, 52] (by decide +kernel) (by decide +kernel)
set_option maxRecDepth 20000 in
theorem gX7_door_X7_isStore : GoodIn wsX7_door (wsV RX7 149 RX7 yX7_isStore wsX7_isStore) := goodIn_app (goodIn_of _ (by decide +kernel)) ggX7_door_X7_isStore
set_option maxRecDepth 20000 in
theorem ggX7_door_X7_no : GoodIn wsX7_door wsX7_no := goodIn_r _ [16, 1, 34, 35, 36, 37, 38, 39, 40, 41, 42] (by decide +kernel) (by decide +kernel)
set_option maxRecDepth 20000 in
theorem gX7_door_X7_no : GoodIn wsX7_door (wsV RX7 69 RX7 yX7_no wsX7_no) := goodIn_app (goodIn_of _ (by decide +kernel)) ggX7_door_X7_no
set_option maxRecDepth 20000 in
theorem ggX7_door_X7_in : GoodIn wsX7_door wsX7_in := goodIn_r _ [12] (by decide +kernel) (by decide +kernel)
set_option maxRecDepth 20000 in
theorem gX7_door_X7_in : GoodIn wsX7_door (va_wsS RX7 42 yX7_in wsX7_in) := goodIn_app (goodIn_of _ (by decide +kernel)) ggX7_door_X7_in
set_option maxRecDepth 20000 in
theorem ggX7_door_X5_open : GoodIn wsX7_door wsX5_open := goodIn_r _ [21, 22, 23, 24, 25, 26, 27, 28, 29, 30, 31, 32, 33, 43, 44, 45, 46, 47, 48, 49, 50, 51, 52] (by decide +kernel) (by decide +kernel)
set_option maxRecDepth 20000 in
theorem gX7_door_X5_open : GoodIn wsX7_door (wsV RX7 155 RX5 yX5_open wsX5_open) := goodIn_app (goodIn_of _ (by decide +kernel)) ggX7_door_X5_open
theorem dX7_door_0 : decode cX7_door 0 = .ok (.aload_n 0, 1) := by decide +kernel
theorem dX7_door_1 : decode cX7_door 1 = .ok (.iconst 0, 1) := by decide +kernel
theorem dX7_door_2 : decode cX7_door 2 = .ok (.putfield 32, 3) := by decide +kernel
theorem dX7_door_5 : decode cX7_door 5 = .ok (.aload_n 0, 1) := by decide +kernel
theorem dX7_door_6 : decode cX7_door 6 = .ok (.iload_n 1, 1) := by decide +kernel
theorem dX7_door_7 : decode cX7_door 7 = .ok (.invokevirtual 149, 3) := by decide +kernel
theorem dX7_door_10 : decode cX7_door 10 = .ok (.ifCond .ne 10, 3) := by decide +kernel
theorem dX7_door_13 : decode cX7_door 13 = .ok (.aload_n 0, 1) := by decide +kernel
theorem dX7_door_14 : decode cX7_door 14 = .ok (.iconst 1, 1) := by decide +kernel
theorem dX7_door_15 : decode cX7_door 15 = .ok (.invokevirtual 69, 3) := by decide +kernel
theorem dX7_door_18 : decode cX7_door 18 = .ok (.i2d, 1) := by decide +kernel
theorem dX7_door_19 : decode cX7_door 19 = .ok (.dreturn, 1) := by decide +kernel
theorem dX7_door_20 : decode cX7_door 20 = .ok (.iload_n 2, 1) := by decide +kernel
theorem dX7_door_21 : decode cX7_door 21 = .ok (.iconst 1, 1) := by decide +kernel
theorem dX7_door_22 : decode cX7_door 22 = .ok (.bipush 20, 2) := by decide +kernel
theorem dX7_door_24 : decode cX7_door 24 = .ok (.invokestatic 42, 3) := by decide +kernel
theorem dX7_door_27 : decode cX7_door 27 = .ok (.ifCond .ne 10, 3) := by decide +kernel
theorem dX7_door_30 : decode cX7_door 30 = .ok (.aload_n 0, 1) := by decide +kernel
theorem dX7_door_31 : decode cX7_door 31 = .ok (.iconst 2, 1) := by decide +kernel
theorem dX7_door_32 : decode cX7_door 32 = .ok (.invokevirtual 69, 3) := by decide +kernel
theorem dX7_door_35 : decode cX7_door 35 = .ok (.i2d, 1) := by decide +kernel
theorem dX7_door_36 : decode cX7_door 36 = .ok (.dreturn, 1) := by decide +kernel
theorem dX7_door_37 : decode cX7_door 37 = .ok (.aload_n 0, 1) := by decide +kernel
theorem dX7_door_38 : decode cX7_door 38 = .ok (.getfield 24, 3) := by decide +kernel
theorem dX7_door_41 : decode cX7_door 41 = .ok (.iload_n 1, 1) := by decide +kernel
theorem dX7_door_42 : decode cX7_door 42 = .ok (.iload_n 2, 1) := by decide +kernel
theorem dX7_door_43 : decode cX7_door 43 = .ok (.invokevirtual 155, 3) := by decide +kernel
theorem dX7_door_46 : decode cX7_door 46 = .ok (.aload_n 0, 1) := by decide +kernel
theorem dX7_door_47 : decode cX7_door 47 = .ok (.getfield 24, 3) := by decide +kernel
theorem dX7_door_50 : decode cX7_door 50 = .ok (.getfield 146, 3) := by decide +kernel
theorem dX7_door_53 : decode cX7_door 53 = .ok (.iload_n 1, 1) := by decide +kernel
theorem dX7_door_54 : decode cX7_door 54 = .ok (.daload, 1) := by decide +kernel
theorem dX7_door_55 : decode cX7_door 55 = .ok (.dreturn, 1) := by decide +kernel
set_option maxRecDepth 20000 in
theorem ggX7_pass_X7_in : GoodIn wsX7_pass wsX7_in := goodIn_r _ [10] (by decide +kernel) (by decide +kernel)
set_option maxRecDepth 20000 in
theorem gX7_pass_X7_in : GoodIn wsX7_pass (va_wsS RX7 42 yX7_in wsX7_in) := goodIn_app (goodIn_of _ (by decide +kernel)) ggX7_pass_X7_in
set_option maxRecDepth 20000 in
theorem ggX7_pass_X7_no : GoodIn wsX7_pass wsX7_no := goodIn_r _ [14, 1, 102, 103, 104, 105, 106, 107, 108, 109, 110] (by decide +kernel) (by decide +kernel)
set_option maxRecDepth 20000 in
theorem gX7_pass_X7_no : GoodIn wsX7_pass (wsV RX7 69 RX7 yX7_no wsX7_no) := goodIn_app (goodIn_of _ (by decide +kernel)) ggX7_pass_X7_no
set_option maxRecDepth 20000 in
theorem ggX7_pass_X5_hour : GoodIn wsX7_pass wsX5_hour := goodIn_r _ [19, 20, 21, 22, 23, 24, 25, 26, 27, 28, 29, 30, 31, 32, 33, 34, 35, 36, 37, 38, 39, 40, 41, 42, 43, 44, 45, 46, 47, 48, 49, 50, 51, 52, 53, 54, 55, 56, 57, 58, 59, 60, 61, 62, 63, 64, 65, 66, 67, 68, 69, 70, 71, 72, 73, 74, 75, 76, 77, 78, 79, 80, 81, 82, 83, 84, 85, 86, 87, 88, 89, 90, 91, 92, 93, 94, 95, 116, 117, 118, 119, 120, 121, 122, 123, 124, 125, 102, 103, 104, 105, 106, 107, 108, 109, 110, 126, 127, 128, 111, 112, 113, 114, 115] (by decide +kernel) (by decide +kernel)
set_option maxRecDepth 20000 in
theorem gX7_pass_X5_hour : GoodIn wsX7_pass (wsV RX7 159 RX5 yX5_hour wsX5_hour) := goodIn_app (goodIn_of _ (by decide +kernel)) ggX7_pass_X5_hour
set_option maxRecDepth 20000 in
theorem ggX7_pass_Jx4a65c_size_8abf5 : GoodIn wsX7_pass wsJx4a65c_size_8abf5 := goodIn_r _ [77, 37, 126, 127, 128] (by decide +kernel) (by decide +kernel)
set_option maxRecDepth 20000 in
theorem gX7_pass_Jx4a65c_size_8abf5_f36Jx4a65c : GoodIn wsX7_pass (va_wsF RX7 36 RJx4a65c ⟨"java/util/List", "size", "()I"⟩ yJx4a65c_size_8abf5 wsJx4a65c_size_8abf5) := goodIn_app (goodIn_of _ (by decide +kernel)) ggX7_pass_Jx4a65c_size_8abf5
set_option maxRecDepth 20000 in
theorem ggX7_pass_Jx4a65c_get_915e3 : GoodIn wsX7_pass wsJx4a65c_get_915e3 := goodIn_r _ [36, 37, 38, 39, 40, 41, 42, 43, 44, 45, 46, 47, 48, 35, 49, 50, 126, 127, 128] (by decide +kernel) (by decide +kernel)
set_option maxRecDepth 20000 in
theorem gX7_pass_Jx4a65c_get_915e3_f55Jx4a65c : GoodIn wsX7_pass (va_wsF RX7 55 RJx4a65c ⟨"java/util/List", "get", "(I)Ljava/lang/Object;"⟩ yJx4a65c_get_915e3 wsJx4a65c_get_915e3) := goodIn_app (goodIn_of _ (by decide +kernel)) ggX7_pass_Jx4a65c_get_915e3
set_option maxRecDepth 20000 in
theorem ggX7_pass_X5_count : GoodIn wsX7_pass wsX5_count := goodIn_r _ [101, 20, 21, 116, 117, 118, 119, 120, 121, 122, 123, 124, 125] (by decide +kernel) (by decide +kernel)
set_option maxRecDepth 20000 in
theorem gX7_pass_X5_count : GoodIn wsX7_pass (wsV RX7 152 RX5 yX5_count wsX5_count) := goodIn_app (goodIn_of _ (by decide +kernel)) ggX7_pass_X5_count
theorem dX7_pass_0 : decode cX7_pass 0 = .ok (.aload_n 0, 1) := by decide +kernel
theorem dX7_pass_1 : decode cX7_pass 1 = .ok (.iconst 0, 1) := by decide +kernel
theorem dX7_pass_2 : decode cX7_pass 2 = .ok (.putfield 32, 3) := by decide +kernel
theorem dX7_pass_5 : decode cX7_pass 5 = .ok (.iload_n 1, 1) := by decide +kernel
theorem dX7_pass_6 : decode cX7_pass 6 = .ok (.iconst 1, 1) := by decide +kernel
theorem dX7_pass_7 : decode cX7_pass 7 = .ok (.bipush 48, 2) := by decide +kernel
theorem dX7_pass_9 : decode cX7_pass 9 = .ok (.invokestatic 42, 3) := by decide +kernel
theorem dX7_pass_12 : decode cX7_pass 12 = .ok (.ifCond .ne 9, 3) := by decide +kernel
theorem dX7_pass_15 : decode cX7_pass 15 = .ok (.aload_n 0, 1) := by decide +kernel
theorem dX7_pass_16 : decode cX7_pass 16 = .ok (.iconst 1, 1) := by decide +kernel
theorem dX7_pass_17 : decode cX7_pass 17 = .ok (.invokevirtual 69, 3) := by decide +kernel
theorem dX7_pass_20 : decode cX7_pass 20 = .ok (.ireturn, 1) := by decide +kernel
theorem dX7_pass_21 : decode cX7_pass 21 = .ok (.iconst 0, 1) := by decide +kernel
theorem dX7_pass_22 : decode cX7_pass 22 = .ok (.istore_n 2, 1) := by decide +kernel
theorem dX7_pass_23 : decode cX7_pass 23 = .ok (.iload_n 2, 1) := by decide +kernel
theorem dX7_pass_24 : decode cX7_pass 24 = .ok (.iload_n 1, 1) := by decide +kernel
theorem dX7_pass_25 : decode cX7_pass 25 = .ok (.if_icmp .ge 16, 3) := by decide +kernel
theorem dX7_pass_28 : decode cX7_pass 28 = .ok (.aload_n 0, 1) := by decide +kernel
theorem dX7_pass_29 : decode cX7_pass 29 = .ok (.getfield 24, 3) := by decide +kernel
theorem dX7_pass_32 : decode cX7_pass 32 = .ok (.invokevirtual 159, 3) := by decide +kernel
theorem dX7_pass_35 : decode cX7_pass 35 = .ok (.iinc 2 1, 3) := by decide +kernel
theorem dX7_pass_38 : decode cX7_pass 38 = .ok (.goto (-15), 3) := by decide +kernel
theorem dX7_pass_41 : decode cX7_pass 41 = .ok (.iconst 0, 1) := by decide +kernel
theorem dX7_pass_42 : decode cX7_pass 42 = .ok (.istore_n 2, 1) := by decide +kernel
theorem dX7_pass_43 : decode cX7_pass 43 = .ok (.iload_n 2, 1) := by decide +kernel
theorem dX7_pass_44 : decode cX7_pass 44 = .ok (.aload_n 0, 1) := by decide +kernel
theorem dX7_pass_45 : decode cX7_pass 45 = .ok (.getfield 16, 3) := by decide +kernel
theorem dX7_pass_48 : decode cX7_pass 48 = .ok (.invokeinterface 36 1, 5) := by decide +kernel
theorem dX7_pass_53 : decode cX7_pass 53 = .ok (.if_icmp .ge 31, 3) := by decide +kernel
theorem dX7_pass_56 : decode cX7_pass 56 = .ok (.aload_n 0, 1) := by decide +kernel
theorem dX7_pass_57 : decode cX7_pass 57 = .ok (.getfield 16, 3) := by decide +kernel
theorem dX7_pass_60 : decode cX7_pass 60 = .ok (.iload_n 2, 1) := by decide +kernel
theorem dX7_pass_61 : decode cX7_pass 61 = .ok (.invokeinterface 55 2, 5) := by decide +kernel
theorem dX7_pass_66 : decode cX7_pass 66 = .ok (.checkcast 59, 3) := by decide +kernel
theorem dX7_pass_69 : decode cX7_pass 69 = .ok (.dup, 1) := by decide +kernel
theorem dX7_pass_70 : decode cX7_pass 70 = .ok (.getfield 99, 3) := by decide +kernel
theorem dX7_pass_73 : decode cX7_pass 73 = .ok (.iload_n 1, 1) := by decide +kernel
theorem dX7_pass_74 : decode cX7_pass 74 = .ok (.iadd, 1) := by decide +kernel
theorem dX7_pass_75 : decode cX7_pass 75 = .ok (.putfield 99, 3) := by decide +kernel
theorem dX7_pass_78 : decode cX7_pass 78 = .ok (.iinc 2 1, 3) := by decide +kernel
theorem dX7_pass_81 : decode cX7_pass 81 = .ok (.goto (-38), 3) := by decide +kernel
theorem dX7_pass_84 : decode cX7_pass 84 = .ok (.aload_n 0, 1) := by decide +kernel
theorem dX7_pass_85 : decode cX7_pass 85 = .ok (.dup, 1) := by decide +kernel
theorem dX7_pass_86 : decode cX7_pass 86 = .ok (.getfield 162, 3) := by decide +kernel
theorem dX7_pass_89 : decode cX7_pass 89 = .ok (.iload_n 1, 1) := by decide +kernel
theorem dX7_pass_90 : decode cX7_pass 90 = .ok (.iadd, 1) := by decide +kernel
theorem dX7_pass_91 : decode cX7_pass 91 = .ok (.putfield 162, 3) := by decide +kernel
theorem dX7_pass_94 : decode cX7_pass 94 = .ok (.aload_n 0, 1) := by decide +kernel
theorem dX7_pass_95 : decode cX7_pass 95 = .ok (.getfield 24, 3) := by decide +kernel
theorem dX7_pass_98 : decode cX7_pass 98 = .ok (.bipush 11, 2) := by decide +kernel
theorem dX7_pass_100 : decode cX7_pass 100 = .ok (.invokevirtual 152, 3) := by decide +kernel
theorem dX7_pass_103 : decode cX7_pass 103 = .ok (.ireturn, 1) := by decide +kernel
set_option maxRecDepth 20000 in
theorem ggX7_sell_X7_isBatch : GoodIn wsX7_sell wsX7_isBatch := goodIn_r _ [10, 2, 11, 12, 13, 9, 14, 59, 60, 61, 62, 63, 64, 65, 66, 67, 68, 69, 70, 71, 72, 73, 74, 75, 76, 77] (by decide +kernel) (by decide +kernel)
set_option maxRecDepth 20000 in
theorem gX7_sell_X7_isBatch : GoodIn wsX7_sell (wsV RX7 135 RX7 yX7_isBatch wsX7_isBatch) := goodIn_app (goodIn_of _ (by decide +kernel)) ggX7_sell_X7_isBatch
set_option maxRecDepth 20000 in
theorem ggX7_sell_X7_no : GoodIn wsX7_sell wsX7_no := goodIn_r _ [18, 1, 59, 60, 61, 62, 63, 64, 65, 66, 67] (by decide +kernel) (by decide +kernel)
set_option maxRecDepth 20000 in
theorem gX7_sell_X7_no : GoodIn wsX7_sell (wsV RX7 69 RX7 yX7_no wsX7_no) := goodIn_app (goodIn_of _ (by decide +kernel)) ggX7_sell_X7_no
set_option maxRecDepth 20000 in
theorem ggX7_sell_X7_in : GoodIn wsX7_sell wsX7_in := goodIn_r _ [14] (by decide +kernel) (by decide +kernel)
set_option maxRecDepth 20000 in
theorem gX7_sell_X7_in : GoodIn wsX7_sell (va_wsS RX7 42 yX7_in wsX7_in) := goodIn_app (goodIn_of _ (by decide +kernel)) ggX7_sell_X7_in
set_option maxRecDepth 20000 in
theorem ggX7_sell_X5_isCoarse : GoodIn wsX7_sell wsX5_isCoarse := goodIn_r _ [23, 24, 25, 68, 69, 70, 71, 72, 73, 74, 75, 76, 77] (by decide +kernel) (by decide +kernel)
set_option maxRecDepth 20000 in
theorem gX7_sell_X5_isCoarse : GoodIn wsX7_sell (wsV RX7 165 RX5 yX5_isCoarse wsX5_isCoarse) := goodIn_app (goodIn_of _ (by decide +kernel)) ggX7_sell_X5_isCoarse
set_option maxRecDepth 20000 in
theorem ggX7_sell_X7_isCalled : GoodIn wsX7_sell wsX7_isCalled := goodIn_r _ [29, 30, 2, 31, 32, 33, 34, 35, 36, 37, 38, 39, 40, 41, 42, 43, 44, 45, 46, 47, 48, 49, 50, 51, 52, 53, 54, 55, 56, 57, 58, 59, 60, 61, 62, 63, 64, 65, 66, 67, 68, 69, 70, 71, 72, 73, 74, 75, 76, 77, 78, 79, 80, 81, 82, 83, 84, 85] (by decide +kernel) (by decide +kernel)
set_option maxRecDepth 20000 in
theorem gX7_sell_X7_isCalled : GoodIn wsX7_sell (wsV RX7 168 RX7 yX7_isCalled wsX7_isCalled) := goodIn_app (goodIn_of _ (by decide +kernel)) ggX7_sell_X7_isCalled
theorem dX7_sell_0 : decode cX7_sell 0 = .ok (.aload_n 0, 1) := by decide +kernel
theorem dX7_sell_1 : decode cX7_sell 1 = .ok (.iconst 0, 1) := by decide +kernel
theorem dX7_sell_2 : decode cX7_sell 2 = .ok (.putfield 32, 3) := by decide +kernel
theorem dX7_sell_5 : decode cX7_sell 5 = .ok (.aload_n 0, 1) := by decide +kernel
theorem dX7_sell_6 : decode cX7_sell 6 = .ok (.iload_n 1, 1) := by decide +kernel
theorem dX7_sell_7 : decode cX7_sell 7 = .ok (.invokevirtual 135, 3) := by decide +kernel
theorem dX7_sell_10 : decode cX7_sell 10 = .ok (.ifCond .ne 9, 3) := by decide +kernel
theorem dX7_sell_13 : decode cX7_sell 13 = .ok (.aload_n 0, 1) := by decide +kernel
theorem dX7_sell_14 : decode cX7_sell 14 = .ok (.iconst 1, 1) := by decide +kernel
theorem dX7_sell_15 : decode cX7_sell 15 = .ok (.invokevirtual 69, 3) := by decide +kernel
theorem dX7_sell_18 : decode cX7_sell 18 = .ok (.ireturn, 1) := by decide +kernel
theorem dX7_sell_19 : decode cX7_sell 19 = .ok (.iload_n 2, 1) := by decide +kernel
theorem dX7_sell_20 : decode cX7_sell 20 = .ok (.iconst 1, 1) := by decide +kernel
theorem dX7_sell_21 : decode cX7_sell 21 = .ok (.bipush 99, 2) := by decide +kernel
theorem dX7_sell_23 : decode cX7_sell 23 = .ok (.invokestatic 42, 3) := by decide +kernel
theorem dX7_sell_26 : decode cX7_sell 26 = .ok (.ifCond .ne 9, 3) := by decide +kernel
theorem dX7_sell_29 : decode cX7_sell 29 = .ok (.aload_n 0, 1) := by decide +kernel
theorem dX7_sell_30 : decode cX7_sell 30 = .ok (.iconst 2, 1) := by decide +kernel
theorem dX7_sell_31 : decode cX7_sell 31 = .ok (.invokevirtual 69, 3) := by decide +kernel
theorem dX7_sell_34 : decode cX7_sell 34 = .ok (.ireturn, 1) := by decide +kernel
theorem dX7_sell_35 : decode cX7_sell 35 = .ok (.aload_n 0, 1) := by decide +kernel
theorem dX7_sell_36 : decode cX7_sell 36 = .ok (.getfield 24, 3) := by decide +kernel
theorem dX7_sell_39 : decode cX7_sell 39 = .ok (.getfield 123, 3) := by decide +kernel
theorem dX7_sell_42 : decode cX7_sell 42 = .ok (.iload_n 1, 1) := by decide +kernel
theorem dX7_sell_43 : decode cX7_sell 43 = .ok (.iaload, 1) := by decide +kernel
theorem dX7_sell_44 : decode cX7_sell 44 = .ok (.iconst 0, 1) := by decide +kernel
theorem dX7_sell_45 : decode cX7_sell 45 = .ok (.iconst 2, 1) := by decide +kernel
theorem dX7_sell_46 : decode cX7_sell 46 = .ok (.invokestatic 42, 3) := by decide +kernel
theorem dX7_sell_49 : decode cX7_sell 49 = .ok (.ifCond .eq 22, 3) := by decide +kernel
theorem dX7_sell_52 : decode cX7_sell 52 = .ok (.aload_n 0, 1) := by decide +kernel
theorem dX7_sell_53 : decode cX7_sell 53 = .ok (.getfield 24, 3) := by decide +kernel
theorem dX7_sell_56 : decode cX7_sell 56 = .ok (.iload_n 1, 1) := by decide +kernel
theorem dX7_sell_57 : decode cX7_sell 57 = .ok (.invokevirtual 165, 3) := by decide +kernel
theorem dX7_sell_60 : decode cX7_sell 60 = .ok (.ifCond .ne 11, 3) := by decide +kernel
theorem dX7_sell_63 : decode cX7_sell 63 = .ok (.aload_n 0, 1) := by decide +kernel
theorem dX7_sell_64 : decode cX7_sell 64 = .ok (.iload_n 1, 1) := by decide +kernel
theorem dX7_sell_65 : decode cX7_sell 65 = .ok (.invokevirtual 168, 3) := by decide +kernel
theorem dX7_sell_68 : decode cX7_sell 68 = .ok (.ifCond .eq 9, 3) := by decide +kernel
theorem dX7_sell_71 : decode cX7_sell 71 = .ok (.aload_n 0, 1) := by decide +kernel
theorem dX7_sell_72 : decode cX7_sell 72 = .ok (.iconst 3, 1) := by decide +kernel
theorem dX7_sell_73 : decode cX7_sell 73 = .ok (.invokevirtual 69, 3) := by decide +kernel
theorem dX7_sell_76 : decode cX7_sell 76 = .ok (.ireturn, 1) := by decide +kernel
theorem dX7_sell_77 : decode cX7_sell 77 = .ok (.aload_n 0, 1) := by decide +kernel
theorem dX7_sell_78 : decode cX7_sell 78 = .ok (.getfield 24, 3) := by decide +kernel
theorem dX7_sell_81 : decode cX7_sell 81 = .ok (.getfield 123, 3) := by decide +kernel
theorem dX7_sell_84 : decode cX7_sell 84 = .ok (.iload_n 1, 1) := by decide +kernel
theorem dX7_sell_85 : decode cX7_sell 85 = .ok (.bipush 10, 2) := by decide +kernel
theorem dX7_sell_87 : decode cX7_sell 87 = .ok (.iastore, 1) := by decide +kernel
theorem dX7_sell_88 : decode cX7_sell 88 = .ok (.aload_n 0, 1) := by decide +kernel
theorem dX7_sell_89 : decode cX7_sell 89 = .ok (.dup, 1) := by decide +kernel
theorem dX7_sell_90 : decode cX7_sell 90 = .ok (.getfield 171, 3) := by decide +kernel
theorem dX7_sell_93 : decode cX7_sell 93 = .ok (.aload_n 0, 1) := by decide +kernel
theorem dX7_sell_94 : decode cX7_sell 94 = .ok (.getfield 24, 3) := by decide +kernel
theorem dX7_sell_97 : decode cX7_sell 97 = .ok (.getfield 120, 3) := by decide +kernel
theorem dX7_sell_100 : decode cX7_sell 100 = .ok (.iload_n 1, 1) := by decide +kernel
theorem dX7_sell_101 : decode cX7_sell 101 = .ok (.iaload, 1) := by decide +kernel
theorem dX7_sell_102 : decode cX7_sell 102 = .ok (.iload_n 2, 1) := by decide +kernel
theorem dX7_sell_103 : decode cX7_sell 103 = .ok (.imul, 1) := by decide +kernel
theorem dX7_sell_104 : decode cX7_sell 104 = .ok (.iadd, 1) := by decide +kernel
theorem dX7_sell_105 : decode cX7_sell 105 = .ok (.putfield 171, 3) := by decide +kernel
theorem dX7_sell_108 : decode cX7_sell 108 = .ok (.aload_n 0, 1) := by decide +kernel
theorem dX7_sell_109 : decode cX7_sell 109 = .ok (.getfield 171, 3) := by decide +kernel
theorem dX7_sell_112 : decode cX7_sell 112 = .ok (.ireturn, 1) := by decide +kernel
set_option maxRecDepth 20000 in
theorem ggX7_call_X7_isIngredient : GoodIn wsX7_call wsX7_isIngredient := goodIn_r _ [15, 16, 17, 18, 19, 20, 21, 22, 23, 24, 14, 25, 47, 48, 49, 50, 51, 52, 53, 54, 55, 71, 72, 73] (by decide +kernel) (by decide +kernel)
set_option maxRecDepth 20000 in
theorem gX7_call_X7_isIngredient : GoodIn wsX7_call (wsV RX7 77 RX7 yX7_isIngredient wsX7_isIngredient) := goodIn_app (goodIn_of _ (by decide +kernel)) ggX7_call_X7_isIngredient
set_option maxRecDepth 20000 in
theorem ggX7_call_X7_no : GoodIn wsX7_call wsX7_no := goodIn_r _ [29, 1, 47, 48, 49, 50, 51, 52, 53, 54, 55] (by decide +kernel) (by decide +kernel)
set_option maxRecDepth 20000 in
theorem gX7_call_X7_no : GoodIn wsX7_call (wsV RX7 69 RX7 yX7_no wsX7_no) := goodIn_app (goodIn_of _ (by decide +kernel)) ggX7_call_X7_no
set_option maxRecDepth 20000 in
theorem ggX7_call_Jx4a65c_get_915e3 : GoodIn wsX7_call wsJx4a65c_get_915e3 := goodIn_r _ [33, 22, 34, 35, 36, 37, 38, 39, 40, 41, 42, 43, 44, 20, 45, 46, 71, 72, 73] (by decide +kernel) (by decide +kernel)
set_option maxRecDepth 20000 in
theorem gX7_call_Jx4a65c_get_915e3_f55Jx4a65c : GoodIn wsX7_call (va_wsF RX7 55 RJx4a65c ⟨"java/util/List", "get", "(I)Ljava/lang/Object;"⟩ yJx4a65c_get_915e3 wsJx4a65c_get_915e3) := goodIn_app (goodIn_of _ (by decide +kernel)) ggX7_call_Jx4a65c_get_915e3
theorem dX7_call_0 : decode cX7_call 0 = .ok (.aload_n 0, 1) := by decide +kernel
theorem dX7_call_1 : decode cX7_call 1 = .ok (.iconst 0, 1) := by decide +kernel
theorem dX7_call_2 : decode cX7_call 2 = .ok (.putfield 32, 3) := by decide +kernel
theorem dX7_call_5 : decode cX7_call 5 = .ok (.aload_n 0, 1) := by decide +kernel
theorem dX7_call_6 : decode cX7_call 6 = .ok (.iload_n 1, 1) := by decide +kernel
theorem dX7_call_7 : decode cX7_call 7 = .ok (.invokevirtual 77, 3) := by decide +kernel
theorem dX7_call_10 : decode cX7_call 10 = .ok (.ifCond .ne 9, 3) := by decide +kernel
theorem dX7_call_13 : decode cX7_call 13 = .ok (.aload_n 0, 1) := by decide +kernel
theorem dX7_call_14 : decode cX7_call 14 = .ok (.iconst 1, 1) := by decide +kernel
theorem dX7_call_15 : decode cX7_call 15 = .ok (.invokevirtual 69, 3) := by decide +kernel
theorem dX7_call_18 : decode cX7_call 18 = .ok (.ireturn, 1) := by decide +kernel
theorem dX7_call_19 : decode cX7_call 19 = .ok (.aload_n 0, 1) := by decide +kernel
theorem dX7_call_20 : decode cX7_call 20 = .ok (.dup, 1) := by decide +kernel
theorem dX7_call_21 : decode cX7_call 21 = .ok (.getfield 64, 3) := by decide +kernel
theorem dX7_call_24 : decode cX7_call 24 = .ok (.iconst 1, 1) := by decide +kernel
theorem dX7_call_25 : decode cX7_call 25 = .ok (.iload_n 1, 1) := by decide +kernel
theorem dX7_call_26 : decode cX7_call 26 = .ok (.ishl, 1) := by decide +kernel
theorem dX7_call_27 : decode cX7_call 27 = .ok (.ior, 1) := by decide +kernel
theorem dX7_call_28 : decode cX7_call 28 = .ok (.putfield 64, 3) := by decide +kernel
theorem dX7_call_31 : decode cX7_call 31 = .ok (.iconst 0, 1) := by decide +kernel
theorem dX7_call_32 : decode cX7_call 32 = .ok (.istore_n 2, 1) := by decide +kernel
theorem dX7_call_33 : decode cX7_call 33 = .ok (.iconst 0, 1) := by decide +kernel
theorem dX7_call_34 : decode cX7_call 34 = .ok (.istore_n 3, 1) := by decide +kernel
theorem dX7_call_35 : decode cX7_call 35 = .ok (.iload_n 3, 1) := by decide +kernel
theorem dX7_call_36 : decode cX7_call 36 = .ok (.aload_n 0, 1) := by decide +kernel
theorem dX7_call_37 : decode cX7_call 37 = .ok (.getfield 24, 3) := by decide +kernel
theorem dX7_call_40 : decode cX7_call 40 = .ok (.getfield 46, 3) := by decide +kernel
theorem dX7_call_43 : decode cX7_call 43 = .ok (.if_icmp .ge 68, 3) := by decide +kernel
theorem dX7_call_46 : decode cX7_call 46 = .ok (.iload_n 2, 1) := by decide +kernel
theorem dX7_call_47 : decode cX7_call 47 = .ok (.aload_n 0, 1) := by decide +kernel
theorem dX7_call_48 : decode cX7_call 48 = .ok (.getfield 24, 3) := by decide +kernel
theorem dX7_call_51 : decode cX7_call 51 = .ok (.getfield 123, 3) := by decide +kernel
theorem dX7_call_54 : decode cX7_call 54 = .ok (.iload_n 3, 1) := by decide +kernel
theorem dX7_call_55 : decode cX7_call 55 = .ok (.iaload, 1) := by decide +kernel
theorem dX7_call_56 : decode cX7_call 56 = .ok (.bipush 10, 2) := by decide +kernel
theorem dX7_call_58 : decode cX7_call 58 = .ok (.if_icmp .ne 44, 3) := by decide +kernel
theorem dX7_call_61 : decode cX7_call 61 = .ok (.aload_n 0, 1) := by decide +kernel
theorem dX7_call_62 : decode cX7_call 62 = .ok (.getfield 16, 3) := by decide +kernel
theorem dX7_call_65 : decode cX7_call 65 = .ok (.aload_n 0, 1) := by decide +kernel
theorem dX7_call_66 : decode cX7_call 66 = .ok (.getfield 24, 3) := by decide +kernel
theorem dX7_call_69 : decode cX7_call 69 = .ok (.getfield 52, 3) := by decide +kernel
theorem dX7_call_72 : decode cX7_call 72 = .ok (.iload_n 3, 1) := by decide +kernel
theorem dX7_call_73 : decode cX7_call 73 = .ok (.iaload, 1) := by decide +kernel
theorem dX7_call_74 : decode cX7_call 74 = .ok (.invokeinterface 55 2, 5) := by decide +kernel
theorem dX7_call_79 : decode cX7_call 79 = .ok (.checkcast 59, 3) := by decide +kernel
theorem dX7_call_82 : decode cX7_call 82 = .ok (.getfield 174, 3) := by decide +kernel
theorem dX7_call_85 : decode cX7_call 85 = .ok (.iload_n 1, 1) := by decide +kernel
theorem dX7_call_86 : decode cX7_call 86 = .ok (.iaload, 1) := by decide +kernel
theorem dX7_call_87 : decode cX7_call 87 = .ok (.ifCond .le 15, 3) := by decide +kernel
theorem dX7_call_90 : decode cX7_call 90 = .ok (.aload_n 0, 1) := by decide +kernel
theorem dX7_call_91 : decode cX7_call 91 = .ok (.getfield 24, 3) := by decide +kernel
theorem dX7_call_94 : decode cX7_call 94 = .ok (.getfield 120, 3) := by decide +kernel
theorem dX7_call_97 : decode cX7_call 97 = .ok (.iload_n 3, 1) := by decide +kernel
theorem dX7_call_98 : decode cX7_call 98 = .ok (.iaload, 1) := by decide +kernel
theorem dX7_call_99 : decode cX7_call 99 = .ok (.goto 4, 3) := by decide +kernel
theorem dX7_call_102 : decode cX7_call 102 = .ok (.iconst 0, 1) := by decide +kernel
theorem dX7_call_103 : decode cX7_call 103 = .ok (.iadd, 1) := by decide +kernel
theorem dX7_call_104 : decode cX7_call 104 = .ok (.istore_n 2, 1) := by decide +kernel
theorem dX7_call_105 : decode cX7_call 105 = .ok (.iinc 3 1, 3) := by decide +kernel
theorem dX7_call_108 : decode cX7_call 108 = .ok (.goto (-73), 3) := by decide +kernel
theorem dX7_call_111 : decode cX7_call 111 = .ok (.iload_n 2, 1) := by decide +kernel
theorem dX7_call_112 : decode cX7_call 112 = .ok (.ireturn, 1) := by decide +kernel
set_option maxRecDepth 20000 in
theorem ggX7_mixNow_Jx4a65c_get_915e3 : GoodIn wsX7_mixNow wsJx4a65c_get_915e3 := goodIn_r _ [11, 12, 13, 14, 15, 16, 17, 18, 19, 20, 21, 22, 23, 10, 24, 25, 85, 86, 87] (by decide +kernel) (by decide +kernel)
set_option maxRecDepth 20000 in
theorem gX7_mixNow_Jx4a65c_get_915e3_f55Jx4a65c : GoodIn wsX7_mixNow (va_wsF RX7 55 RJx4a65c ⟨"java/util/List", "get", "(I)Ljava/lang/Object;"⟩ yJx4a65c_get_915e3 wsJx4a65c_get_915e3) := goodIn_app (goodIn_of _ (by decide +kernel)) ggX7_mixNow_Jx4a65c_get_915e3
set_option maxRecDepth 20000 in
theorem ggX7_mixNow_X6_all : GoodIn wsX7_mixNow wsX6_all := goodIn_r _ [30, 31, 80, 81, 82, 83, 84] (by decide +kernel) (by decide +kernel)
set_option maxRecDepth 20000 in
theorem gX7_mixNow_X6_all : GoodIn wsX7_mixNow (wsV RX7 89 RX6 yX6_all wsX6_all) := goodIn_app (goodIn_of _ (by decide +kernel)) ggX7_mixNow_X6_all
set_option maxRecDepth 20000 in
theorem ggX7_mixNow_X6_sum : GoodIn wsX7_mixNow wsX6_sum := goodIn_r _ [35, 36, 31, 37, 38, 39, 40, 10, 41, 12, 42, 8, 9, 11, 13, 14, 15, 16, 17, 18, 19, 20, 21, 22, 23, 24, 25, 80, 81, 82, 83, 84, 71, 72, 73, 74, 75, 76, 77, 78, 79, 85, 86, 87] (by decide +kernel) (by decide +kernel)
set_option maxRecDepth 20000 in
theorem gX7_mixNow_X6_sum : GoodIn wsX7_mixNow (wsV RX7 177 RX6 yX6_sum wsX6_sum) := goodIn_app (goodIn_of _ (by decide +kernel)) ggX7_mixNow_X6_sum
set_option maxRecDepth 20000 in
theorem ggX7_mixNow_X6_harms : GoodIn wsX7_mixNow wsX6_harms := goodIn_r _ [46, 36, 31, 37, 38, 39, 40, 10, 41, 12, 42, 8, 9, 11, 13, 14, 15, 16, 17, 18, 19, 20, 21, 22, 23, 24, 25, 80, 81, 82, 83, 84, 71, 72, 73, 74, 75, 76, 77, 78, 79, 85, 86, 87] (by decide +kernel) (by decide +kernel)
set_option maxRecDepth 20000 in
theorem gX7_mixNow_X6_harms : GoodIn wsX7_mixNow (wsV RX7 105 RX6 yX6_harms wsX6_harms) := goodIn_app (goodIn_of _ (by decide +kernel)) ggX7_mixNow_X6_harms
set_option maxRecDepth 20000 in
theorem ggX7_mixNow_X6_isCream : GoodIn wsX7_mixNow wsX6_isCream := goodIn_r _ [50, 51, 52, 53, 54, 55, 29, 56, 57, 33, 34, 35, 36, 31, 37, 38, 39, 40, 10, 41, 12, 42, 8, 9, 11, 13, 14, 15, 16, 17, 18, 19, 20, 21, 22, 23, 24, 25, 58, 27, 28, 30, 80, 81, 82, 83, 84, 71, 72, 73, 74, 75, 76, 77, 78, 79, 85, 86, 87] (by decide +kernel) (by decide +kernel)
set_option maxRecDepth 20000 in
theorem gX7_mixNow_X6_isCream : GoodIn wsX7_mixNow (wsV RX7 108 RX6 yX6_isCream wsX6_isCream) := goodIn_app (goodIn_of _ (by decide +kernel)) ggX7_mixNow_X6_isCream
set_option maxRecDepth 20000 in
theorem ggX7_mixNow_X6_set : GoodIn wsX7_mixNow wsX6_set := goodIn_r _ [62, 31, 80, 81, 82, 83, 84] (by decide +kernel) (by decide +kernel)
set_option maxRecDepth 20000 in
theorem gX7_mixNow_X6_set : GoodIn wsX7_mixNow (wsV RX7 61 RX6 yX6_set wsX6_set) := goodIn_app (goodIn_of _ (by decide +kernel)) ggX7_mixNow_X6_set
set_option maxRecDepth 20000 in
theorem ggX7_mixNow_X7_batchesOf : GoodIn wsX7_mixNow wsX7_batchesOf := goodIn_r _ [67, 68, 69, 70, 71, 72, 73, 74, 75, 76, 77, 78, 79, 88, 89, 90, 91, 92, 93, 94, 95, 96, 97] (by decide +kernel) (by decide +kernel)
set_option maxRecDepth 20000 in
theorem gX7_mixNow_X7_batchesOf : GoodIn wsX7_mixNow (wsV RX7 92 RX7 yX7_batchesOf wsX7_batchesOf) := goodIn_app (goodIn_of _ (by decide +kernel)) ggX7_mixNow_X7_batchesOf
theorem dX7_mixNow_0 : decode cX7_mixNow 0 = .ok (.aload_n 0, 1) := by decide +kernel
theorem dX7_mixNow_1 : decode cX7_mixNow 1 = .ok (.getfield 16, 3) := by decide +kernel
theorem dX7_mixNow_4 : decode cX7_mixNow 4 = .ok (.iload_n 1, 1) := by decide +kernel
theorem dX7_mixNow_5 : decode cX7_mixNow 5 = .ok (.invokeinterface 55 2, 5) := by decide +kernel
theorem dX7_mixNow_10 : decode cX7_mixNow 10 = .ok (.checkcast 59, 3) := by decide +kernel
theorem dX7_mixNow_13 : decode cX7_mixNow 13 = .ok (.astore_n 3, 1) := by decide +kernel
theorem dX7_mixNow_14 : decode cX7_mixNow 14 = .ok (.bipush 9, 2) := by decide +kernel
theorem dX7_mixNow_16 : decode cX7_mixNow 16 = .ok (.newarray .int, 2) := by decide +kernel
theorem dX7_mixNow_18 : decode cX7_mixNow 18 = .ok (.dup, 1) := by decide +kernel
theorem dX7_mixNow_19 : decode cX7_mixNow 19 = .ok (.iconst 0, 1) := by decide +kernel
theorem dX7_mixNow_20 : decode cX7_mixNow 20 = .ok (.aload_n 3, 1) := by decide +kernel
theorem dX7_mixNow_21 : decode cX7_mixNow 21 = .ok (.invokevirtual 89, 3) := by decide +kernel
theorem dX7_mixNow_24 : decode cX7_mixNow 24 = .ok (.iastore, 1) := by decide +kernel
theorem dX7_mixNow_25 : decode cX7_mixNow 25 = .ok (.dup, 1) := by decide +kernel
theorem dX7_mixNow_26 : decode cX7_mixNow 26 = .ok (.iconst 1, 1) := by decide +kernel
theorem dX7_mixNow_27 : decode cX7_mixNow 27 = .ok (.aload_n 3, 1) := by decide +kernel
theorem dX7_mixNow_28 : decode cX7_mixNow 28 = .ok (.getfield 102, 3) := by decide +kernel
theorem dX7_mixNow_31 : decode cX7_mixNow 31 = .ok (.iastore, 1) := by decide +kernel
theorem dX7_mixNow_32 : decode cX7_mixNow 32 = .ok (.dup, 1) := by decide +kernel
theorem dX7_mixNow_33 : decode cX7_mixNow 33 = .ok (.iconst 2, 1) := by decide +kernel
theorem dX7_mixNow_34 : decode cX7_mixNow 34 = .ok (.aload_n 3, 1) := by decide +kernel
theorem dX7_mixNow_35 : decode cX7_mixNow 35 = .ok (.iconst 3, 1) := by decide +kernel
theorem dX7_mixNow_36 : decode cX7_mixNow 36 = .ok (.invokevirtual 177, 3) := by decide +kernel
theorem dX7_mixNow_39 : decode cX7_mixNow 39 = .ok (.iastore, 1) := by decide +kernel
theorem dX7_mixNow_40 : decode cX7_mixNow 40 = .ok (.dup, 1) := by decide +kernel
theorem dX7_mixNow_41 : decode cX7_mixNow 41 = .ok (.iconst 3, 1) := by decide +kernel
theorem dX7_mixNow_42 : decode cX7_mixNow 42 = .ok (.aload_n 3, 1) := by decide +kernel
theorem dX7_mixNow_43 : decode cX7_mixNow 43 = .ok (.invokevirtual 105, 3) := by decide +kernel
theorem dX7_mixNow_46 : decode cX7_mixNow 46 = .ok (.iastore, 1) := by decide +kernel
theorem dX7_mixNow_47 : decode cX7_mixNow 47 = .ok (.dup, 1) := by decide +kernel
theorem dX7_mixNow_48 : decode cX7_mixNow 48 = .ok (.iconst 4, 1) := by decide +kernel
theorem dX7_mixNow_49 : decode cX7_mixNow 49 = .ok (.aload_n 3, 1) := by decide +kernel
theorem dX7_mixNow_50 : decode cX7_mixNow 50 = .ok (.getfield 95, 3) := by decide +kernel
theorem dX7_mixNow_53 : decode cX7_mixNow 53 = .ok (.ifCond .eq 7, 3) := by decide +kernel
theorem dX7_mixNow_56 : decode cX7_mixNow 56 = .ok (.iconst 1, 1) := by decide +kernel
theorem dX7_mixNow_57 : decode cX7_mixNow 57 = .ok (.goto 4, 3) := by decide +kernel
theorem dX7_mixNow_60 : decode cX7_mixNow 60 = .ok (.iconst 0, 1) := by decide +kernel
theorem dX7_mixNow_61 : decode cX7_mixNow 61 = .ok (.iastore, 1) := by decide +kernel
theorem dX7_mixNow_62 : decode cX7_mixNow 62 = .ok (.dup, 1) := by decide +kernel
theorem dX7_mixNow_63 : decode cX7_mixNow 63 = .ok (.iconst 5, 1) := by decide +kernel
theorem dX7_mixNow_64 : decode cX7_mixNow 64 = .ok (.aload_n 3, 1) := by decide +kernel
theorem dX7_mixNow_65 : decode cX7_mixNow 65 = .ok (.getfield 99, 3) := by decide +kernel
theorem dX7_mixNow_68 : decode cX7_mixNow 68 = .ok (.iastore, 1) := by decide +kernel
theorem dX7_mixNow_69 : decode cX7_mixNow 69 = .ok (.dup, 1) := by decide +kernel
theorem dX7_mixNow_70 : decode cX7_mixNow 70 = .ok (.bipush 6, 2) := by decide +kernel
theorem dX7_mixNow_72 : decode cX7_mixNow 72 = .ok (.aload_n 3, 1) := by decide +kernel
theorem dX7_mixNow_73 : decode cX7_mixNow 73 = .ok (.invokevirtual 108, 3) := by decide +kernel
theorem dX7_mixNow_76 : decode cX7_mixNow 76 = .ok (.ifCond .eq 7, 3) := by decide +kernel
theorem dX7_mixNow_79 : decode cX7_mixNow 79 = .ok (.iconst 1, 1) := by decide +kernel
theorem dX7_mixNow_80 : decode cX7_mixNow 80 = .ok (.goto 4, 3) := by decide +kernel
theorem dX7_mixNow_83 : decode cX7_mixNow 83 = .ok (.iconst 0, 1) := by decide +kernel
theorem dX7_mixNow_84 : decode cX7_mixNow 84 = .ok (.iastore, 1) := by decide +kernel
theorem dX7_mixNow_85 : decode cX7_mixNow 85 = .ok (.dup, 1) := by decide +kernel
theorem dX7_mixNow_86 : decode cX7_mixNow 86 = .ok (.bipush 7, 2) := by decide +kernel
theorem dX7_mixNow_88 : decode cX7_mixNow 88 = .ok (.aload_n 3, 1) := by decide +kernel
theorem dX7_mixNow_89 : decode cX7_mixNow 89 = .ok (.invokevirtual 61, 3) := by decide +kernel
theorem dX7_mixNow_92 : decode cX7_mixNow 92 = .ok (.iastore, 1) := by decide +kernel
theorem dX7_mixNow_93 : decode cX7_mixNow 93 = .ok (.dup, 1) := by decide +kernel
theorem dX7_mixNow_94 : decode cX7_mixNow 94 = .ok (.bipush 8, 2) := by decide +kernel
theorem dX7_mixNow_96 : decode cX7_mixNow 96 = .ok (.aload_n 0, 1) := by decide +kernel
theorem dX7_mixNow_97 : decode cX7_mixNow 97 = .ok (.iload_n 1, 1) := by decide +kernel
theorem dX7_mixNow_98 : decode cX7_mixNow 98 = .ok (.invokevirtual 92, 3) := by decide +kernel
theorem dX7_mixNow_101 : decode cX7_mixNow 101 = .ok (.iastore, 1) := by decide +kernel
theorem dX7_mixNow_102 : decode cX7_mixNow 102 = .ok (.astore 4, 2) := by decide +kernel
theorem dX7_mixNow_104 : decode cX7_mixNow 104 = .ok (.aload 4, 2) := by decide +kernel
theorem dX7_mixNow_106 : decode cX7_mixNow 106 = .ok (.iload_n 2, 1) := by decide +kernel
theorem dX7_mixNow_107 : decode cX7_mixNow 107 = .ok (.iaload, 1) := by decide +kernel
theorem dX7_mixNow_108 : decode cX7_mixNow 108 = .ok (.ireturn, 1) := by decide +kernel
set_option maxRecDepth 20000 in
theorem ggX7_ofMix_X7_isMix : GoodIn wsX7_ofMix wsX7_isMix := goodIn_r _ [6, 7, 8, 9, 10, 11, 12, 13, 14, 15, 5, 16, 88, 89, 90, 91, 92, 93, 94, 95, 96, 97, 98, 99] (by decide +kernel) (by decide +kernel)
set_option maxRecDepth 20000 in
theorem gX7_ofMix_X7_isMix : GoodIn wsX7_ofMix (wsV RX7 86 RX7 yX7_isMix wsX7_isMix) := goodIn_app (goodIn_of _ (by decide +kernel)) ggX7_ofMix_X7_isMix
set_option maxRecDepth 20000 in
theorem ggX7_ofMix_X7_no : GoodIn wsX7_ofMix wsX7_no := goodIn_r _ [20, 1, 88, 89, 90, 91, 92, 93, 94, 95, 96] (by decide +kernel) (by decide +kernel)
set_option maxRecDepth 20000 in
theorem gX7_ofMix_X7_no : GoodIn wsX7_ofMix (wsV RX7 69 RX7 yX7_no wsX7_no) := goodIn_app (goodIn_of _ (by decide +kernel)) ggX7_ofMix_X7_no
set_option maxRecDepth 20000 in
theorem ggX7_ofMix_X7_in : GoodIn wsX7_ofMix wsX7_in := goodIn_r _ [16] (by decide +kernel) (by decide +kernel)
set_option maxRecDepth 20000 in
theorem gX7_ofMix_X7_in : GoodIn wsX7_ofMix (va_wsS RX7 42 yX7_in wsX7_in) := goodIn_app (goodIn_of _ (by decide +kernel)) ggX7_ofMix_X7_in
set_option maxRecDepth 20000 in
theorem ggX7_ofMix_X7_mixNow : GoodIn wsX7_ofMix wsX7_mixNow := goodIn_r _ [24, 7, 25, 26, 27, 28, 29, 30, 31, 32, 11, 33, 13, 34, 35, 36, 37, 38, 39, 40, 41, 42, 43, 44, 45, 46, 47, 48, 49, 50, 51, 52, 53, 54, 55, 56, 57, 58, 59, 9, 10, 12, 60, 61, 62, 63, 64, 65, 66, 67, 68, 69, 70, 71, 72, 73, 74, 75, 76, 77, 78, 79, 80, 81, 82, 83, 5, 84, 85, 86, 87, 88, 89, 90, 91, 92, 93, 94, 95, 96, 100, 101, 102, 103, 104, 97, 98, 99, 105, 106, 107, 108, 109, 110, 111, 112, 113, 114] (by decide +kernel) (by decide +kernel)
set_option maxRecDepth 20000 in
theorem gX7_ofMix_X7_mixNow : GoodIn wsX7_ofMix (wsV RX7 180 RX7 yX7_mixNow wsX7_mixNow) := goodIn_app (goodIn_of _ (by decide +kernel)) ggX7_ofMix_X7_mixNow
theorem dX7_ofMix_0 : decode cX7_ofMix 0 = .ok (.aload_n 0, 1) := by decide +kernel
theorem dX7_ofMix_1 : decode cX7_ofMix 1 = .ok (.iconst 0, 1) := by decide +kernel
theorem dX7_ofMix_2 : decode cX7_ofMix 2 = .ok (.putfield 32, 3) := by decide +kernel
theorem dX7_ofMix_5 : decode cX7_ofMix 5 = .ok (.aload_n 0, 1) := by decide +kernel
theorem dX7_ofMix_6 : decode cX7_ofMix 6 = .ok (.iload_n 1, 1) := by decide +kernel
theorem dX7_ofMix_7 : decode cX7_ofMix 7 = .ok (.invokevirtual 86, 3) := by decide +kernel
theorem dX7_ofMix_10 : decode cX7_ofMix 10 = .ok (.ifCond .ne 9, 3) := by decide +kernel
theorem dX7_ofMix_13 : decode cX7_ofMix 13 = .ok (.aload_n 0, 1) := by decide +kernel
theorem dX7_ofMix_14 : decode cX7_ofMix 14 = .ok (.iconst 1, 1) := by decide +kernel
theorem dX7_ofMix_15 : decode cX7_ofMix 15 = .ok (.invokevirtual 69, 3) := by decide +kernel
theorem dX7_ofMix_18 : decode cX7_ofMix 18 = .ok (.ireturn, 1) := by decide +kernel
theorem dX7_ofMix_19 : decode cX7_ofMix 19 = .ok (.iload_n 2, 1) := by decide +kernel
theorem dX7_ofMix_20 : decode cX7_ofMix 20 = .ok (.iconst 0, 1) := by decide +kernel
theorem dX7_ofMix_21 : decode cX7_ofMix 21 = .ok (.bipush 8, 2) := by decide +kernel
theorem dX7_ofMix_23 : decode cX7_ofMix 23 = .ok (.invokestatic 42, 3) := by decide +kernel
theorem dX7_ofMix_26 : decode cX7_ofMix 26 = .ok (.ifCond .ne 9, 3) := by decide +kernel
theorem dX7_ofMix_29 : decode cX7_ofMix 29 = .ok (.aload_n 0, 1) := by decide +kernel
theorem dX7_ofMix_30 : decode cX7_ofMix 30 = .ok (.iconst 2, 1) := by decide +kernel
theorem dX7_ofMix_31 : decode cX7_ofMix 31 = .ok (.invokevirtual 69, 3) := by decide +kernel
theorem dX7_ofMix_34 : decode cX7_ofMix 34 = .ok (.ireturn, 1) := by decide +kernel
theorem dX7_ofMix_35 : decode cX7_ofMix 35 = .ok (.aload_n 0, 1) := by decide +kernel
theorem dX7_ofMix_36 : decode cX7_ofMix 36 = .ok (.iload_n 1, 1) := by decide +kernel
theorem dX7_ofMix_37 : decode cX7_ofMix 37 = .ok (.iload_n 2, 1) := by decide +kernel
theorem dX7_ofMix_38 : decode cX7_ofMix 38 = .ok (.invokevirtual 180, 3) := by decide +kernel
theorem dX7_ofMix_41 : decode cX7_ofMix 41 = .ok (.ireturn, 1) := by decide +kernel
set_option maxRecDepth 20000 in
theorem ggX7_part_X7_isMix : GoodIn wsX7_part wsX7_isMix := goodIn_r _ [8, 2, 9, 10, 11, 12, 13, 14, 15, 16, 7, 17, 65, 66, 67, 68, 69, 70, 71, 72, 73, 74, 75, 76] (by decide +kernel) (by decide +kernel)
set_option maxRecDepth 20000 in
theorem gX7_part_X7_isMix : GoodIn wsX7_part (wsV RX7 86 RX7 yX7_isMix wsX7_isMix) := goodIn_app (goodIn_of _ (by decide +kernel)) ggX7_part_X7_isMix
set_option maxRecDepth 20000 in
theorem ggX7_part_X7_no : GoodIn wsX7_part wsX7_no := goodIn_r _ [21, 1, 65, 66, 67, 68, 69, 70, 71, 72, 73] (by decide +kernel) (by decide +kernel)
set_option maxRecDepth 20000 in
theorem gX7_part_X7_no : GoodIn wsX7_part (wsV RX7 69 RX7 yX7_no wsX7_no) := goodIn_app (goodIn_of _ (by decide +kernel)) ggX7_part_X7_no
set_option maxRecDepth 20000 in
theorem ggX7_part_X7_in : GoodIn wsX7_part wsX7_in := goodIn_r _ [17] (by decide +kernel) (by decide +kernel)
set_option maxRecDepth 20000 in
theorem gX7_part_X7_in : GoodIn wsX7_part (va_wsS RX7 42 yX7_in wsX7_in) := goodIn_app (goodIn_of _ (by decide +kernel)) ggX7_part_X7_in
set_option maxRecDepth 20000 in
theorem ggX7_part_Jx4a65c_get_915e3 : GoodIn wsX7_part wsJx4a65c_get_915e3 := goodIn_r _ [25, 14, 26, 27, 28, 29, 30, 31, 32, 33, 34, 35, 36, 12, 37, 38, 74, 75, 76] (by decide +kernel) (by decide +kernel)
set_option maxRecDepth 20000 in
theorem gX7_part_Jx4a65c_get_915e3_f55Jx4a65c : GoodIn wsX7_part (va_wsF RX7 55 RJx4a65c ⟨"java/util/List", "get", "(I)Ljava/lang/Object;"⟩ yJx4a65c_get_915e3 wsJx4a65c_get_915e3) := goodIn_app (goodIn_of _ (by decide +kernel)) ggX7_part_Jx4a65c_get_915e3
set_option maxRecDepth 20000 in
theorem ggX7_part_X6_freezes : GoodIn wsX7_part wsX6_freezes := goodIn_r _ [43, 44, 45, 46, 47, 48, 42, 49, 50, 51, 52, 53, 54, 55, 56, 57, 58, 10, 11, 12, 13, 14, 59, 23, 24, 25, 26, 27, 28, 29, 30, 31, 32, 33, 34, 35, 36, 37, 38, 60, 61, 62, 63, 77, 78, 79, 80, 81, 65, 66, 67, 68, 69, 70, 71, 72, 73, 74, 75, 76] (by decide +kernel) (by decide +kernel)
set_option maxRecDepth 20000 in
theorem gX7_part_X6_freezes : GoodIn wsX7_part (wsV RX7 183 RX6 yX6_freezes wsX6_freezes) := goodIn_app (goodIn_of _ (by decide +kernel)) ggX7_part_X6_freezes
set_option maxRecDepth 20000 in
theorem ggX7_part_X6_part : GoodIn wsX7_part wsX6_part := goodIn_r _ [49, 50, 51, 52, 53, 42, 54, 55, 56, 57, 58, 10, 11, 12, 13, 14, 59, 23, 24, 25, 26, 27, 28, 29, 30, 31, 32, 33, 34, 35, 36, 37, 38, 60, 61, 62, 63, 77, 78, 79, 80, 81, 65, 66, 67, 68, 69, 70, 71, 72, 73, 74, 75, 76] (by decide +kernel) (by decide +kernel)
set_option maxRecDepth 20000 in
theorem gX7_part_X6_part : GoodIn wsX7_part (wsV RX7 187 RX6 yX6_part wsX6_part) := goodIn_app (goodIn_of _ (by decide +kernel)) ggX7_part_X6_part
theorem dX7_part_0 : decode cX7_part 0 = .ok (.aload_n 0, 1) := by decide +kernel
theorem dX7_part_1 : decode cX7_part 1 = .ok (.iconst 0, 1) := by decide +kernel
theorem dX7_part_2 : decode cX7_part 2 = .ok (.putfield 32, 3) := by decide +kernel
theorem dX7_part_5 : decode cX7_part 5 = .ok (.aload_n 0, 1) := by decide +kernel
theorem dX7_part_6 : decode cX7_part 6 = .ok (.iload_n 1, 1) := by decide +kernel
theorem dX7_part_7 : decode cX7_part 7 = .ok (.invokevirtual 86, 3) := by decide +kernel
theorem dX7_part_10 : decode cX7_part 10 = .ok (.ifCond .ne 10, 3) := by decide +kernel
theorem dX7_part_13 : decode cX7_part 13 = .ok (.aload_n 0, 1) := by decide +kernel
theorem dX7_part_14 : decode cX7_part 14 = .ok (.iconst 1, 1) := by decide +kernel
theorem dX7_part_15 : decode cX7_part 15 = .ok (.invokevirtual 69, 3) := by decide +kernel
theorem dX7_part_18 : decode cX7_part 18 = .ok (.i2d, 1) := by decide +kernel
theorem dX7_part_19 : decode cX7_part 19 = .ok (.dreturn, 1) := by decide +kernel
theorem dX7_part_20 : decode cX7_part 20 = .ok (.iload_n 2, 1) := by decide +kernel
theorem dX7_part_21 : decode cX7_part 21 = .ok (.iconst 0, 1) := by decide +kernel
theorem dX7_part_22 : decode cX7_part 22 = .ok (.iconst 3, 1) := by decide +kernel
theorem dX7_part_23 : decode cX7_part 23 = .ok (.invokestatic 42, 3) := by decide +kernel
theorem dX7_part_26 : decode cX7_part 26 = .ok (.ifCond .ne 10, 3) := by decide +kernel
theorem dX7_part_29 : decode cX7_part 29 = .ok (.aload_n 0, 1) := by decide +kernel
theorem dX7_part_30 : decode cX7_part 30 = .ok (.iconst 2, 1) := by decide +kernel
theorem dX7_part_31 : decode cX7_part 31 = .ok (.invokevirtual 69, 3) := by decide +kernel
theorem dX7_part_34 : decode cX7_part 34 = .ok (.i2d, 1) := by decide +kernel
theorem dX7_part_35 : decode cX7_part 35 = .ok (.dreturn, 1) := by decide +kernel
theorem dX7_part_36 : decode cX7_part 36 = .ok (.iload_n 2, 1) := by decide +kernel
theorem dX7_part_37 : decode cX7_part 37 = .ok (.iconst 3, 1) := by decide +kernel
theorem dX7_part_38 : decode cX7_part 38 = .ok (.if_icmp .ne 22, 3) := by decide +kernel
theorem dX7_part_41 : decode cX7_part 41 = .ok (.aload_n 0, 1) := by decide +kernel
theorem dX7_part_42 : decode cX7_part 42 = .ok (.getfield 16, 3) := by decide +kernel
theorem dX7_part_45 : decode cX7_part 45 = .ok (.iload_n 1, 1) := by decide +kernel
theorem dX7_part_46 : decode cX7_part 46 = .ok (.invokeinterface 55 2, 5) := by decide +kernel
theorem dX7_part_51 : decode cX7_part 51 = .ok (.checkcast 59, 3) := by decide +kernel
theorem dX7_part_54 : decode cX7_part 54 = .ok (.invokevirtual 183, 3) := by decide +kernel
theorem dX7_part_57 : decode cX7_part 57 = .ok (.goto 20, 3) := by decide +kernel
theorem dX7_part_60 : decode cX7_part 60 = .ok (.aload_n 0, 1) := by decide +kernel
theorem dX7_part_61 : decode cX7_part 61 = .ok (.getfield 16, 3) := by decide +kernel
theorem dX7_part_64 : decode cX7_part 64 = .ok (.iload_n 1, 1) := by decide +kernel
theorem dX7_part_65 : decode cX7_part 65 = .ok (.invokeinterface 55 2, 5) := by decide +kernel
theorem dX7_part_70 : decode cX7_part 70 = .ok (.checkcast 59, 3) := by decide +kernel
theorem dX7_part_73 : decode cX7_part 73 = .ok (.iload_n 2, 1) := by decide +kernel
theorem dX7_part_74 : decode cX7_part 74 = .ok (.invokevirtual 187, 3) := by decide +kernel
theorem dX7_part_77 : decode cX7_part 77 = .ok (.dreturn, 1) := by decide +kernel
set_option maxRecDepth 20000 in
theorem ggX7_ice_X7_isMix : GoodIn wsX7_ice wsX7_isMix := goodIn_r _ [8, 2, 9, 10, 11, 12, 13, 14, 15, 16, 7, 17, 68, 69, 70, 71, 72, 73, 74, 75, 76, 77, 78, 79] (by decide +kernel) (by decide +kernel)
set_option maxRecDepth 20000 in
theorem gX7_ice_X7_isMix : GoodIn wsX7_ice (wsV RX7 86 RX7 yX7_isMix wsX7_isMix) := goodIn_app (goodIn_of _ (by decide +kernel)) ggX7_ice_X7_isMix
set_option maxRecDepth 20000 in
theorem ggX7_ice_X7_no : GoodIn wsX7_ice wsX7_no := goodIn_r _ [21, 1, 68, 69, 70, 71, 72, 73, 74, 75, 76] (by decide +kernel) (by decide +kernel)
set_option maxRecDepth 20000 in
theorem gX7_ice_X7_no : GoodIn wsX7_ice (wsV RX7 69 RX7 yX7_no wsX7_no) := goodIn_app (goodIn_of _ (by decide +kernel)) ggX7_ice_X7_no
set_option maxRecDepth 20000 in
theorem ggX7_ice_X7_in : GoodIn wsX7_ice wsX7_in := goodIn_r _ [17] (by decide +kernel) (by decide +kernel)
set_option maxRecDepth 20000 in
theorem gX7_ice_X7_in : GoodIn wsX7_ice (va_wsS RX7 42 yX7_in wsX7_in) := goodIn_app (goodIn_of _ (by decide +kernel)) ggX7_ice_X7_in
set_option maxRecDepth 20000 in
theorem ggX7_ice_Jx4a65c_get_915e3 : GoodIn wsX7_ice wsJx4a65c_get_915e3 := goodIn_r _ [25, 14, 26, 27, 28, 29, 30, 31, 32, 33, 34, 35, 36, 12, 37, 38, 77, 78, 79] (by decide +kernel) (by decide +kernel)
set_option maxRecDepth 20000 in
theorem gX7_ice_Jx4a65c_get_915e3_f55Jx4a65c : GoodIn wsX7_ice (va_wsF RX7 55 RJx4a65c ⟨"java/util/List", "get", "(I)Ljava/lang/Object;"⟩ yJx4a65c_get_915e3 wsJx4a65c_get_915e3) := goodIn_app (goodIn_of _ (by decide +kernel)) ggX7_ice_Jx4a65c_get_915e3
set_option maxRecDepth 20000 in
theorem ggX7_ice_X6_ice : GoodIn wsX7_ice wsX6_ice := goodIn_r _ [43, 44, 45, 46, 42, 47, 48, 49, 50, 51, 52, 53, 54, 55, 56, 57, 58, 59, 60, 61, 62, 10, 11, 12, 13, 14, 63, 23, 24, 25, 26, 27, 28, 29, 30, 31, 32, 33, 34, 35, 36, 37, 38, 64, 65, 66, 67, 80, 81, 82, 83, 84, 68, 69, 70, 71, 72, 73, 74, 75, 76, 77, 78, 79] (by decide +kernel) (by decide +kernel)
set_option maxRecDepth 20000 in
theorem gX7_ice_X6_ice : GoodIn wsX7_ice (wsV RX7 191 RX6 yX6_ice wsX6_ice) := goodIn_app (goodIn_of _ (by decide +kernel)) ggX7_ice_X6_ice
theorem dX7_ice_0 : decode cX7_ice 0 = .ok (.aload_n 0, 1) := by decide +kernel
theorem dX7_ice_1 : decode cX7_ice 1 = .ok (.iconst 0, 1) := by decide +kernel
theorem dX7_ice_2 : decode cX7_ice 2 = .ok (.putfield 32, 3) := by decide +kernel
theorem dX7_ice_5 : decode cX7_ice 5 = .ok (.aload_n 0, 1) := by decide +kernel
theorem dX7_ice_6 : decode cX7_ice 6 = .ok (.iload_n 1, 1) := by decide +kernel
theorem dX7_ice_7 : decode cX7_ice 7 = .ok (.invokevirtual 86, 3) := by decide +kernel
theorem dX7_ice_10 : decode cX7_ice 10 = .ok (.ifCond .ne 10, 3) := by decide +kernel
theorem dX7_ice_13 : decode cX7_ice 13 = .ok (.aload_n 0, 1) := by decide +kernel
theorem dX7_ice_14 : decode cX7_ice 14 = .ok (.iconst 1, 1) := by decide +kernel
theorem dX7_ice_15 : decode cX7_ice 15 = .ok (.invokevirtual 69, 3) := by decide +kernel
theorem dX7_ice_18 : decode cX7_ice 18 = .ok (.i2d, 1) := by decide +kernel
theorem dX7_ice_19 : decode cX7_ice 19 = .ok (.dreturn, 1) := by decide +kernel
theorem dX7_ice_20 : decode cX7_ice 20 = .ok (.iload_n 2, 1) := by decide +kernel
theorem dX7_ice_21 : decode cX7_ice 21 = .ok (.bipush (-40), 2) := by decide +kernel
theorem dX7_ice_23 : decode cX7_ice 23 = .ok (.bipush 20, 2) := by decide +kernel
theorem dX7_ice_25 : decode cX7_ice 25 = .ok (.invokestatic 42, 3) := by decide +kernel
theorem dX7_ice_28 : decode cX7_ice 28 = .ok (.ifCond .ne 10, 3) := by decide +kernel
theorem dX7_ice_31 : decode cX7_ice 31 = .ok (.aload_n 0, 1) := by decide +kernel
theorem dX7_ice_32 : decode cX7_ice 32 = .ok (.iconst 2, 1) := by decide +kernel
theorem dX7_ice_33 : decode cX7_ice 33 = .ok (.invokevirtual 69, 3) := by decide +kernel
theorem dX7_ice_36 : decode cX7_ice 36 = .ok (.i2d, 1) := by decide +kernel
theorem dX7_ice_37 : decode cX7_ice 37 = .ok (.dreturn, 1) := by decide +kernel
theorem dX7_ice_38 : decode cX7_ice 38 = .ok (.aload_n 0, 1) := by decide +kernel
theorem dX7_ice_39 : decode cX7_ice 39 = .ok (.getfield 16, 3) := by decide +kernel
theorem dX7_ice_42 : decode cX7_ice 42 = .ok (.iload_n 1, 1) := by decide +kernel
theorem dX7_ice_43 : decode cX7_ice 43 = .ok (.invokeinterface 55 2, 5) := by decide +kernel
theorem dX7_ice_48 : decode cX7_ice 48 = .ok (.checkcast 59, 3) := by decide +kernel
theorem dX7_ice_51 : decode cX7_ice 51 = .ok (.iload_n 2, 1) := by decide +kernel
theorem dX7_ice_52 : decode cX7_ice 52 = .ok (.i2d, 1) := by decide +kernel
theorem dX7_ice_53 : decode cX7_ice 53 = .ok (.invokevirtual 191, 3) := by decide +kernel
theorem dX7_ice_56 : decode cX7_ice 56 = .ok (.dreturn, 1) := by decide +kernel
set_option maxRecDepth 20000 in
theorem ggX7_bars_X7_canAsk : GoodIn wsX7_bars wsX7_canAsk := goodIn_r _ [7, 8, 9, 10, 6, 11, 12, 13, 14, 15, 1, 16, 17, 18, 19, 20, 21, 77, 78, 79, 80, 81, 82, 83, 84, 85, 86, 87, 88] (by decide +kernel) (by decide +kernel)
set_option maxRecDepth 20000 in
theorem gX7_bars_X7_canAsk : GoodIn wsX7_bars (wsV RX7 112 RX7 yX7_canAsk wsX7_canAsk) := goodIn_app (goodIn_of _ (by decide +kernel)) ggX7_bars_X7_canAsk
set_option maxRecDepth 20000 in
theorem ggX7_bars_Jx4a65c_get_915e3 : GoodIn wsX7_bars wsJx4a65c_get_915e3 := goodIn_r _ [25, 21, 26, 27, 28, 29, 30, 31, 32, 33, 34, 35, 36, 19, 37, 38, 86, 87, 88] (by decide +kernel) (by decide +kernel)
set_option maxRecDepth 20000 in
theorem gX7_bars_Jx4a65c_get_915e3_f55Jx4a65c : GoodIn wsX7_bars (va_wsF RX7 55 RJx4a65c ⟨"java/util/List", "get", "(I)Ljava/lang/Object;"⟩ yJx4a65c_get_915e3 wsJx4a65c_get_915e3) := goodIn_app (goodIn_of _ (by decide +kernel)) ggX7_bars_Jx4a65c_get_915e3
set_option maxRecDepth 20000 in
theorem ggX7_bars_X7_barsNow : GoodIn wsX7_bars wsX7_barsNow := goodIn_r _ [42, 43, 44, 45, 46, 47, 48, 9, 10, 6, 11, 49, 50, 51, 52, 53, 54, 55, 56, 57, 17, 18, 19, 20, 21, 58, 23, 24, 25, 26, 27, 28, 29, 30, 31, 32, 33, 34, 35, 36, 37, 38, 59, 60, 61, 62, 63, 64, 65, 66, 67, 68, 69, 70, 71, 72, 73, 74, 75, 76, 89, 90, 91, 92, 93, 77, 78, 79, 80, 81, 82, 83, 84, 85, 94, 95, 96, 97, 98, 99, 100, 101, 102, 103, 86, 87, 88] (by decide +kernel) (by decide +kernel)
set_option maxRecDepth 20000 in
theorem gX7_bars_X7_barsNow : GoodIn wsX7_bars (wsV RX7 116 RX7 yX7_barsNow wsX7_barsNow) := goodIn_app (goodIn_of _ (by decide +kernel)) ggX7_bars_X7_barsNow
theorem dX7_bars_0 : decode cX7_bars 0 = .ok (.aload_n 0, 1) := by decide +kernel
theorem dX7_bars_1 : decode cX7_bars 1 = .ok (.iload_n 1, 1) := by decide +kernel
theorem dX7_bars_2 : decode cX7_bars 2 = .ok (.iload_n 2, 1) := by decide +kernel
theorem dX7_bars_3 : decode cX7_bars 3 = .ok (.iload_n 3, 1) := by decide +kernel
theorem dX7_bars_4 : decode cX7_bars 4 = .ok (.iload 4, 2) := by decide +kernel
theorem dX7_bars_6 : decode cX7_bars 6 = .ok (.invokevirtual 112, 3) := by decide +kernel
theorem dX7_bars_9 : decode cX7_bars 9 = .ok (.ifCond .ne 5, 3) := by decide +kernel
theorem dX7_bars_12 : decode cX7_bars 12 = .ok (.iconst 0, 1) := by decide +kernel
theorem dX7_bars_13 : decode cX7_bars 13 = .ok (.ireturn, 1) := by decide +kernel
theorem dX7_bars_14 : decode cX7_bars 14 = .ok (.aload_n 0, 1) := by decide +kernel
theorem dX7_bars_15 : decode cX7_bars 15 = .ok (.iload_n 1, 1) := by decide +kernel
theorem dX7_bars_16 : decode cX7_bars 16 = .ok (.aload_n 0, 1) := by decide +kernel
theorem dX7_bars_17 : decode cX7_bars 17 = .ok (.getfield 16, 3) := by decide +kernel
theorem dX7_bars_20 : decode cX7_bars 20 = .ok (.iload_n 2, 1) := by decide +kernel
theorem dX7_bars_21 : decode cX7_bars 21 = .ok (.invokeinterface 55 2, 5) := by decide +kernel
theorem dX7_bars_26 : decode cX7_bars 26 = .ok (.checkcast 59, 3) := by decide +kernel
theorem dX7_bars_29 : decode cX7_bars 29 = .ok (.iload_n 3, 1) := by decide +kernel
theorem dX7_bars_30 : decode cX7_bars 30 = .ok (.iload 4, 2) := by decide +kernel
theorem dX7_bars_32 : decode cX7_bars 32 = .ok (.invokevirtual 116, 3) := by decide +kernel
theorem dX7_bars_35 : decode cX7_bars 35 = .ok (.ireturn, 1) := by decide +kernel
set_option maxRecDepth 20000 in
theorem ggX7_batchNow_X5_isCoarse : GoodIn wsX7_batchNow wsX5_isCoarse := goodIn_r _ [11, 12, 13, 56, 57, 58, 59, 60, 61, 62, 63, 64, 65] (by decide +kernel) (by decide +kernel)
set_option maxRecDepth 20000 in
theorem gX7_batchNow_X5_isCoarse : GoodIn wsX7_batchNow (wsV RX7 165 RX5 yX5_isCoarse wsX5_isCoarse) := goodIn_app (goodIn_of _ (by decide +kernel)) ggX7_batchNow_X5_isCoarse
set_option maxRecDepth 20000 in
theorem ggX7_batchNow_X7_isCalled : GoodIn wsX7_batchNow wsX7_isCalled := goodIn_r _ [18, 19, 2, 3, 20, 21, 22, 23, 24, 25, 26, 27, 28, 29, 30, 31, 32, 33, 34, 35, 36, 37, 38, 39, 40, 41, 42, 43, 44, 45, 46, 47, 48, 49, 50, 51, 52, 53, 54, 55, 56, 57, 58, 59, 60, 61, 62, 63, 64, 65, 66, 67, 68, 69, 70, 71, 72, 73] (by decide +kernel) (by decide +kernel)
set_option maxRecDepth 20000 in
theorem gX7_batchNow_X7_isCalled : GoodIn wsX7_batchNow (wsV RX7 168 RX7 yX7_isCalled wsX7_isCalled) := goodIn_app (goodIn_of _ (by decide +kernel)) ggX7_batchNow_X7_isCalled
theorem dX7_batchNow_0 : decode cX7_batchNow 0 = .ok (.bipush 6, 2) := by decide +kernel
theorem dX7_batchNow_2 : decode cX7_batchNow 2 = .ok (.newarray .int, 2) := by decide +kernel
theorem dX7_batchNow_4 : decode cX7_batchNow 4 = .ok (.dup, 1) := by decide +kernel
theorem dX7_batchNow_5 : decode cX7_batchNow 5 = .ok (.iconst 0, 1) := by decide +kernel
theorem dX7_batchNow_6 : decode cX7_batchNow 6 = .ok (.aload_n 0, 1) := by decide +kernel
theorem dX7_batchNow_7 : decode cX7_batchNow 7 = .ok (.getfield 24, 3) := by decide +kernel
theorem dX7_batchNow_10 : decode cX7_batchNow 10 = .ok (.getfield 52, 3) := by decide +kernel
theorem dX7_batchNow_13 : decode cX7_batchNow 13 = .ok (.iload_n 1, 1) := by decide +kernel
theorem dX7_batchNow_14 : decode cX7_batchNow 14 = .ok (.iaload, 1) := by decide +kernel
theorem dX7_batchNow_15 : decode cX7_batchNow 15 = .ok (.iastore, 1) := by decide +kernel
theorem dX7_batchNow_16 : decode cX7_batchNow 16 = .ok (.dup, 1) := by decide +kernel
theorem dX7_batchNow_17 : decode cX7_batchNow 17 = .ok (.iconst 1, 1) := by decide +kernel
theorem dX7_batchNow_18 : decode cX7_batchNow 18 = .ok (.aload_n 0, 1) := by decide +kernel
theorem dX7_batchNow_19 : decode cX7_batchNow 19 = .ok (.getfield 24, 3) := by decide +kernel
theorem dX7_batchNow_22 : decode cX7_batchNow 22 = .ok (.getfield 120, 3) := by decide +kernel
theorem dX7_batchNow_25 : decode cX7_batchNow 25 = .ok (.iload_n 1, 1) := by decide +kernel
theorem dX7_batchNow_26 : decode cX7_batchNow 26 = .ok (.iaload, 1) := by decide +kernel
theorem dX7_batchNow_27 : decode cX7_batchNow 27 = .ok (.iastore, 1) := by decide +kernel
theorem dX7_batchNow_28 : decode cX7_batchNow 28 = .ok (.dup, 1) := by decide +kernel
theorem dX7_batchNow_29 : decode cX7_batchNow 29 = .ok (.iconst 2, 1) := by decide +kernel
theorem dX7_batchNow_30 : decode cX7_batchNow 30 = .ok (.aload_n 0, 1) := by decide +kernel
theorem dX7_batchNow_31 : decode cX7_batchNow 31 = .ok (.getfield 24, 3) := by decide +kernel
theorem dX7_batchNow_34 : decode cX7_batchNow 34 = .ok (.getfield 138, 3) := by decide +kernel
theorem dX7_batchNow_37 : decode cX7_batchNow 37 = .ok (.iload_n 1, 1) := by decide +kernel
theorem dX7_batchNow_38 : decode cX7_batchNow 38 = .ok (.baload, 1) := by decide +kernel
theorem dX7_batchNow_39 : decode cX7_batchNow 39 = .ok (.ifCond .eq 7, 3) := by decide +kernel
theorem dX7_batchNow_42 : decode cX7_batchNow 42 = .ok (.iconst 1, 1) := by decide +kernel
theorem dX7_batchNow_43 : decode cX7_batchNow 43 = .ok (.goto 4, 3) := by decide +kernel
theorem dX7_batchNow_46 : decode cX7_batchNow 46 = .ok (.iconst 0, 1) := by decide +kernel
theorem dX7_batchNow_47 : decode cX7_batchNow 47 = .ok (.iastore, 1) := by decide +kernel
theorem dX7_batchNow_48 : decode cX7_batchNow 48 = .ok (.dup, 1) := by decide +kernel
theorem dX7_batchNow_49 : decode cX7_batchNow 49 = .ok (.iconst 3, 1) := by decide +kernel
theorem dX7_batchNow_50 : decode cX7_batchNow 50 = .ok (.aload_n 0, 1) := by decide +kernel
theorem dX7_batchNow_51 : decode cX7_batchNow 51 = .ok (.getfield 24, 3) := by decide +kernel
theorem dX7_batchNow_54 : decode cX7_batchNow 54 = .ok (.getfield 123, 3) := by decide +kernel
theorem dX7_batchNow_57 : decode cX7_batchNow 57 = .ok (.iload_n 1, 1) := by decide +kernel
theorem dX7_batchNow_58 : decode cX7_batchNow 58 = .ok (.iaload, 1) := by decide +kernel
theorem dX7_batchNow_59 : decode cX7_batchNow 59 = .ok (.iastore, 1) := by decide +kernel
theorem dX7_batchNow_60 : decode cX7_batchNow 60 = .ok (.dup, 1) := by decide +kernel
theorem dX7_batchNow_61 : decode cX7_batchNow 61 = .ok (.iconst 4, 1) := by decide +kernel
theorem dX7_batchNow_62 : decode cX7_batchNow 62 = .ok (.aload_n 0, 1) := by decide +kernel
theorem dX7_batchNow_63 : decode cX7_batchNow 63 = .ok (.getfield 24, 3) := by decide +kernel
theorem dX7_batchNow_66 : decode cX7_batchNow 66 = .ok (.iload_n 1, 1) := by decide +kernel
theorem dX7_batchNow_67 : decode cX7_batchNow 67 = .ok (.invokevirtual 165, 3) := by decide +kernel
theorem dX7_batchNow_70 : decode cX7_batchNow 70 = .ok (.ifCond .eq 7, 3) := by decide +kernel
theorem dX7_batchNow_73 : decode cX7_batchNow 73 = .ok (.iconst 1, 1) := by decide +kernel
theorem dX7_batchNow_74 : decode cX7_batchNow 74 = .ok (.goto 4, 3) := by decide +kernel
theorem dX7_batchNow_77 : decode cX7_batchNow 77 = .ok (.iconst 0, 1) := by decide +kernel
theorem dX7_batchNow_78 : decode cX7_batchNow 78 = .ok (.iastore, 1) := by decide +kernel
theorem dX7_batchNow_79 : decode cX7_batchNow 79 = .ok (.dup, 1) := by decide +kernel
theorem dX7_batchNow_80 : decode cX7_batchNow 80 = .ok (.iconst 5, 1) := by decide +kernel
theorem dX7_batchNow_81 : decode cX7_batchNow 81 = .ok (.aload_n 0, 1) := by decide +kernel
theorem dX7_batchNow_82 : decode cX7_batchNow 82 = .ok (.iload_n 1, 1) := by decide +kernel
theorem dX7_batchNow_83 : decode cX7_batchNow 83 = .ok (.invokevirtual 168, 3) := by decide +kernel
theorem dX7_batchNow_86 : decode cX7_batchNow 86 = .ok (.ifCond .eq 7, 3) := by decide +kernel
theorem dX7_batchNow_89 : decode cX7_batchNow 89 = .ok (.iconst 1, 1) := by decide +kernel
theorem dX7_batchNow_90 : decode cX7_batchNow 90 = .ok (.goto 4, 3) := by decide +kernel
theorem dX7_batchNow_93 : decode cX7_batchNow 93 = .ok (.iconst 0, 1) := by decide +kernel
theorem dX7_batchNow_94 : decode cX7_batchNow 94 = .ok (.iastore, 1) := by decide +kernel
theorem dX7_batchNow_95 : decode cX7_batchNow 95 = .ok (.astore_n 3, 1) := by decide +kernel
theorem dX7_batchNow_96 : decode cX7_batchNow 96 = .ok (.aload_n 3, 1) := by decide +kernel
theorem dX7_batchNow_97 : decode cX7_batchNow 97 = .ok (.iload_n 2, 1) := by decide +kernel
theorem dX7_batchNow_98 : decode cX7_batchNow 98 = .ok (.iaload, 1) := by decide +kernel
theorem dX7_batchNow_99 : decode cX7_batchNow 99 = .ok (.ireturn, 1) := by decide +kernel
set_option maxRecDepth 20000 in
theorem ggX7_ofBatch_X7_isBatch : GoodIn wsX7_ofBatch wsX7_isBatch := goodIn_r _ [6, 7, 8, 9, 10, 5, 11, 64, 65, 66, 67, 68, 69, 70, 71, 72, 73, 74, 75, 76, 77, 78, 79, 80, 81, 82] (by decide +kernel) (by decide +kernel)
set_option maxRecDepth 20000 in
theorem gX7_ofBatch_X7_isBatch : GoodIn wsX7_ofBatch (wsV RX7 135 RX7 yX7_isBatch wsX7_isBatch) := goodIn_app (goodIn_of _ (by decide +kernel)) ggX7_ofBatch_X7_isBatch
set_option maxRecDepth 20000 in
theorem ggX7_ofBatch_X7_no : GoodIn wsX7_ofBatch wsX7_no := goodIn_r _ [15, 1, 64, 65, 66, 67, 68, 69, 70, 71, 72] (by decide +kernel) (by decide +kernel)
set_option maxRecDepth 20000 in
theorem gX7_ofBatch_X7_no : GoodIn wsX7_ofBatch (wsV RX7 69 RX7 yX7_no wsX7_no) := goodIn_app (goodIn_of _ (by decide +kernel)) ggX7_ofBatch_X7_no
set_option maxRecDepth 20000 in
theorem ggX7_ofBatch_X7_in : GoodIn wsX7_ofBatch wsX7_in := goodIn_r _ [11] (by decide +kernel) (by decide +kernel)
set_option maxRecDepth 20000 in
theorem gX7_ofBatch_X7_in : GoodIn wsX7_ofBatch (va_wsS RX7 42 yX7_in wsX7_in) := goodIn_app (goodIn_of _ (by decide +kernel)) ggX7_ofBatch_X7_in
set_option maxRecDepth 20000 in
theorem ggX7_ofBatch_X7_batchNow : GoodIn wsX7_ofBatch wsX7_batchNow := goodIn_r _ [19, 20, 7, 21, 22, 23, 24, 25, 26, 27, 28, 29, 30, 31, 32, 33, 34, 5, 35, 36, 37, 38, 39, 40, 41, 42, 43, 44, 45, 46, 47, 48, 49, 50, 51, 52, 53, 54, 55, 56, 57, 58, 59, 60, 61, 62, 63, 64, 65, 66, 67, 68, 69, 70, 71, 72, 73, 74, 75, 76, 77, 78, 79, 80, 81, 82, 83, 84, 85, 86, 87, 88, 89, 90] (by decide +kernel) (by decide +kernel)
set_option maxRecDepth 20000 in
theorem gX7_ofBatch_X7_batchNow : GoodIn wsX7_ofBatch (wsV RX7 195 RX7 yX7_batchNow wsX7_batchNow) := goodIn_app (goodIn_of _ (by decide +kernel)) ggX7_ofBatch_X7_batchNow
theorem dX7_ofBatch_0 : decode cX7_ofBatch 0 = .ok (.aload_n 0, 1) := by decide +kernel
theorem dX7_ofBatch_1 : decode cX7_ofBatch 1 = .ok (.iconst 0, 1) := by decide +kernel
theorem dX7_ofBatch_2 : decode cX7_ofBatch 2 = .ok (.putfield 32, 3) := by decide +kernel
theorem dX7_ofBatch_5 : decode cX7_ofBatch 5 = .ok (.aload_n 0, 1) := by decide +kernel
theorem dX7_ofBatch_6 : decode cX7_ofBatch 6 = .ok (.iload_n 1, 1) := by decide +kernel
theorem dX7_ofBatch_7 : decode cX7_ofBatch 7 = .ok (.invokevirtual 135, 3) := by decide +kernel
theorem dX7_ofBatch_10 : decode cX7_ofBatch 10 = .ok (.ifCond .ne 9, 3) := by decide +kernel
theorem dX7_ofBatch_13 : decode cX7_ofBatch 13 = .ok (.aload_n 0, 1) := by decide +kernel
theorem dX7_ofBatch_14 : decode cX7_ofBatch 14 = .ok (.iconst 1, 1) := by decide +kernel
theorem dX7_ofBatch_15 : decode cX7_ofBatch 15 = .ok (.invokevirtual 69, 3) := by decide +kernel
theorem dX7_ofBatch_18 : decode cX7_ofBatch 18 = .ok (.ireturn, 1) := by decide +kernel
theorem dX7_ofBatch_19 : decode cX7_ofBatch 19 = .ok (.iload_n 2, 1) := by decide +kernel
theorem dX7_ofBatch_20 : decode cX7_ofBatch 20 = .ok (.iconst 0, 1) := by decide +kernel
theorem dX7_ofBatch_21 : decode cX7_ofBatch 21 = .ok (.iconst 5, 1) := by decide +kernel
theorem dX7_ofBatch_22 : decode cX7_ofBatch 22 = .ok (.invokestatic 42, 3) := by decide +kernel
theorem dX7_ofBatch_25 : decode cX7_ofBatch 25 = .ok (.ifCond .ne 9, 3) := by decide +kernel
theorem dX7_ofBatch_28 : decode cX7_ofBatch 28 = .ok (.aload_n 0, 1) := by decide +kernel
theorem dX7_ofBatch_29 : decode cX7_ofBatch 29 = .ok (.iconst 2, 1) := by decide +kernel
theorem dX7_ofBatch_30 : decode cX7_ofBatch 30 = .ok (.invokevirtual 69, 3) := by decide +kernel
theorem dX7_ofBatch_33 : decode cX7_ofBatch 33 = .ok (.ireturn, 1) := by decide +kernel
theorem dX7_ofBatch_34 : decode cX7_ofBatch 34 = .ok (.aload_n 0, 1) := by decide +kernel
theorem dX7_ofBatch_35 : decode cX7_ofBatch 35 = .ok (.iload_n 1, 1) := by decide +kernel
theorem dX7_ofBatch_36 : decode cX7_ofBatch 36 = .ok (.iload_n 2, 1) := by decide +kernel
theorem dX7_ofBatch_37 : decode cX7_ofBatch 37 = .ok (.invokevirtual 195, 3) := by decide +kernel
theorem dX7_ofBatch_40 : decode cX7_ofBatch 40 = .ok (.ireturn, 1) := by decide +kernel
set_option maxRecDepth 20000 in
theorem ggX7_crystal_X7_isBatch : GoodIn wsX7_crystal wsX7_isBatch := goodIn_r _ [8, 2, 9, 10, 11, 7, 12, 17, 18, 19, 20, 21, 22, 23, 24, 25, 26, 27, 28, 29, 30, 31, 32, 33, 34, 35] (by decide +kernel) (by decide +kernel)
set_option maxRecDepth 20000 in
theorem gX7_crystal_X7_isBatch : GoodIn wsX7_crystal (wsV RX7 135 RX7 yX7_isBatch wsX7_isBatch) := goodIn_app (goodIn_of _ (by decide +kernel)) ggX7_crystal_X7_isBatch
set_option maxRecDepth 20000 in
theorem ggX7_crystal_X7_no : GoodIn wsX7_crystal wsX7_no := goodIn_r _ [16, 1, 17, 18, 19, 20, 21, 22, 23, 24, 25] (by decide +kernel) (by decide +kernel)
set_option maxRecDepth 20000 in
theorem gX7_crystal_X7_no : GoodIn wsX7_crystal (wsV RX7 69 RX7 yX7_no wsX7_no) := goodIn_app (goodIn_of _ (by decide +kernel)) ggX7_crystal_X7_no
theorem dX7_crystal_0 : decode cX7_crystal 0 = .ok (.aload_n 0, 1) := by decide +kernel
theorem dX7_crystal_1 : decode cX7_crystal 1 = .ok (.iconst 0, 1) := by decide +kernel
theorem dX7_crystal_2 : decode cX7_crystal 2 = .ok (.putfield 32, 3) := by decide +kernel
theorem dX7_crystal_5 : decode cX7_crystal 5 = .ok (.aload_n 0, 1) := by decide +kernel
theorem dX7_crystal_6 : decode cX7_crystal 6 = .ok (.iload_n 1, 1) := by decide +kernel
theorem dX7_crystal_7 : decode cX7_crystal 7 = .ok (.invokevirtual 135, 3) := by decide +kernel
theorem dX7_crystal_10 : decode cX7_crystal 10 = .ok (.ifCond .ne 10, 3) := by decide +kernel
theorem dX7_crystal_13 : decode cX7_crystal 13 = .ok (.aload_n 0, 1) := by decide +kernel
theorem dX7_crystal_14 : decode cX7_crystal 14 = .ok (.iconst 1, 1) := by decide +kernel
theorem dX7_crystal_15 : decode cX7_crystal 15 = .ok (.invokevirtual 69, 3) := by decide +kernel
theorem dX7_crystal_18 : decode cX7_crystal 18 = .ok (.i2d, 1) := by decide +kernel
theorem dX7_crystal_19 : decode cX7_crystal 19 = .ok (.dreturn, 1) := by decide +kernel
theorem dX7_crystal_20 : decode cX7_crystal 20 = .ok (.aload_n 0, 1) := by decide +kernel
theorem dX7_crystal_21 : decode cX7_crystal 21 = .ok (.getfield 24, 3) := by decide +kernel
theorem dX7_crystal_24 : decode cX7_crystal 24 = .ok (.getfield 126, 3) := by decide +kernel
theorem dX7_crystal_27 : decode cX7_crystal 27 = .ok (.iload_n 1, 1) := by decide +kernel
theorem dX7_crystal_28 : decode cX7_crystal 28 = .ok (.daload, 1) := by decide +kernel
theorem dX7_crystal_29 : decode cX7_crystal 29 = .ok (.dreturn, 1) := by decide +kernel
set_option maxRecDepth 20000 in
theorem ggX7_temp_X7_isStore : GoodIn wsX7_temp wsX7_isStore := goodIn_r _ [8, 2, 9, 10, 11, 7, 12, 17, 18, 19, 20, 21, 22, 23, 24, 25, 26, 27, 28, 29, 30, 31, 32, 33, 34, 35] (by decide +kernel) (by decide +kernel)
set_option maxRecDepth 20000 in
theorem gX7_temp_X7_isStore : GoodIn wsX7_temp (wsV RX7 149 RX7 yX7_isStore wsX7_isStore) := goodIn_app (goodIn_of _ (by decide +kernel)) ggX7_temp_X7_isStore
set_option maxRecDepth 20000 in
theorem ggX7_temp_X7_no : GoodIn wsX7_temp wsX7_no := goodIn_r _ [16, 1, 17, 18, 19, 20, 21, 22, 23, 24, 25] (by decide +kernel) (by decide +kernel)
set_option maxRecDepth 20000 in
theorem gX7_temp_X7_no : GoodIn wsX7_temp (wsV RX7 69 RX7 yX7_no wsX7_no) := goodIn_app (goodIn_of _ (by decide +kernel)) ggX7_temp_X7_no
theorem dX7_temp_0 : decode cX7_temp 0 = .ok (.aload_n 0, 1) := by decide +kernel
theorem dX7_temp_1 : decode cX7_temp 1 = .ok (.iconst 0, 1) := by decide +kernel
theorem dX7_temp_2 : decode cX7_temp 2 = .ok (.putfield 32, 3) := by decide +kernel
theorem dX7_temp_5 : decode cX7_temp 5 = .ok (.aload_n 0, 1) := by decide +kernel
theorem dX7_temp_6 : decode cX7_temp 6 = .ok (.iload_n 1, 1) := by decide +kernel
theorem dX7_temp_7 : decode cX7_temp 7 = .ok (.invokevirtual 149, 3) := by decide +kernel
theorem dX7_temp_10 : decode cX7_temp 10 = .ok (.ifCond .ne 10, 3) := by decide +kernel
theorem dX7_temp_13 : decode cX7_temp 13 = .ok (.aload_n 0, 1) := by decide +kernel
theorem dX7_temp_14 : decode cX7_temp 14 = .ok (.iconst 1, 1) := by decide +kernel
theorem dX7_temp_15 : decode cX7_temp 15 = .ok (.invokevirtual 69, 3) := by decide +kernel
theorem dX7_temp_18 : decode cX7_temp 18 = .ok (.i2d, 1) := by decide +kernel
theorem dX7_temp_19 : decode cX7_temp 19 = .ok (.dreturn, 1) := by decide +kernel
theorem dX7_temp_20 : decode cX7_temp 20 = .ok (.aload_n 0, 1) := by decide +kernel
theorem dX7_temp_21 : decode cX7_temp 21 = .ok (.getfield 24, 3) := by decide +kernel
theorem dX7_temp_24 : decode cX7_temp 24 = .ok (.getfield 146, 3) := by decide +kernel
theorem dX7_temp_27 : decode cX7_temp 27 = .ok (.iload_n 1, 1) := by decide +kernel
theorem dX7_temp_28 : decode cX7_temp 28 = .ok (.daload, 1) := by decide +kernel
theorem dX7_temp_29 : decode cX7_temp 29 = .ok (.dreturn, 1) := by decide +kernel
set_option maxRecDepth 20000 in
theorem ggX7_manyNow_Jx4a65c_size_8abf5 : GoodIn wsX7_manyNow wsJx4a65c_size_8abf5 := goodIn_r _ [16, 17, 44, 45, 46] (by decide +kernel) (by decide +kernel)
set_option maxRecDepth 20000 in
theorem gX7_manyNow_Jx4a65c_size_8abf5_f36Jx4a65c : GoodIn wsX7_manyNow (va_wsF RX7 36 RJx4a65c ⟨"java/util/List", "size", "()I"⟩ yJx4a65c_size_8abf5 wsJx4a65c_size_8abf5) := goodIn_app (goodIn_of _ (by decide +kernel)) ggX7_manyNow_Jx4a65c_size_8abf5
set_option maxRecDepth 20000 in
theorem ggX7_manyNow_X5_count : GoodIn wsX7_manyNow wsX5_count := goodIn_r _ [22, 23, 24, 34, 35, 36, 37, 38, 39, 40, 41, 42, 43] (by decide +kernel) (by decide +kernel)
set_option maxRecDepth 20000 in
theorem gX7_manyNow_X5_count : GoodIn wsX7_manyNow (wsV RX7 152 RX5 yX5_count wsX5_count) := goodIn_app (goodIn_of _ (by decide +kernel)) ggX7_manyNow_X5_count
theorem dX7_manyNow_0 : decode cX7_manyNow 0 = .ok (.bipush 12, 2) := by decide +kernel
theorem dX7_manyNow_2 : decode cX7_manyNow 2 = .ok (.newarray .int, 2) := by decide +kernel
theorem dX7_manyNow_4 : decode cX7_manyNow 4 = .ok (.dup, 1) := by decide +kernel
theorem dX7_manyNow_5 : decode cX7_manyNow 5 = .ok (.iconst 0, 1) := by decide +kernel
theorem dX7_manyNow_6 : decode cX7_manyNow 6 = .ok (.aload_n 0, 1) := by decide +kernel
theorem dX7_manyNow_7 : decode cX7_manyNow 7 = .ok (.getfield 10, 3) := by decide +kernel
theorem dX7_manyNow_10 : decode cX7_manyNow 10 = .ok (.invokeinterface 36 1, 5) := by decide +kernel
theorem dX7_manyNow_15 : decode cX7_manyNow 15 = .ok (.iastore, 1) := by decide +kernel
theorem dX7_manyNow_16 : decode cX7_manyNow 16 = .ok (.dup, 1) := by decide +kernel
theorem dX7_manyNow_17 : decode cX7_manyNow 17 = .ok (.iconst 1, 1) := by decide +kernel
theorem dX7_manyNow_18 : decode cX7_manyNow 18 = .ok (.aload_n 0, 1) := by decide +kernel
theorem dX7_manyNow_19 : decode cX7_manyNow 19 = .ok (.getfield 16, 3) := by decide +kernel
theorem dX7_manyNow_22 : decode cX7_manyNow 22 = .ok (.invokeinterface 36 1, 5) := by decide +kernel
theorem dX7_manyNow_27 : decode cX7_manyNow 27 = .ok (.iastore, 1) := by decide +kernel
theorem dX7_manyNow_28 : decode cX7_manyNow 28 = .ok (.dup, 1) := by decide +kernel
theorem dX7_manyNow_29 : decode cX7_manyNow 29 = .ok (.iconst 2, 1) := by decide +kernel
theorem dX7_manyNow_30 : decode cX7_manyNow 30 = .ok (.aload_n 0, 1) := by decide +kernel
theorem dX7_manyNow_31 : decode cX7_manyNow 31 = .ok (.getfield 24, 3) := by decide +kernel
theorem dX7_manyNow_34 : decode cX7_manyNow 34 = .ok (.getfield 46, 3) := by decide +kernel
theorem dX7_manyNow_37 : decode cX7_manyNow 37 = .ok (.iastore, 1) := by decide +kernel
theorem dX7_manyNow_38 : decode cX7_manyNow 38 = .ok (.dup, 1) := by decide +kernel
theorem dX7_manyNow_39 : decode cX7_manyNow 39 = .ok (.iconst 3, 1) := by decide +kernel
theorem dX7_manyNow_40 : decode cX7_manyNow 40 = .ok (.aload_n 0, 1) := by decide +kernel
theorem dX7_manyNow_41 : decode cX7_manyNow 41 = .ok (.getfield 24, 3) := by decide +kernel
theorem dX7_manyNow_44 : decode cX7_manyNow 44 = .ok (.bipush 11, 2) := by decide +kernel
theorem dX7_manyNow_46 : decode cX7_manyNow 46 = .ok (.invokevirtual 152, 3) := by decide +kernel
theorem dX7_manyNow_49 : decode cX7_manyNow 49 = .ok (.iastore, 1) := by decide +kernel
theorem dX7_manyNow_50 : decode cX7_manyNow 50 = .ok (.dup, 1) := by decide +kernel
theorem dX7_manyNow_51 : decode cX7_manyNow 51 = .ok (.iconst 4, 1) := by decide +kernel
theorem dX7_manyNow_52 : decode cX7_manyNow 52 = .ok (.aload_n 0, 1) := by decide +kernel
theorem dX7_manyNow_53 : decode cX7_manyNow 53 = .ok (.getfield 24, 3) := by decide +kernel
theorem dX7_manyNow_56 : decode cX7_manyNow 56 = .ok (.bipush 10, 2) := by decide +kernel
theorem dX7_manyNow_58 : decode cX7_manyNow 58 = .ok (.invokevirtual 152, 3) := by decide +kernel
theorem dX7_manyNow_61 : decode cX7_manyNow 61 = .ok (.iastore, 1) := by decide +kernel
theorem dX7_manyNow_62 : decode cX7_manyNow 62 = .ok (.dup, 1) := by decide +kernel
theorem dX7_manyNow_63 : decode cX7_manyNow 63 = .ok (.iconst 5, 1) := by decide +kernel
theorem dX7_manyNow_64 : decode cX7_manyNow 64 = .ok (.aload_n 0, 1) := by decide +kernel
theorem dX7_manyNow_65 : decode cX7_manyNow 65 = .ok (.getfield 24, 3) := by decide +kernel
theorem dX7_manyNow_68 : decode cX7_manyNow 68 = .ok (.getfield 49, 3) := by decide +kernel
theorem dX7_manyNow_71 : decode cX7_manyNow 71 = .ok (.iastore, 1) := by decide +kernel
theorem dX7_manyNow_72 : decode cX7_manyNow 72 = .ok (.dup, 1) := by decide +kernel
theorem dX7_manyNow_73 : decode cX7_manyNow 73 = .ok (.bipush 6, 2) := by decide +kernel
theorem dX7_manyNow_75 : decode cX7_manyNow 75 = .ok (.aload_n 0, 1) := by decide +kernel
theorem dX7_manyNow_76 : decode cX7_manyNow 76 = .ok (.getfield 162, 3) := by decide +kernel
theorem dX7_manyNow_79 : decode cX7_manyNow 79 = .ok (.iastore, 1) := by decide +kernel
theorem dX7_manyNow_80 : decode cX7_manyNow 80 = .ok (.dup, 1) := by decide +kernel
theorem dX7_manyNow_81 : decode cX7_manyNow 81 = .ok (.bipush 7, 2) := by decide +kernel
theorem dX7_manyNow_83 : decode cX7_manyNow 83 = .ok (.aload_n 0, 1) := by decide +kernel
theorem dX7_manyNow_84 : decode cX7_manyNow 84 = .ok (.getfield 171, 3) := by decide +kernel
theorem dX7_manyNow_87 : decode cX7_manyNow 87 = .ok (.iastore, 1) := by decide +kernel
theorem dX7_manyNow_88 : decode cX7_manyNow 88 = .ok (.dup, 1) := by decide +kernel
theorem dX7_manyNow_89 : decode cX7_manyNow 89 = .ok (.bipush 8, 2) := by decide +kernel
theorem dX7_manyNow_91 : decode cX7_manyNow 91 = .ok (.aload_n 0, 1) := by decide +kernel
theorem dX7_manyNow_92 : decode cX7_manyNow 92 = .ok (.getfield 28, 3) := by decide +kernel
theorem dX7_manyNow_95 : decode cX7_manyNow 95 = .ok (.iconst 0, 1) := by decide +kernel
theorem dX7_manyNow_96 : decode cX7_manyNow 96 = .ok (.iaload, 1) := by decide +kernel
theorem dX7_manyNow_97 : decode cX7_manyNow 97 = .ok (.iastore, 1) := by decide +kernel
theorem dX7_manyNow_98 : decode cX7_manyNow 98 = .ok (.dup, 1) := by decide +kernel
theorem dX7_manyNow_99 : decode cX7_manyNow 99 = .ok (.bipush 9, 2) := by decide +kernel
theorem dX7_manyNow_101 : decode cX7_manyNow 101 = .ok (.aload_n 0, 1) := by decide +kernel
theorem dX7_manyNow_102 : decode cX7_manyNow 102 = .ok (.getfield 28, 3) := by decide +kernel
theorem dX7_manyNow_105 : decode cX7_manyNow 105 = .ok (.iconst 1, 1) := by decide +kernel
theorem dX7_manyNow_106 : decode cX7_manyNow 106 = .ok (.iaload, 1) := by decide +kernel
theorem dX7_manyNow_107 : decode cX7_manyNow 107 = .ok (.iastore, 1) := by decide +kernel
theorem dX7_manyNow_108 : decode cX7_manyNow 108 = .ok (.dup, 1) := by decide +kernel
theorem dX7_manyNow_109 : decode cX7_manyNow 109 = .ok (.bipush 10, 2) := by decide +kernel
theorem dX7_manyNow_111 : decode cX7_manyNow 111 = .ok (.aload_n 0, 1) := by decide +kernel
theorem dX7_manyNow_112 : decode cX7_manyNow 112 = .ok (.getfield 132, 3) := by decide +kernel
theorem dX7_manyNow_115 : decode cX7_manyNow 115 = .ok (.iastore, 1) := by decide +kernel
theorem dX7_manyNow_116 : decode cX7_manyNow 116 = .ok (.dup, 1) := by decide +kernel
theorem dX7_manyNow_117 : decode cX7_manyNow 117 = .ok (.bipush 11, 2) := by decide +kernel
theorem dX7_manyNow_119 : decode cX7_manyNow 119 = .ok (.aload_n 0, 1) := by decide +kernel
theorem dX7_manyNow_120 : decode cX7_manyNow 120 = .ok (.getfield 64, 3) := by decide +kernel
theorem dX7_manyNow_123 : decode cX7_manyNow 123 = .ok (.iastore, 1) := by decide +kernel
theorem dX7_manyNow_124 : decode cX7_manyNow 124 = .ok (.astore_n 2, 1) := by decide +kernel
theorem dX7_manyNow_125 : decode cX7_manyNow 125 = .ok (.aload_n 2, 1) := by decide +kernel
theorem dX7_manyNow_126 : decode cX7_manyNow 126 = .ok (.iload_n 1, 1) := by decide +kernel
theorem dX7_manyNow_127 : decode cX7_manyNow 127 = .ok (.iaload, 1) := by decide +kernel
theorem dX7_manyNow_128 : decode cX7_manyNow 128 = .ok (.ireturn, 1) := by decide +kernel
set_option maxRecDepth 20000 in
theorem ggX7_many_X7_in : GoodIn wsX7_many wsX7_in := goodIn_r _ [5] (by decide +kernel) (by decide +kernel)
set_option maxRecDepth 20000 in
theorem gX7_many_X7_in : GoodIn wsX7_many (va_wsS RX7 42 yX7_in wsX7_in) := goodIn_app (goodIn_of _ (by decide +kernel)) ggX7_many_X7_in
set_option maxRecDepth 20000 in
theorem ggX7_many_X7_no : GoodIn wsX7_many wsX7_no := goodIn_r _ [9, 1, 38, 39, 40, 41, 42, 43, 44, 45, 46] (by decide +kernel) (by decide +kernel)
set_option maxRecDepth 20000 in
theorem gX7_many_X7_no : GoodIn wsX7_many (wsV RX7 69 RX7 yX7_no wsX7_no) := goodIn_app (goodIn_of _ (by decide +kernel)) ggX7_many_X7_no
set_option maxRecDepth 20000 in
theorem ggX7_many_X7_manyNow : GoodIn wsX7_many wsX7_manyNow := goodIn_r _ [13, 14, 15, 16, 17, 18, 19, 20, 21, 22, 23, 24, 25, 26, 27, 28, 29, 30, 31, 32, 33, 34, 35, 36, 37, 38, 39, 40, 41, 42, 43, 44, 45, 46, 47, 48, 49, 50, 51, 52, 53, 54, 55, 56, 57, 58, 59] (by decide +kernel) (by decide +kernel)
set_option maxRecDepth 20000 in
theorem gX7_many_X7_manyNow : GoodIn wsX7_many (wsV RX7 198 RX7 yX7_manyNow wsX7_manyNow) := goodIn_app (goodIn_of _ (by decide +kernel)) ggX7_many_X7_manyNow
theorem dX7_many_0 : decode cX7_many 0 = .ok (.aload_n 0, 1) := by decide +kernel
theorem dX7_many_1 : decode cX7_many 1 = .ok (.iconst 0, 1) := by decide +kernel
theorem dX7_many_2 : decode cX7_many 2 = .ok (.putfield 32, 3) := by decide +kernel
theorem dX7_many_5 : decode cX7_many 5 = .ok (.iload_n 1, 1) := by decide +kernel
theorem dX7_many_6 : decode cX7_many 6 = .ok (.iconst 0, 1) := by decide +kernel
theorem dX7_many_7 : decode cX7_many 7 = .ok (.bipush 11, 2) := by decide +kernel
theorem dX7_many_9 : decode cX7_many 9 = .ok (.invokestatic 42, 3) := by decide +kernel
theorem dX7_many_12 : decode cX7_many 12 = .ok (.ifCond .ne 9, 3) := by decide +kernel
theorem dX7_many_15 : decode cX7_many 15 = .ok (.aload_n 0, 1) := by decide +kernel
theorem dX7_many_16 : decode cX7_many 16 = .ok (.iconst 1, 1) := by decide +kernel
theorem dX7_many_17 : decode cX7_many 17 = .ok (.invokevirtual 69, 3) := by decide +kernel
theorem dX7_many_20 : decode cX7_many 20 = .ok (.ireturn, 1) := by decide +kernel
theorem dX7_many_21 : decode cX7_many 21 = .ok (.aload_n 0, 1) := by decide +kernel
theorem dX7_many_22 : decode cX7_many 22 = .ok (.iload_n 1, 1) := by decide +kernel
theorem dX7_many_23 : decode cX7_many 23 = .ok (.invokevirtual 198, 3) := by decide +kernel
theorem dX7_many_26 : decode cX7_many 26 = .ok (.ireturn, 1) := by decide +kernel
theorem dX7_isOrder_0 : decode cX7_isOrder 0 = .ok (.iconst 0, 1) := by decide +kernel
theorem dX7_isOrder_1 : decode cX7_isOrder 1 = .ok (.istore_n 2, 1) := by decide +kernel
theorem dX7_isOrder_2 : decode cX7_isOrder 2 = .ok (.iload_n 0, 1) := by decide +kernel
theorem dX7_isOrder_3 : decode cX7_isOrder 3 = .ok (.istore_n 3, 1) := by decide +kernel
theorem dX7_isOrder_4 : decode cX7_isOrder 4 = .ok (.iload_n 3, 1) := by decide +kernel
theorem dX7_isOrder_5 : decode cX7_isOrder 5 = .ok (.ifCond .le 52, 3) := by decide +kernel
theorem dX7_isOrder_8 : decode cX7_isOrder 8 = .ok (.iload_n 3, 1) := by decide +kernel
theorem dX7_isOrder_9 : decode cX7_isOrder 9 = .ok (.bipush 10, 2) := by decide +kernel
theorem dX7_isOrder_11 : decode cX7_isOrder 11 = .ok (.irem, 1) := by decide +kernel
theorem dX7_isOrder_12 : decode cX7_isOrder 12 = .ok (.iconst 1, 1) := by decide +kernel
theorem dX7_isOrder_13 : decode cX7_isOrder 13 = .ok (.isub, 1) := by decide +kernel
theorem dX7_isOrder_14 : decode cX7_isOrder 14 = .ok (.istore 4, 2) := by decide +kernel
theorem dX7_isOrder_16 : decode cX7_isOrder 16 = .ok (.iload 4, 2) := by decide +kernel
theorem dX7_isOrder_18 : decode cX7_isOrder 18 = .ok (.ifCond .lt 22, 3) := by decide +kernel
theorem dX7_isOrder_21 : decode cX7_isOrder 21 = .ok (.iload_n 1, 1) := by decide +kernel
theorem dX7_isOrder_22 : decode cX7_isOrder 22 = .ok (.iload 4, 2) := by decide +kernel
theorem dX7_isOrder_24 : decode cX7_isOrder 24 = .ok (.ishr, 1) := by decide +kernel
theorem dX7_isOrder_25 : decode cX7_isOrder 25 = .ok (.iconst 1, 1) := by decide +kernel
theorem dX7_isOrder_26 : decode cX7_isOrder 26 = .ok (.iand, 1) := by decide +kernel
theorem dX7_isOrder_27 : decode cX7_isOrder 27 = .ok (.ifCond .eq 13, 3) := by decide +kernel
theorem dX7_isOrder_30 : decode cX7_isOrder 30 = .ok (.iload_n 2, 1) := by decide +kernel
theorem dX7_isOrder_31 : decode cX7_isOrder 31 = .ok (.iload 4, 2) := by decide +kernel
theorem dX7_isOrder_33 : decode cX7_isOrder 33 = .ok (.ishr, 1) := by decide +kernel
theorem dX7_isOrder_34 : decode cX7_isOrder 34 = .ok (.iconst 1, 1) := by decide +kernel
theorem dX7_isOrder_35 : decode cX7_isOrder 35 = .ok (.iand, 1) := by decide +kernel
theorem dX7_isOrder_36 : decode cX7_isOrder 36 = .ok (.iconst 1, 1) := by decide +kernel
theorem dX7_isOrder_37 : decode cX7_isOrder 37 = .ok (.if_icmp .ne 5, 3) := by decide +kernel
theorem dX7_isOrder_40 : decode cX7_isOrder 40 = .ok (.iconst 0, 1) := by decide +kernel
theorem dX7_isOrder_41 : decode cX7_isOrder 41 = .ok (.ireturn, 1) := by decide +kernel
theorem dX7_isOrder_42 : decode cX7_isOrder 42 = .ok (.iload_n 2, 1) := by decide +kernel
theorem dX7_isOrder_43 : decode cX7_isOrder 43 = .ok (.iconst 1, 1) := by decide +kernel
theorem dX7_isOrder_44 : decode cX7_isOrder 44 = .ok (.iload 4, 2) := by decide +kernel
theorem dX7_isOrder_46 : decode cX7_isOrder 46 = .ok (.ishl, 1) := by decide +kernel
theorem dX7_isOrder_47 : decode cX7_isOrder 47 = .ok (.ior, 1) := by decide +kernel
theorem dX7_isOrder_48 : decode cX7_isOrder 48 = .ok (.istore_n 2, 1) := by decide +kernel
theorem dX7_isOrder_49 : decode cX7_isOrder 49 = .ok (.iload_n 3, 1) := by decide +kernel
theorem dX7_isOrder_50 : decode cX7_isOrder 50 = .ok (.bipush 10, 2) := by decide +kernel
theorem dX7_isOrder_52 : decode cX7_isOrder 52 = .ok (.idiv, 1) := by decide +kernel
theorem dX7_isOrder_53 : decode cX7_isOrder 53 = .ok (.istore_n 3, 1) := by decide +kernel
theorem dX7_isOrder_54 : decode cX7_isOrder 54 = .ok (.goto (-50), 3) := by decide +kernel
theorem dX7_isOrder_57 : decode cX7_isOrder 57 = .ok (.iload_n 2, 1) := by decide +kernel
theorem dX7_isOrder_58 : decode cX7_isOrder 58 = .ok (.iload_n 1, 1) := by decide +kernel
theorem dX7_isOrder_59 : decode cX7_isOrder 59 = .ok (.if_icmp .ne 7, 3) := by decide +kernel
theorem dX7_isOrder_62 : decode cX7_isOrder 62 = .ok (.iconst 1, 1) := by decide +kernel
theorem dX7_isOrder_63 : decode cX7_isOrder 63 = .ok (.goto 4, 3) := by decide +kernel
theorem dX7_isOrder_66 : decode cX7_isOrder 66 = .ok (.iconst 0, 1) := by decide +kernel
theorem dX7_isOrder_67 : decode cX7_isOrder 67 = .ok (.ireturn, 1) := by decide +kernel
set_option maxRecDepth 20000 in
theorem ggX7_washesOf_Jx4a65c_get_915e3 : GoodIn wsX7_washesOf wsJx4a65c_get_915e3 := goodIn_r _ [7, 8, 9, 10, 11, 12, 13, 14, 15, 16, 17, 18, 19, 6, 20, 21, 44, 45, 46] (by decide +kernel) (by decide +kernel)
set_option maxRecDepth 20000 in
theorem gX7_washesOf_Jx4a65c_get_915e3_f55Jx4a65c : GoodIn wsX7_washesOf (va_wsF RX7 55 RJx4a65c ⟨"java/util/List", "get", "(I)Ljava/lang/Object;"⟩ yJx4a65c_get_915e3 wsJx4a65c_get_915e3) := goodIn_app (goodIn_of _ (by decide +kernel)) ggX7_washesOf_Jx4a65c_get_915e3
set_option maxRecDepth 20000 in
theorem ggX7_washesOf_X6_harms : GoodIn wsX7_washesOf wsX6_harms := goodIn_r _ [26, 27, 28, 29, 30, 31, 32, 6, 33, 8, 34, 4, 5, 7, 9, 10, 11, 12, 13, 14, 15, 16, 17, 18, 19, 20, 21, 47, 48, 49, 50, 51, 35, 36, 37, 38, 39, 40, 41, 42, 43, 44, 45, 46] (by decide +kernel) (by decide +kernel)
set_option maxRecDepth 20000 in
theorem gX7_washesOf_X6_harms : GoodIn wsX7_washesOf (wsV RX7 105 RX6 yX6_harms wsX6_harms) := goodIn_app (goodIn_of _ (by decide +kernel)) ggX7_washesOf_X6_harms
theorem dX7_washesOf_0 : decode cX7_washesOf 0 = .ok (.iconst 0, 1) := by decide +kernel
theorem dX7_washesOf_1 : decode cX7_washesOf 1 = .ok (.istore_n 2, 1) := by decide +kernel
theorem dX7_washesOf_2 : decode cX7_washesOf 2 = .ok (.iload_n 1, 1) := by decide +kernel
theorem dX7_washesOf_3 : decode cX7_washesOf 3 = .ok (.istore_n 3, 1) := by decide +kernel
theorem dX7_washesOf_4 : decode cX7_washesOf 4 = .ok (.iload_n 3, 1) := by decide +kernel
theorem dX7_washesOf_5 : decode cX7_washesOf 5 = .ok (.bipush 9, 2) := by decide +kernel
theorem dX7_washesOf_7 : decode cX7_washesOf 7 = .ok (.if_icmp .le 70, 3) := by decide +kernel
theorem dX7_washesOf_10 : decode cX7_washesOf 10 = .ok (.iload_n 2, 1) := by decide +kernel
theorem dX7_washesOf_11 : decode cX7_washesOf 11 = .ok (.aload_n 0, 1) := by decide +kernel
theorem dX7_washesOf_12 : decode cX7_washesOf 12 = .ok (.getfield 16, 3) := by decide +kernel
theorem dX7_washesOf_15 : decode cX7_washesOf 15 = .ok (.iload_n 3, 1) := by decide +kernel
theorem dX7_washesOf_16 : decode cX7_washesOf 16 = .ok (.bipush 10, 2) := by decide +kernel
theorem dX7_washesOf_18 : decode cX7_washesOf 18 = .ok (.idiv, 1) := by decide +kernel
theorem dX7_washesOf_19 : decode cX7_washesOf 19 = .ok (.bipush 10, 2) := by decide +kernel
theorem dX7_washesOf_21 : decode cX7_washesOf 21 = .ok (.irem, 1) := by decide +kernel
theorem dX7_washesOf_22 : decode cX7_washesOf 22 = .ok (.iconst 1, 1) := by decide +kernel
theorem dX7_washesOf_23 : decode cX7_washesOf 23 = .ok (.isub, 1) := by decide +kernel
theorem dX7_washesOf_24 : decode cX7_washesOf 24 = .ok (.invokeinterface 55 2, 5) := by decide +kernel
theorem dX7_washesOf_29 : decode cX7_washesOf 29 = .ok (.checkcast 59, 3) := by decide +kernel
theorem dX7_washesOf_32 : decode cX7_washesOf 32 = .ok (.invokevirtual 105, 3) := by decide +kernel
theorem dX7_washesOf_35 : decode cX7_washesOf 35 = .ok (.aload_n 0, 1) := by decide +kernel
theorem dX7_washesOf_36 : decode cX7_washesOf 36 = .ok (.getfield 16, 3) := by decide +kernel
theorem dX7_washesOf_39 : decode cX7_washesOf 39 = .ok (.iload_n 3, 1) := by decide +kernel
theorem dX7_washesOf_40 : decode cX7_washesOf 40 = .ok (.bipush 10, 2) := by decide +kernel
theorem dX7_washesOf_42 : decode cX7_washesOf 42 = .ok (.irem, 1) := by decide +kernel
theorem dX7_washesOf_43 : decode cX7_washesOf 43 = .ok (.iconst 1, 1) := by decide +kernel
theorem dX7_washesOf_44 : decode cX7_washesOf 44 = .ok (.isub, 1) := by decide +kernel
theorem dX7_washesOf_45 : decode cX7_washesOf 45 = .ok (.invokeinterface 55 2, 5) := by decide +kernel
theorem dX7_washesOf_50 : decode cX7_washesOf 50 = .ok (.checkcast 59, 3) := by decide +kernel
theorem dX7_washesOf_53 : decode cX7_washesOf 53 = .ok (.invokevirtual 105, 3) := by decide +kernel
theorem dX7_washesOf_56 : decode cX7_washesOf 56 = .ok (.iconst (-1), 1) := by decide +kernel
theorem dX7_washesOf_57 : decode cX7_washesOf 57 = .ok (.ixor, 1) := by decide +kernel
theorem dX7_washesOf_58 : decode cX7_washesOf 58 = .ok (.iand, 1) := by decide +kernel
theorem dX7_washesOf_59 : decode cX7_washesOf 59 = .ok (.ifCond .ne 7, 3) := by decide +kernel
theorem dX7_washesOf_62 : decode cX7_washesOf 62 = .ok (.iconst 0, 1) := by decide +kernel
theorem dX7_washesOf_63 : decode cX7_washesOf 63 = .ok (.goto 4, 3) := by decide +kernel
theorem dX7_washesOf_66 : decode cX7_washesOf 66 = .ok (.iconst 1, 1) := by decide +kernel
theorem dX7_washesOf_67 : decode cX7_washesOf 67 = .ok (.iadd, 1) := by decide +kernel
theorem dX7_washesOf_68 : decode cX7_washesOf 68 = .ok (.istore_n 2, 1) := by decide +kernel
theorem dX7_washesOf_69 : decode cX7_washesOf 69 = .ok (.iload_n 3, 1) := by decide +kernel
theorem dX7_washesOf_70 : decode cX7_washesOf 70 = .ok (.bipush 10, 2) := by decide +kernel
theorem dX7_washesOf_72 : decode cX7_washesOf 72 = .ok (.idiv, 1) := by decide +kernel
theorem dX7_washesOf_73 : decode cX7_washesOf 73 = .ok (.istore_n 3, 1) := by decide +kernel
theorem dX7_washesOf_74 : decode cX7_washesOf 74 = .ok (.goto (-70), 3) := by decide +kernel
theorem dX7_washesOf_77 : decode cX7_washesOf 77 = .ok (.iload_n 2, 1) := by decide +kernel
theorem dX7_washesOf_78 : decode cX7_washesOf 78 = .ok (.ireturn, 1) := by decide +kernel
set_option maxRecDepth 20000 in
theorem ggX7_bestOf_X7_isOrder : GoodIn wsX7_bestOf wsX7_isOrder := goodIn_r _ [5] (by decide +kernel) (by decide +kernel)
set_option maxRecDepth 20000 in
theorem gX7_bestOf_X7_isOrder : GoodIn wsX7_bestOf (va_wsS RX7 201 yX7_isOrder wsX7_isOrder) := goodIn_app (goodIn_of _ (by decide +kernel)) ggX7_bestOf_X7_isOrder
set_option maxRecDepth 20000 in
theorem ggX7_bestOf_X7_washesOf : GoodIn wsX7_bestOf wsX7_washesOf := goodIn_r _ [9, 1, 10, 11, 12, 13, 14, 15, 16, 17, 18, 19, 20, 21, 22, 23, 24, 25, 26, 27, 28, 29, 30, 31, 32, 33, 34, 35, 36, 37, 38, 39, 40, 41, 42, 47, 48, 49, 50, 51, 52, 53, 54, 55, 56, 57, 58, 59, 60, 61, 62, 63] (by decide +kernel) (by decide +kernel)
set_option maxRecDepth 20000 in
theorem gX7_bestOf_X7_washesOf : GoodIn wsX7_bestOf (wsV RX7 205 RX7 yX7_washesOf wsX7_washesOf) := goodIn_app (goodIn_of _ (by decide +kernel)) ggX7_bestOf_X7_washesOf
set_option maxRecDepth 20000 in
theorem ggX7_bestOf_Jx4a65c_size_8abf5 : GoodIn wsX7_bestOf wsJx4a65c_size_8abf5 := goodIn_r _ [41, 16, 56, 57, 58] (by decide +kernel) (by decide +kernel)
set_option maxRecDepth 20000 in
theorem gX7_bestOf_Jx4a65c_size_8abf5_f36Jx4a65c : GoodIn wsX7_bestOf (va_wsF RX7 36 RJx4a65c ⟨"java/util/List", "size", "()I"⟩ yJx4a65c_size_8abf5 wsJx4a65c_size_8abf5) := goodIn_app (goodIn_of _ (by decide +kernel)) ggX7_bestOf_Jx4a65c_size_8abf5
set_option maxRecDepth 20000 in
theorem ggX7_bestOf_X7_bestOf : GoodIn wsX7_bestOf wsX7_bestOf := goodIn_r _ [0, 1, 2, 3, 4, 5, 6, 7, 8, 9, 10, 11, 12, 13, 14, 15, 16, 17, 18, 19, 20, 21, 22, 23, 24, 25, 26, 27, 28, 29, 30, 31, 32, 33, 34, 35, 36, 37, 38, 39, 40, 41, 42, 43, 44, 45, 46, 47, 48, 49, 50, 51, 52, 53, 54, 55, 56, 57, 58, 59, 60, 61, 62, 63] (by decide +kernel) (by decide +kernel)
set_option maxRecDepth 20000 in
theorem gX7_bestOf_X7_bestOf : GoodIn wsX7_bestOf (wsV RX7 208 RX7 yX7_bestOf wsX7_bestOf) := goodIn_app (goodIn_of _ (by decide +kernel)) ggX7_bestOf_X7_bestOf
theorem dX7_bestOf_0 : decode cX7_bestOf 0 = .ok (.iload_n 3, 1) := by decide +kernel
theorem dX7_bestOf_1 : decode cX7_bestOf 1 = .ok (.ifCond .ne 42, 3) := by decide +kernel
theorem dX7_bestOf_4 : decode cX7_bestOf 4 = .ok (.iload 4, 2) := by decide +kernel
theorem dX7_bestOf_6 : decode cX7_bestOf 6 = .ok (.ifCond .ne 11, 3) := by decide +kernel
theorem dX7_bestOf_9 : decode cX7_bestOf 9 = .ok (.iload_n 1, 1) := by decide +kernel
theorem dX7_bestOf_10 : decode cX7_bestOf 10 = .ok (.iload_n 2, 1) := by decide +kernel
theorem dX7_bestOf_11 : decode cX7_bestOf 11 = .ok (.invokestatic 201, 3) := by decide +kernel
theorem dX7_bestOf_14 : decode cX7_bestOf 14 = .ok (.ifCond .ne 22, 3) := by decide +kernel
theorem dX7_bestOf_17 : decode cX7_bestOf 17 = .ok (.iload 4, 2) := by decide +kernel
theorem dX7_bestOf_19 : decode cX7_bestOf 19 = .ok (.ifCond .le 21, 3) := by decide +kernel
theorem dX7_bestOf_22 : decode cX7_bestOf 22 = .ok (.aload_n 0, 1) := by decide +kernel
theorem dX7_bestOf_23 : decode cX7_bestOf 23 = .ok (.iload_n 1, 1) := by decide +kernel
theorem dX7_bestOf_24 : decode cX7_bestOf 24 = .ok (.invokevirtual 205, 3) := by decide +kernel
theorem dX7_bestOf_27 : decode cX7_bestOf 27 = .ok (.aload_n 0, 1) := by decide +kernel
theorem dX7_bestOf_28 : decode cX7_bestOf 28 = .ok (.iload 4, 2) := by decide +kernel
theorem dX7_bestOf_30 : decode cX7_bestOf 30 = .ok (.invokevirtual 205, 3) := by decide +kernel
theorem dX7_bestOf_33 : decode cX7_bestOf 33 = .ok (.if_icmp .ge 7, 3) := by decide +kernel
theorem dX7_bestOf_36 : decode cX7_bestOf 36 = .ok (.iload_n 1, 1) := by decide +kernel
theorem dX7_bestOf_37 : decode cX7_bestOf 37 = .ok (.goto 5, 3) := by decide +kernel
theorem dX7_bestOf_40 : decode cX7_bestOf 40 = .ok (.iload 4, 2) := by decide +kernel
theorem dX7_bestOf_42 : decode cX7_bestOf 42 = .ok (.ireturn, 1) := by decide +kernel
theorem dX7_bestOf_43 : decode cX7_bestOf 43 = .ok (.iload 4, 2) := by decide +kernel
theorem dX7_bestOf_45 : decode cX7_bestOf 45 = .ok (.istore 5, 2) := by decide +kernel
theorem dX7_bestOf_47 : decode cX7_bestOf 47 = .ok (.iconst 0, 1) := by decide +kernel
theorem dX7_bestOf_48 : decode cX7_bestOf 48 = .ok (.istore 6, 2) := by decide +kernel
theorem dX7_bestOf_50 : decode cX7_bestOf 50 = .ok (.iload 6, 2) := by decide +kernel
theorem dX7_bestOf_52 : decode cX7_bestOf 52 = .ok (.aload_n 0, 1) := by decide +kernel
theorem dX7_bestOf_53 : decode cX7_bestOf 53 = .ok (.getfield 16, 3) := by decide +kernel
theorem dX7_bestOf_56 : decode cX7_bestOf 56 = .ok (.invokeinterface 36 1, 5) := by decide +kernel
theorem dX7_bestOf_61 : decode cX7_bestOf 61 = .ok (.if_icmp .ge 45, 3) := by decide +kernel
theorem dX7_bestOf_64 : decode cX7_bestOf 64 = .ok (.iload_n 3, 1) := by decide +kernel
theorem dX7_bestOf_65 : decode cX7_bestOf 65 = .ok (.iload 6, 2) := by decide +kernel
theorem dX7_bestOf_67 : decode cX7_bestOf 67 = .ok (.ishr, 1) := by decide +kernel
theorem dX7_bestOf_68 : decode cX7_bestOf 68 = .ok (.iconst 1, 1) := by decide +kernel
theorem dX7_bestOf_69 : decode cX7_bestOf 69 = .ok (.iand, 1) := by decide +kernel
theorem dX7_bestOf_70 : decode cX7_bestOf 70 = .ok (.iconst 1, 1) := by decide +kernel
theorem dX7_bestOf_71 : decode cX7_bestOf 71 = .ok (.if_icmp .ne 29, 3) := by decide +kernel
theorem dX7_bestOf_74 : decode cX7_bestOf 74 = .ok (.aload_n 0, 1) := by decide +kernel
theorem dX7_bestOf_75 : decode cX7_bestOf 75 = .ok (.bipush 10, 2) := by decide +kernel
theorem dX7_bestOf_77 : decode cX7_bestOf 77 = .ok (.iload_n 1, 1) := by decide +kernel
theorem dX7_bestOf_78 : decode cX7_bestOf 78 = .ok (.imul, 1) := by decide +kernel
theorem dX7_bestOf_79 : decode cX7_bestOf 79 = .ok (.iload 6, 2) := by decide +kernel
theorem dX7_bestOf_81 : decode cX7_bestOf 81 = .ok (.iadd, 1) := by decide +kernel
theorem dX7_bestOf_82 : decode cX7_bestOf 82 = .ok (.iconst 1, 1) := by decide +kernel
theorem dX7_bestOf_83 : decode cX7_bestOf 83 = .ok (.iadd, 1) := by decide +kernel
theorem dX7_bestOf_84 : decode cX7_bestOf 84 = .ok (.iload_n 2, 1) := by decide +kernel
theorem dX7_bestOf_85 : decode cX7_bestOf 85 = .ok (.iload_n 3, 1) := by decide +kernel
theorem dX7_bestOf_86 : decode cX7_bestOf 86 = .ok (.iconst 1, 1) := by decide +kernel
theorem dX7_bestOf_87 : decode cX7_bestOf 87 = .ok (.iload 6, 2) := by decide +kernel
theorem dX7_bestOf_89 : decode cX7_bestOf 89 = .ok (.ishl, 1) := by decide +kernel
theorem dX7_bestOf_90 : decode cX7_bestOf 90 = .ok (.iconst (-1), 1) := by decide +kernel
theorem dX7_bestOf_91 : decode cX7_bestOf 91 = .ok (.ixor, 1) := by decide +kernel
theorem dX7_bestOf_92 : decode cX7_bestOf 92 = .ok (.iand, 1) := by decide +kernel
theorem dX7_bestOf_93 : decode cX7_bestOf 93 = .ok (.iload 5, 2) := by decide +kernel
theorem dX7_bestOf_95 : decode cX7_bestOf 95 = .ok (.invokevirtual 208, 3) := by decide +kernel
theorem dX7_bestOf_98 : decode cX7_bestOf 98 = .ok (.istore 5, 2) := by decide +kernel
theorem dX7_bestOf_100 : decode cX7_bestOf 100 = .ok (.iinc 6 1, 3) := by decide +kernel
theorem dX7_bestOf_103 : decode cX7_bestOf 103 = .ok (.goto (-53), 3) := by decide +kernel
theorem dX7_bestOf_106 : decode cX7_bestOf 106 = .ok (.iload 5, 2) := by decide +kernel
theorem dX7_bestOf_108 : decode cX7_bestOf 108 = .ok (.ireturn, 1) := by decide +kernel
set_option maxRecDepth 20000 in
theorem ggX7_dayNow_X7_bestOf : GoodIn wsX7_dayNow wsX7_bestOf := goodIn_r _ [5, 6, 7, 8, 4, 9, 10, 11, 12, 13, 14, 15, 16, 17, 18, 19, 20, 21, 22, 23, 24, 25, 26, 27, 28, 29, 30, 31, 32, 33, 34, 35, 36, 37, 38, 39, 40, 41, 42, 43, 44, 45, 46, 47, 1, 2, 3, 48, 49, 50, 51, 52, 53, 54, 55, 56, 57, 58, 59, 60, 61, 62, 63, 64] (by decide +kernel) (by decide +kernel)
set_option maxRecDepth 20000 in
theorem gX7_dayNow_X7_bestOf : GoodIn wsX7_dayNow (wsV RX7 208 RX7 yX7_bestOf wsX7_bestOf) := goodIn_app (goodIn_of _ (by decide +kernel)) ggX7_dayNow_X7_bestOf
set_option maxRecDepth 20000 in
theorem ggX7_dayNow_X7_washesOf : GoodIn wsX7_dayNow wsX7_washesOf := goodIn_r _ [13, 6, 14, 15, 16, 17, 18, 19, 20, 21, 22, 23, 24, 25, 26, 27, 28, 29, 30, 31, 32, 33, 34, 35, 36, 37, 38, 39, 40, 41, 42, 43, 44, 45, 46, 48, 49, 50, 51, 52, 53, 54, 55, 56, 57, 58, 59, 60, 61, 62, 63, 64] (by decide +kernel) (by decide +kernel)
set_option maxRecDepth 20000 in
theorem gX7_dayNow_X7_washesOf : GoodIn wsX7_dayNow (wsV RX7 205 RX7 yX7_washesOf wsX7_washesOf) := goodIn_app (goodIn_of _ (by decide +kernel)) ggX7_dayNow_X7_washesOf
theorem dX7_dayNow_0 : decode cX7_dayNow 0 = .ok (.aload_n 0, 1) := by decide +kernel
theorem dX7_dayNow_1 : decode cX7_dayNow 1 = .ok (.iconst 0, 1) := by decide +kernel
theorem dX7_dayNow_2 : decode cX7_dayNow 2 = .ok (.iload_n 1, 1) := by decide +kernel
theorem dX7_dayNow_3 : decode cX7_dayNow 3 = .ok (.iload_n 1, 1) := by decide +kernel
theorem dX7_dayNow_4 : decode cX7_dayNow 4 = .ok (.iconst 0, 1) := by decide +kernel
theorem dX7_dayNow_5 : decode cX7_dayNow 5 = .ok (.invokevirtual 208, 3) := by decide +kernel
theorem dX7_dayNow_8 : decode cX7_dayNow 8 = .ok (.istore_n 3, 1) := by decide +kernel
theorem dX7_dayNow_9 : decode cX7_dayNow 9 = .ok (.iload_n 2, 1) := by decide +kernel
theorem dX7_dayNow_10 : decode cX7_dayNow 10 = .ok (.ifCond .eq 7, 3) := by decide +kernel
theorem dX7_dayNow_13 : decode cX7_dayNow 13 = .ok (.iload_n 3, 1) := by decide +kernel
theorem dX7_dayNow_14 : decode cX7_dayNow 14 = .ok (.goto 8, 3) := by decide +kernel
theorem dX7_dayNow_17 : decode cX7_dayNow 17 = .ok (.aload_n 0, 1) := by decide +kernel
theorem dX7_dayNow_18 : decode cX7_dayNow 18 = .ok (.iload_n 3, 1) := by decide +kernel
theorem dX7_dayNow_19 : decode cX7_dayNow 19 = .ok (.invokevirtual 205, 3) := by decide +kernel
theorem dX7_dayNow_22 : decode cX7_dayNow 22 = .ok (.ireturn, 1) := by decide +kernel
set_option maxRecDepth 20000 in
theorem ggX7_day_Jx4a65c_size_8abf5 : GoodIn wsX7_day wsJx4a65c_size_8abf5 := goodIn_r _ [7, 8, 69, 70, 71] (by decide +kernel) (by decide +kernel)
set_option maxRecDepth 20000 in
theorem gX7_day_Jx4a65c_size_8abf5_f36Jx4a65c : GoodIn wsX7_day (va_wsF RX7 36 RJx4a65c ⟨"java/util/List", "size", "()I"⟩ yJx4a65c_size_8abf5 wsJx4a65c_size_8abf5) := goodIn_app (goodIn_of _ (by decide +kernel)) ggX7_day_Jx4a65c_size_8abf5
set_option maxRecDepth 20000 in
theorem ggX7_day_X7_in : GoodIn wsX7_day wsX7_in := goodIn_r _ [12] (by decide +kernel) (by decide +kernel)
set_option maxRecDepth 20000 in
theorem gX7_day_X7_in : GoodIn wsX7_day (va_wsS RX7 42 yX7_in wsX7_in) := goodIn_app (goodIn_of _ (by decide +kernel)) ggX7_day_X7_in
set_option maxRecDepth 20000 in
theorem ggX7_day_X7_no : GoodIn wsX7_day wsX7_no := goodIn_r _ [16, 1, 60, 61, 62, 63, 64, 65, 66, 67, 68] (by decide +kernel) (by decide +kernel)
set_option maxRecDepth 20000 in
theorem gX7_day_X7_no : GoodIn wsX7_day (wsV RX7 69 RX7 yX7_no wsX7_no) := goodIn_app (goodIn_of _ (by decide +kernel)) ggX7_day_X7_no
set_option maxRecDepth 20000 in
theorem ggX7_day_X7_dayNow : GoodIn wsX7_day wsX7_dayNow := goodIn_r _ [20, 21, 22, 23, 11, 24, 2, 25, 26, 27, 28, 29, 30, 31, 32, 33, 34, 35, 6, 36, 8, 37, 38, 39, 40, 41, 42, 43, 44, 45, 46, 47, 48, 49, 50, 51, 52, 53, 54, 55, 56, 57, 58, 4, 5, 7, 59, 3, 60, 61, 62, 63, 64, 65, 66, 67, 68, 69, 70, 71, 72, 73, 74, 75, 76] (by decide +kernel) (by decide +kernel)
set_option maxRecDepth 20000 in
theorem gX7_day_X7_dayNow : GoodIn wsX7_day (wsV RX7 212 RX7 yX7_dayNow wsX7_dayNow) := goodIn_app (goodIn_of _ (by decide +kernel)) ggX7_day_X7_dayNow
theorem dX7_day_0 : decode cX7_day 0 = .ok (.aload_n 0, 1) := by decide +kernel
theorem dX7_day_1 : decode cX7_day 1 = .ok (.iconst 0, 1) := by decide +kernel
theorem dX7_day_2 : decode cX7_day 2 = .ok (.putfield 32, 3) := by decide +kernel
theorem dX7_day_5 : decode cX7_day 5 = .ok (.iload_n 1, 1) := by decide +kernel
theorem dX7_day_6 : decode cX7_day 6 = .ok (.iconst 0, 1) := by decide +kernel
theorem dX7_day_7 : decode cX7_day 7 = .ok (.iconst 1, 1) := by decide +kernel
theorem dX7_day_8 : decode cX7_day 8 = .ok (.aload_n 0, 1) := by decide +kernel
theorem dX7_day_9 : decode cX7_day 9 = .ok (.getfield 16, 3) := by decide +kernel
theorem dX7_day_12 : decode cX7_day 12 = .ok (.invokeinterface 36 1, 5) := by decide +kernel
theorem dX7_day_17 : decode cX7_day 17 = .ok (.ishl, 1) := by decide +kernel
theorem dX7_day_18 : decode cX7_day 18 = .ok (.iconst 1, 1) := by decide +kernel
theorem dX7_day_19 : decode cX7_day 19 = .ok (.isub, 1) := by decide +kernel
theorem dX7_day_20 : decode cX7_day 20 = .ok (.invokestatic 42, 3) := by decide +kernel
theorem dX7_day_23 : decode cX7_day 23 = .ok (.ifCond .ne 9, 3) := by decide +kernel
theorem dX7_day_26 : decode cX7_day 26 = .ok (.aload_n 0, 1) := by decide +kernel
theorem dX7_day_27 : decode cX7_day 27 = .ok (.iconst 1, 1) := by decide +kernel
theorem dX7_day_28 : decode cX7_day 28 = .ok (.invokevirtual 69, 3) := by decide +kernel
theorem dX7_day_31 : decode cX7_day 31 = .ok (.ireturn, 1) := by decide +kernel
theorem dX7_day_32 : decode cX7_day 32 = .ok (.aload_n 0, 1) := by decide +kernel
theorem dX7_day_33 : decode cX7_day 33 = .ok (.iload_n 1, 1) := by decide +kernel
theorem dX7_day_34 : decode cX7_day 34 = .ok (.iload_n 2, 1) := by decide +kernel
theorem dX7_day_35 : decode cX7_day 35 = .ok (.invokevirtual 212, 3) := by decide +kernel
theorem dX7_day_38 : decode cX7_day 38 = .ok (.ireturn, 1) := by decide +kernel
set_option maxRecDepth 20000 in
theorem ggX7_wouldBe_X7_isBatch : GoodIn wsX7_wouldBe wsX7_isBatch := goodIn_r _ [10, 2, 11, 12, 13, 9, 14, 120, 121, 122, 123, 124, 125, 126, 127, 128, 129, 130, 131, 132, 133, 134, 135, 136, 137, 138] (by decide +kernel) (by decide +kernel)
set_option maxRecDepth 20000 in
theorem gX7_wouldBe_X7_isBatch : GoodIn wsX7_wouldBe (wsV RX7 135 RX7 yX7_isBatch wsX7_isBatch) := goodIn_app (goodIn_of _ (by decide +kernel)) ggX7_wouldBe_X7_isBatch
set_option maxRecDepth 20000 in
theorem ggX7_wouldBe_X7_no : GoodIn wsX7_wouldBe wsX7_no := goodIn_r _ [18, 1, 120, 121, 122, 123, 124, 125, 126, 127, 128] (by decide +kernel) (by decide +kernel)
set_option maxRecDepth 20000 in
theorem gX7_wouldBe_X7_no : GoodIn wsX7_wouldBe (wsV RX7 69 RX7 yX7_no wsX7_no) := goodIn_app (goodIn_of _ (by decide +kernel)) ggX7_wouldBe_X7_no
set_option maxRecDepth 20000 in
theorem ggX7_wouldBe_X7_in : GoodIn wsX7_wouldBe wsX7_in := goodIn_r _ [14] (by decide +kernel) (by decide +kernel)
set_option maxRecDepth 20000 in
theorem gX7_wouldBe_X7_in : GoodIn wsX7_wouldBe (va_wsS RX7 42 yX7_in wsX7_in) := goodIn_app (goodIn_of _ (by decide +kernel)) ggX7_wouldBe_X7_in
set_option maxRecDepth 20000 in
theorem ggX7_wouldBe_X5_copy : GoodIn wsX7_wouldBe wsX5_copy := goodIn_r _ [23, 24, 25, 22, 26, 27, 28, 29, 30, 31, 32, 33, 34, 35, 36, 37, 38, 39, 40, 41, 42, 43, 44, 45, 46, 47, 48, 129, 130, 131, 132, 133, 134, 135, 136, 137, 138] (by decide +kernel) (by decide +kernel)
set_option maxRecDepth 20000 in
theorem gX7_wouldBe_X5_copy : GoodIn wsX7_wouldBe (wsV RX7 216 RX5 yX5_copy wsX5_copy) := goodIn_app (goodIn_of _ (by decide +kernel)) ggX7_wouldBe_X5_copy
set_option maxRecDepth 20000 in
theorem ggX7_wouldBe_X5_hour : GoodIn wsX7_wouldBe wsX5_hour := goodIn_r _ [52, 27, 34, 33, 36, 38, 37, 53, 26, 28, 54, 35, 55, 56, 57, 58, 59, 60, 61, 62, 63, 64, 65, 66, 67, 68, 69, 70, 71, 72, 73, 74, 75, 76, 77, 78, 79, 80, 81, 82, 83, 84, 85, 86, 87, 88, 89, 90, 91, 92, 93, 94, 95, 96, 97, 98, 99, 100, 101, 102, 103, 104, 105, 106, 107, 108, 109, 110, 111, 112, 113, 114, 115, 116, 117, 118, 119, 129, 130, 131, 132, 133, 134, 135, 136, 137, 138, 120, 121, 122, 123, 124, 125, 126, 127, 128, 139, 140, 141, 142, 143, 144, 145, 146] (by decide +kernel) (by decide +kernel)
set_option maxRecDepth 20000 in
theorem gX7_wouldBe_X5_hour : GoodIn wsX7_wouldBe (wsV RX7 159 RX5 yX5_hour wsX5_hour) := goodIn_app (goodIn_of _ (by decide +kernel)) ggX7_wouldBe_X5_hour
theorem dX7_wouldBe_0 : decode cX7_wouldBe 0 = .ok (.aload_n 0, 1) := by decide +kernel
theorem dX7_wouldBe_1 : decode cX7_wouldBe 1 = .ok (.iconst 0, 1) := by decide +kernel
theorem dX7_wouldBe_2 : decode cX7_wouldBe 2 = .ok (.putfield 32, 3) := by decide +kernel
theorem dX7_wouldBe_5 : decode cX7_wouldBe 5 = .ok (.aload_n 0, 1) := by decide +kernel
theorem dX7_wouldBe_6 : decode cX7_wouldBe 6 = .ok (.iload_n 1, 1) := by decide +kernel
theorem dX7_wouldBe_7 : decode cX7_wouldBe 7 = .ok (.invokevirtual 135, 3) := by decide +kernel
theorem dX7_wouldBe_10 : decode cX7_wouldBe 10 = .ok (.ifCond .ne 10, 3) := by decide +kernel
theorem dX7_wouldBe_13 : decode cX7_wouldBe 13 = .ok (.aload_n 0, 1) := by decide +kernel
theorem dX7_wouldBe_14 : decode cX7_wouldBe 14 = .ok (.iconst 1, 1) := by decide +kernel
theorem dX7_wouldBe_15 : decode cX7_wouldBe 15 = .ok (.invokevirtual 69, 3) := by decide +kernel
theorem dX7_wouldBe_18 : decode cX7_wouldBe 18 = .ok (.i2d, 1) := by decide +kernel
theorem dX7_wouldBe_19 : decode cX7_wouldBe 19 = .ok (.dreturn, 1) := by decide +kernel
theorem dX7_wouldBe_20 : decode cX7_wouldBe 20 = .ok (.iload_n 2, 1) := by decide +kernel
theorem dX7_wouldBe_21 : decode cX7_wouldBe 21 = .ok (.iconst 1, 1) := by decide +kernel
theorem dX7_wouldBe_22 : decode cX7_wouldBe 22 = .ok (.bipush 48, 2) := by decide +kernel
theorem dX7_wouldBe_24 : decode cX7_wouldBe 24 = .ok (.invokestatic 42, 3) := by decide +kernel
theorem dX7_wouldBe_27 : decode cX7_wouldBe 27 = .ok (.ifCond .ne 10, 3) := by decide +kernel
theorem dX7_wouldBe_30 : decode cX7_wouldBe 30 = .ok (.aload_n 0, 1) := by decide +kernel
theorem dX7_wouldBe_31 : decode cX7_wouldBe 31 = .ok (.iconst 2, 1) := by decide +kernel
theorem dX7_wouldBe_32 : decode cX7_wouldBe 32 = .ok (.invokevirtual 69, 3) := by decide +kernel
theorem dX7_wouldBe_35 : decode cX7_wouldBe 35 = .ok (.i2d, 1) := by decide +kernel
theorem dX7_wouldBe_36 : decode cX7_wouldBe 36 = .ok (.dreturn, 1) := by decide +kernel
theorem dX7_wouldBe_37 : decode cX7_wouldBe 37 = .ok (.aload_n 0, 1) := by decide +kernel
theorem dX7_wouldBe_38 : decode cX7_wouldBe 38 = .ok (.getfield 24, 3) := by decide +kernel
theorem dX7_wouldBe_41 : decode cX7_wouldBe 41 = .ok (.invokevirtual 216, 3) := by decide +kernel
theorem dX7_wouldBe_44 : decode cX7_wouldBe 44 = .ok (.astore_n 3, 1) := by decide +kernel
theorem dX7_wouldBe_45 : decode cX7_wouldBe 45 = .ok (.iconst 0, 1) := by decide +kernel
theorem dX7_wouldBe_46 : decode cX7_wouldBe 46 = .ok (.istore 4, 2) := by decide +kernel
theorem dX7_wouldBe_48 : decode cX7_wouldBe 48 = .ok (.iload 4, 2) := by decide +kernel
theorem dX7_wouldBe_50 : decode cX7_wouldBe 50 = .ok (.iload_n 2, 1) := by decide +kernel
theorem dX7_wouldBe_51 : decode cX7_wouldBe 51 = .ok (.if_icmp .ge 13, 3) := by decide +kernel
theorem dX7_wouldBe_54 : decode cX7_wouldBe 54 = .ok (.aload_n 3, 1) := by decide +kernel
theorem dX7_wouldBe_55 : decode cX7_wouldBe 55 = .ok (.invokevirtual 159, 3) := by decide +kernel
theorem dX7_wouldBe_58 : decode cX7_wouldBe 58 = .ok (.iinc 4 1, 3) := by decide +kernel
theorem dX7_wouldBe_61 : decode cX7_wouldBe 61 = .ok (.goto (-13), 3) := by decide +kernel
theorem dX7_wouldBe_64 : decode cX7_wouldBe 64 = .ok (.aload_n 3, 1) := by decide +kernel
theorem dX7_wouldBe_65 : decode cX7_wouldBe 65 = .ok (.getfield 123, 3) := by decide +kernel
theorem dX7_wouldBe_68 : decode cX7_wouldBe 68 = .ok (.iload_n 1, 1) := by decide +kernel
theorem dX7_wouldBe_69 : decode cX7_wouldBe 69 = .ok (.iaload, 1) := by decide +kernel
theorem dX7_wouldBe_70 : decode cX7_wouldBe 70 = .ok (.bipush 10, 2) := by decide +kernel
theorem dX7_wouldBe_72 : decode cX7_wouldBe 72 = .ok (.if_icmp .lt 9, 3) := by decide +kernel
theorem dX7_wouldBe_75 : decode cX7_wouldBe 75 = .ok (.ldc2_w 220, 3) := by decide +kernel
theorem dX7_wouldBe_78 : decode cX7_wouldBe 78 = .ok (.goto 9, 3) := by decide +kernel
theorem dX7_wouldBe_81 : decode cX7_wouldBe 81 = .ok (.aload_n 3, 1) := by decide +kernel
theorem dX7_wouldBe_82 : decode cX7_wouldBe 82 = .ok (.getfield 126, 3) := by decide +kernel
theorem dX7_wouldBe_85 : decode cX7_wouldBe 85 = .ok (.iload_n 1, 1) := by decide +kernel
theorem dX7_wouldBe_86 : decode cX7_wouldBe 86 = .ok (.daload, 1) := by decide +kernel
theorem dX7_wouldBe_87 : decode cX7_wouldBe 87 = .ok (.dreturn, 1) := by decide +kernel
set_option maxRecDepth 20000 in
theorem ggX7_spoilNow_X5_copy : GoodIn wsX7_spoilNow wsX5_copy := goodIn_r _ [8, 9, 10, 7, 11, 12, 13, 14, 15, 16, 17, 18, 19, 20, 21, 22, 23, 24, 25, 26, 27, 28, 29, 30, 31, 32, 33, 129, 130, 131, 132, 133, 134, 135, 136, 137, 138] (by decide +kernel) (by decide +kernel)
set_option maxRecDepth 20000 in
theorem gX7_spoilNow_X5_copy : GoodIn wsX7_spoilNow (wsV RX7 216 RX5 yX5_copy wsX5_copy) := goodIn_app (goodIn_of _ (by decide +kernel)) ggX7_spoilNow_X5_copy
set_option maxRecDepth 20000 in
theorem ggX7_spoilNow_X5_open : GoodIn wsX7_spoilNow wsX5_open := goodIn_r _ [37, 23, 38, 39, 40, 41, 42, 43, 44, 45, 46, 47, 48, 129, 130, 131, 132, 133, 134, 135, 136, 137, 138] (by decide +kernel) (by decide +kernel)
set_option maxRecDepth 20000 in
theorem gX7_spoilNow_X5_open : GoodIn wsX7_spoilNow (wsV RX7 155 RX5 yX5_open wsX5_open) := goodIn_app (goodIn_of _ (by decide +kernel)) ggX7_spoilNow_X5_open
set_option maxRecDepth 20000 in
theorem ggX7_spoilNow_X5_hour : GoodIn wsX7_spoilNow wsX5_hour := goodIn_r _ [52, 12, 19, 18, 21, 23, 22, 53, 11, 13, 54, 20, 55, 56, 57, 58, 59, 60, 61, 62, 63, 64, 65, 66, 67, 68, 69, 70, 71, 72, 73, 74, 75, 76, 77, 78, 79, 80, 81, 82, 83, 84, 85, 86, 87, 88, 89, 90, 91, 92, 93, 94, 95, 96, 97, 98, 99, 100, 101, 102, 103, 104, 105, 106, 107, 108, 42, 109, 44, 45, 46, 47, 110, 111, 112, 113, 114, 129, 130, 131, 132, 133, 134, 135, 136, 137, 138, 120, 121, 122, 123, 124, 125, 126, 127, 128, 139, 140, 141, 142, 143, 144, 145, 146] (by decide +kernel) (by decide +kernel)
set_option maxRecDepth 20000 in
theorem gX7_spoilNow_X5_hour : GoodIn wsX7_spoilNow (wsV RX7 159 RX5 yX5_hour wsX5_hour) := goodIn_app (goodIn_of _ (by decide +kernel)) ggX7_spoilNow_X5_hour
set_option maxRecDepth 20000 in
theorem ggX7_spoilNow_X5_isCoarse : GoodIn wsX7_spoilNow wsX5_isCoarse := goodIn_r _ [118, 20, 119, 129, 130, 131, 132, 133, 134, 135, 136, 137, 138] (by decide +kernel) (by decide +kernel)
set_option maxRecDepth 20000 in
theorem gX7_spoilNow_X5_isCoarse : GoodIn wsX7_spoilNow (wsV RX7 165 RX5 yX5_isCoarse wsX5_isCoarse) := goodIn_app (goodIn_of _ (by decide +kernel)) ggX7_spoilNow_X5_isCoarse
theorem dX7_spoilNow_0 : decode cX7_spoilNow 0 = .ok (.aload_n 0, 1) := by decide +kernel
theorem dX7_spoilNow_1 : decode cX7_spoilNow 1 = .ok (.getfield 24, 3) := by decide +kernel
theorem dX7_spoilNow_4 : decode cX7_spoilNow 4 = .ok (.invokevirtual 216, 3) := by decide +kernel
theorem dX7_spoilNow_7 : decode cX7_spoilNow 7 = .ok (.astore_n 3, 1) := by decide +kernel
theorem dX7_spoilNow_8 : decode cX7_spoilNow 8 = .ok (.aload_n 3, 1) := by decide +kernel
theorem dX7_spoilNow_9 : decode cX7_spoilNow 9 = .ok (.iload_n 1, 1) := by decide +kernel
theorem dX7_spoilNow_10 : decode cX7_spoilNow 10 = .ok (.iload_n 2, 1) := by decide +kernel
theorem dX7_spoilNow_11 : decode cX7_spoilNow 11 = .ok (.invokevirtual 155, 3) := by decide +kernel
theorem dX7_spoilNow_14 : decode cX7_spoilNow 14 = .ok (.iconst 0, 1) := by decide +kernel
theorem dX7_spoilNow_15 : decode cX7_spoilNow 15 = .ok (.istore 4, 2) := by decide +kernel
theorem dX7_spoilNow_17 : decode cX7_spoilNow 17 = .ok (.iload 4, 2) := by decide +kernel
theorem dX7_spoilNow_19 : decode cX7_spoilNow 19 = .ok (.bipush 24, 2) := by decide +kernel
theorem dX7_spoilNow_21 : decode cX7_spoilNow 21 = .ok (.if_icmp .ge 13, 3) := by decide +kernel
theorem dX7_spoilNow_24 : decode cX7_spoilNow 24 = .ok (.aload_n 3, 1) := by decide +kernel
theorem dX7_spoilNow_25 : decode cX7_spoilNow 25 = .ok (.invokevirtual 159, 3) := by decide +kernel
theorem dX7_spoilNow_28 : decode cX7_spoilNow 28 = .ok (.iinc 4 1, 3) := by decide +kernel
theorem dX7_spoilNow_31 : decode cX7_spoilNow 31 = .ok (.goto (-14), 3) := by decide +kernel
theorem dX7_spoilNow_34 : decode cX7_spoilNow 34 = .ok (.iconst 0, 1) := by decide +kernel
theorem dX7_spoilNow_35 : decode cX7_spoilNow 35 = .ok (.istore 4, 2) := by decide +kernel
theorem dX7_spoilNow_37 : decode cX7_spoilNow 37 = .ok (.iconst 0, 1) := by decide +kernel
theorem dX7_spoilNow_38 : decode cX7_spoilNow 38 = .ok (.istore 5, 2) := by decide +kernel
theorem dX7_spoilNow_40 : decode cX7_spoilNow 40 = .ok (.iload 5, 2) := by decide +kernel
theorem dX7_spoilNow_42 : decode cX7_spoilNow 42 = .ok (.aload_n 0, 1) := by decide +kernel
theorem dX7_spoilNow_43 : decode cX7_spoilNow 43 = .ok (.getfield 24, 3) := by decide +kernel
theorem dX7_spoilNow_46 : decode cX7_spoilNow 46 = .ok (.getfield 46, 3) := by decide +kernel
theorem dX7_spoilNow_49 : decode cX7_spoilNow 49 = .ok (.if_icmp .ge 66, 3) := by decide +kernel
theorem dX7_spoilNow_52 : decode cX7_spoilNow 52 = .ok (.iload 4, 2) := by decide +kernel
theorem dX7_spoilNow_54 : decode cX7_spoilNow 54 = .ok (.aload_n 0, 1) := by decide +kernel
theorem dX7_spoilNow_55 : decode cX7_spoilNow 55 = .ok (.getfield 24, 3) := by decide +kernel
theorem dX7_spoilNow_58 : decode cX7_spoilNow 58 = .ok (.getfield 123, 3) := by decide +kernel
theorem dX7_spoilNow_61 : decode cX7_spoilNow 61 = .ok (.iload 5, 2) := by decide +kernel
theorem dX7_spoilNow_63 : decode cX7_spoilNow 63 = .ok (.iaload, 1) := by decide +kernel
theorem dX7_spoilNow_64 : decode cX7_spoilNow 64 = .ok (.iload_n 1, 1) := by decide +kernel
theorem dX7_spoilNow_65 : decode cX7_spoilNow 65 = .ok (.if_icmp .ne 40, 3) := by decide +kernel
theorem dX7_spoilNow_68 : decode cX7_spoilNow 68 = .ok (.aload_n 0, 1) := by decide +kernel
theorem dX7_spoilNow_69 : decode cX7_spoilNow 69 = .ok (.getfield 24, 3) := by decide +kernel
theorem dX7_spoilNow_72 : decode cX7_spoilNow 72 = .ok (.iload 5, 2) := by decide +kernel
theorem dX7_spoilNow_74 : decode cX7_spoilNow 74 = .ok (.invokevirtual 165, 3) := by decide +kernel
theorem dX7_spoilNow_77 : decode cX7_spoilNow 77 = .ok (.ifCond .ne 28, 3) := by decide +kernel
theorem dX7_spoilNow_80 : decode cX7_spoilNow 80 = .ok (.aload_n 3, 1) := by decide +kernel
theorem dX7_spoilNow_81 : decode cX7_spoilNow 81 = .ok (.getfield 123, 3) := by decide +kernel
theorem dX7_spoilNow_84 : decode cX7_spoilNow 84 = .ok (.iload 5, 2) := by decide +kernel
theorem dX7_spoilNow_86 : decode cX7_spoilNow 86 = .ok (.iaload, 1) := by decide +kernel
theorem dX7_spoilNow_87 : decode cX7_spoilNow 87 = .ok (.bipush 11, 2) := by decide +kernel
theorem dX7_spoilNow_89 : decode cX7_spoilNow 89 = .ok (.if_icmp .eq 12, 3) := by decide +kernel
theorem dX7_spoilNow_92 : decode cX7_spoilNow 92 = .ok (.aload_n 3, 1) := by decide +kernel
theorem dX7_spoilNow_93 : decode cX7_spoilNow 93 = .ok (.iload 5, 2) := by decide +kernel
theorem dX7_spoilNow_95 : decode cX7_spoilNow 95 = .ok (.invokevirtual 165, 3) := by decide +kernel
theorem dX7_spoilNow_98 : decode cX7_spoilNow 98 = .ok (.ifCond .eq 7, 3) := by decide +kernel
theorem dX7_spoilNow_101 : decode cX7_spoilNow 101 = .ok (.iconst 1, 1) := by decide +kernel
theorem dX7_spoilNow_102 : decode cX7_spoilNow 102 = .ok (.goto 4, 3) := by decide +kernel
theorem dX7_spoilNow_105 : decode cX7_spoilNow 105 = .ok (.iconst 0, 1) := by decide +kernel
theorem dX7_spoilNow_106 : decode cX7_spoilNow 106 = .ok (.iadd, 1) := by decide +kernel
theorem dX7_spoilNow_107 : decode cX7_spoilNow 107 = .ok (.istore 4, 2) := by decide +kernel
theorem dX7_spoilNow_109 : decode cX7_spoilNow 109 = .ok (.iinc 5 1, 3) := by decide +kernel
theorem dX7_spoilNow_112 : decode cX7_spoilNow 112 = .ok (.goto (-72), 3) := by decide +kernel
theorem dX7_spoilNow_115 : decode cX7_spoilNow 115 = .ok (.iload 4, 2) := by decide +kernel
theorem dX7_spoilNow_117 : decode cX7_spoilNow 117 = .ok (.ireturn, 1) := by decide +kernel
set_option maxRecDepth 20000 in
theorem ggX7_wouldSpoil_X7_isStore : GoodIn wsX7_wouldSpoil wsX7_isStore := goodIn_r _ [6, 7, 8, 9, 10, 5, 11, 138, 139, 140, 141, 142, 143, 144, 145, 146, 147, 148, 149, 150, 151, 152, 153, 154, 155, 156] (by decide +kernel) (by decide +kernel)
set_option maxRecDepth 20000 in
theorem gX7_wouldSpoil_X7_isStore : GoodIn wsX7_wouldSpoil (wsV RX7 149 RX7 yX7_isStore wsX7_isStore) := goodIn_app (goodIn_of _ (by decide +kernel)) ggX7_wouldSpoil_X7_isStore
set_option maxRecDepth 20000 in
theorem ggX7_wouldSpoil_X7_no : GoodIn wsX7_wouldSpoil wsX7_no := goodIn_r _ [15, 1, 138, 139, 140, 141, 142, 143, 144, 145, 146] (by decide +kernel) (by decide +kernel)
set_option maxRecDepth 20000 in
theorem gX7_wouldSpoil_X7_no : GoodIn wsX7_wouldSpoil (wsV RX7 69 RX7 yX7_no wsX7_no) := goodIn_app (goodIn_of _ (by decide +kernel)) ggX7_wouldSpoil_X7_no
set_option maxRecDepth 20000 in
theorem ggX7_wouldSpoil_X7_in : GoodIn wsX7_wouldSpoil wsX7_in := goodIn_r _ [11] (by decide +kernel) (by decide +kernel)
set_option maxRecDepth 20000 in
theorem gX7_wouldSpoil_X7_in : GoodIn wsX7_wouldSpoil (va_wsS RX7 42 yX7_in wsX7_in) := goodIn_app (goodIn_of _ (by decide +kernel)) ggX7_wouldSpoil_X7_in
set_option maxRecDepth 20000 in
theorem ggX7_wouldSpoil_X7_spoilNow : GoodIn wsX7_wouldSpoil wsX7_spoilNow := goodIn_r _ [19, 7, 20, 21, 22, 23, 24, 25, 26, 27, 28, 29, 30, 31, 32, 33, 34, 35, 36, 37, 38, 39, 40, 41, 42, 43, 44, 45, 46, 47, 48, 49, 50, 51, 52, 53, 54, 55, 56, 57, 58, 59, 60, 61, 62, 63, 64, 65, 66, 67, 68, 69, 70, 71, 72, 73, 74, 75, 76, 77, 78, 79, 80, 81, 82, 83, 84, 85, 86, 87, 88, 89, 90, 91, 92, 93, 94, 95, 96, 97, 98, 99, 100, 101, 102, 103, 104, 105, 106, 107, 108, 109, 110, 111, 112, 113, 114, 115, 116, 117, 118, 119, 120, 121, 122, 123, 124, 125, 126, 127, 128, 129, 130, 131, 132, 133, 134, 135, 136, 137, 138, 139, 140, 141, 142, 143, 144, 145, 146, 147, 148, 149, 150, 151, 152, 153, 154, 155, 156, 157, 158, 159, 160, 161, 162, 163, 164] (by decide +kernel) (by decide +kernel)
set_option maxRecDepth 20000 in
theorem gX7_wouldSpoil_X7_spoilNow : GoodIn wsX7_wouldSpoil (wsV RX7 222 RX7 yX7_spoilNow wsX7_spoilNow) := goodIn_app (goodIn_of _ (by decide +kernel)) ggX7_wouldSpoil_X7_spoilNow
theorem dX7_wouldSpoil_0 : decode cX7_wouldSpoil 0 = .ok (.aload_n 0, 1) := by decide +kernel
theorem dX7_wouldSpoil_1 : decode cX7_wouldSpoil 1 = .ok (.iconst 0, 1) := by decide +kernel
theorem dX7_wouldSpoil_2 : decode cX7_wouldSpoil 2 = .ok (.putfield 32, 3) := by decide +kernel
theorem dX7_wouldSpoil_5 : decode cX7_wouldSpoil 5 = .ok (.aload_n 0, 1) := by decide +kernel
theorem dX7_wouldSpoil_6 : decode cX7_wouldSpoil 6 = .ok (.iload_n 1, 1) := by decide +kernel
theorem dX7_wouldSpoil_7 : decode cX7_wouldSpoil 7 = .ok (.invokevirtual 149, 3) := by decide +kernel
theorem dX7_wouldSpoil_10 : decode cX7_wouldSpoil 10 = .ok (.ifCond .ne 9, 3) := by decide +kernel
theorem dX7_wouldSpoil_13 : decode cX7_wouldSpoil 13 = .ok (.aload_n 0, 1) := by decide +kernel
theorem dX7_wouldSpoil_14 : decode cX7_wouldSpoil 14 = .ok (.iconst 1, 1) := by decide +kernel
theorem dX7_wouldSpoil_15 : decode cX7_wouldSpoil 15 = .ok (.invokevirtual 69, 3) := by decide +kernel
theorem dX7_wouldSpoil_18 : decode cX7_wouldSpoil 18 = .ok (.ireturn, 1) := by decide +kernel
theorem dX7_wouldSpoil_19 : decode cX7_wouldSpoil 19 = .ok (.iload_n 2, 1) := by decide +kernel
theorem dX7_wouldSpoil_20 : decode cX7_wouldSpoil 20 = .ok (.iconst 0, 1) := by decide +kernel
theorem dX7_wouldSpoil_21 : decode cX7_wouldSpoil 21 = .ok (.bipush 20, 2) := by decide +kernel
theorem dX7_wouldSpoil_23 : decode cX7_wouldSpoil 23 = .ok (.invokestatic 42, 3) := by decide +kernel
theorem dX7_wouldSpoil_26 : decode cX7_wouldSpoil 26 = .ok (.ifCond .ne 9, 3) := by decide +kernel
theorem dX7_wouldSpoil_29 : decode cX7_wouldSpoil 29 = .ok (.aload_n 0, 1) := by decide +kernel
theorem dX7_wouldSpoil_30 : decode cX7_wouldSpoil 30 = .ok (.iconst 2, 1) := by decide +kernel
theorem dX7_wouldSpoil_31 : decode cX7_wouldSpoil 31 = .ok (.invokevirtual 69, 3) := by decide +kernel
theorem dX7_wouldSpoil_34 : decode cX7_wouldSpoil 34 = .ok (.ireturn, 1) := by decide +kernel
theorem dX7_wouldSpoil_35 : decode cX7_wouldSpoil 35 = .ok (.aload_n 0, 1) := by decide +kernel
theorem dX7_wouldSpoil_36 : decode cX7_wouldSpoil 36 = .ok (.iload_n 1, 1) := by decide +kernel
theorem dX7_wouldSpoil_37 : decode cX7_wouldSpoil 37 = .ok (.iload_n 2, 1) := by decide +kernel
theorem dX7_wouldSpoil_38 : decode cX7_wouldSpoil 38 = .ok (.invokevirtual 222, 3) := by decide +kernel
theorem dX7_wouldSpoil_41 : decode cX7_wouldSpoil 41 = .ok (.ireturn, 1) := by decide +kernel
set_option maxRecDepth 20000 in
theorem ggX7_digest_X7_manyNow : GoodIn wsX7_digest wsX7_manyNow := goodIn_r _ [16, 17, 18, 4, 6, 7, 10, 19, 20, 21, 22, 23, 24, 25, 26, 27, 28, 29, 30, 31, 32, 33, 34, 35, 36, 209, 210, 211, 212, 213, 214, 215, 216, 217, 218, 219, 220, 221, 222, 223, 224, 225, 226, 227, 228, 229, 230] (by decide +kernel) (by decide +kernel)
set_option maxRecDepth 20000 in
theorem gX7_digest_X7_manyNow : GoodIn wsX7_digest (wsV RX7 198 RX7 yX7_manyNow wsX7_manyNow) := goodIn_app (goodIn_of _ (by decide +kernel)) ggX7_digest_X7_manyNow
set_option maxRecDepth 20000 in
theorem ggX7_digest_Jx4a65c_size_8abf5 : GoodIn wsX7_digest wsJx4a65c_size_8abf5 := goodIn_r _ [28, 29, 228, 229, 230] (by decide +kernel) (by decide +kernel)
set_option maxRecDepth 20000 in
theorem gX7_digest_Jx4a65c_size_8abf5_f36Jx4a65c : GoodIn wsX7_digest (va_wsF RX7 36 RJx4a65c ⟨"java/util/List", "size", "()I"⟩ yJx4a65c_size_8abf5 wsJx4a65c_size_8abf5) := goodIn_app (goodIn_of _ (by decide +kernel)) ggX7_digest_Jx4a65c_size_8abf5
set_option maxRecDepth 20000 in
theorem ggX7_digest_X7_mixNow : GoodIn wsX7_digest wsX7_mixNow := goodIn_r _ [40, 4, 5, 17, 41, 42, 43, 44, 45, 46, 27, 47, 29, 48, 49, 50, 51, 52, 53, 54, 55, 56, 57, 58, 59, 60, 61, 62, 63, 64, 65, 66, 67, 68, 69, 70, 71, 72, 73, 25, 26, 28, 74, 75, 76, 77, 78, 79, 80, 81, 82, 83, 84, 85, 86, 87, 88, 89, 90, 91, 92, 93, 94, 95, 96, 97, 15, 98, 6, 7, 99, 209, 210, 211, 212, 213, 214, 215, 216, 217, 231, 232, 233, 234, 235, 228, 229, 230, 218, 219, 220, 221, 222, 223, 224, 225, 226, 227] (by decide +kernel) (by decide +kernel)
set_option maxRecDepth 20000 in
theorem gX7_digest_X7_mixNow : GoodIn wsX7_digest (wsV RX7 180 RX7 yX7_mixNow wsX7_mixNow) := goodIn_app (goodIn_of _ (by decide +kernel)) ggX7_digest_X7_mixNow
set_option maxRecDepth 20000 in
theorem ggX7_digest_Jx4a65c_get_915e3 : GoodIn wsX7_digest wsJx4a65c_get_915e3 := goodIn_r _ [47, 29, 48, 49, 50, 51, 52, 53, 54, 55, 56, 57, 58, 27, 59, 60, 228, 229, 230] (by decide +kernel) (by decide +kernel)
set_option maxRecDepth 20000 in
theorem gX7_digest_Jx4a65c_get_915e3_f55Jx4a65c : GoodIn wsX7_digest (va_wsF RX7 55 RJx4a65c ⟨"java/util/List", "get", "(I)Ljava/lang/Object;"⟩ yJx4a65c_get_915e3 wsJx4a65c_get_915e3) := goodIn_app (goodIn_of _ (by decide +kernel)) ggX7_digest_Jx4a65c_get_915e3
set_option maxRecDepth 20000 in
theorem ggX7_digest_X7_barsNow : GoodIn wsX7_digest wsX7_barsNow := goodIn_r _ [103, 42, 43, 41, 21, 6, 7, 104, 105, 15, 106, 75, 76, 77, 64, 78, 71, 66, 72, 73, 25, 26, 27, 28, 29, 74, 45, 46, 47, 48, 49, 50, 51, 52, 53, 54, 55, 56, 57, 58, 59, 60, 79, 80, 81, 82, 83, 84, 85, 86, 87, 88, 89, 68, 69, 70, 90, 62, 63, 65, 231, 232, 233, 234, 235, 209, 210, 211, 212, 213, 214, 215, 216, 217, 218, 219, 220, 221, 222, 223, 224, 225, 226, 227, 228, 229, 230] (by decide +kernel) (by decide +kernel)
set_option maxRecDepth 20000 in
theorem gX7_digest_X7_barsNow : GoodIn wsX7_digest (wsV RX7 116 RX7 yX7_barsNow wsX7_barsNow) := goodIn_app (goodIn_of _ (by decide +kernel)) ggX7_digest_X7_barsNow
set_option maxRecDepth 20000 in
theorem ggX7_digest_X7_batchNow : GoodIn wsX7_digest wsX7_batchNow := goodIn_r _ [110, 17, 6, 99, 111, 112, 113, 114, 115, 116, 33, 117, 118, 119, 120, 121, 122, 15, 123, 4, 5, 23, 44, 45, 46, 27, 47, 29, 48, 49, 50, 51, 52, 53, 54, 55, 56, 57, 58, 59, 60, 91, 92, 93, 64, 94, 66, 209, 210, 211, 212, 213, 214, 215, 216, 217, 218, 219, 220, 221, 222, 223, 224, 225, 226, 227, 228, 229, 230, 231, 232, 233, 234, 235] (by decide +kernel) (by decide +kernel)
set_option maxRecDepth 20000 in
theorem gX7_digest_X7_batchNow : GoodIn wsX7_digest (wsV RX7 195 RX7 yX7_batchNow wsX7_batchNow) := goodIn_app (goodIn_of _ (by decide +kernel)) ggX7_digest_X7_batchNow
set_option maxRecDepth 20000 in
theorem ggX7_digest_X7_spoilNow : GoodIn wsX7_digest wsX7_spoilNow := goodIn_r _ [127, 6, 7, 113, 128, 129, 130, 33, 131, 132, 133, 134, 35, 135, 136, 137, 138, 139, 140, 36, 118, 141, 142, 143, 144, 145, 146, 147, 148, 149, 17, 150, 151, 152, 153, 154, 155, 156, 157, 158, 159, 160, 161, 162, 163, 164, 165, 166, 167, 168, 169, 170, 171, 172, 173, 174, 175, 45, 46, 27, 47, 29, 48, 49, 50, 51, 52, 53, 54, 55, 56, 57, 58, 59, 60, 176, 177, 178, 64, 179, 180, 181, 182, 183, 184, 185, 85, 86, 87, 88, 83, 89, 68, 69, 70, 71, 66, 72, 73, 25, 26, 28, 74, 90, 62, 63, 65, 186, 187, 188, 189, 190, 191, 192, 193, 114, 115, 116, 117, 119, 209, 210, 211, 212, 213, 214, 215, 216, 217, 218, 219, 220, 221, 222, 223, 224, 225, 226, 227, 228, 229, 230, 231, 232, 233, 234, 235] (by decide +kernel) (by decide +kernel)
set_option maxRecDepth 20000 in
theorem gX7_digest_X7_spoilNow : GoodIn wsX7_digest (wsV RX7 222 RX7 yX7_spoilNow wsX7_spoilNow) := goodIn_app (goodIn_of _ (by decide +kernel)) ggX7_digest_X7_spoilNow
set_option maxRecDepth 20000 in
theorem ggX7_digest_X7_dayNow : GoodIn wsX7_digest wsX7_dayNow := goodIn_r _ [197, 198, 199, 200, 15, 201, 4, 202, 203, 204, 205, 206, 207, 208, 5, 44, 45, 46, 27, 47, 29, 48, 49, 50, 51, 52, 53, 54, 55, 56, 57, 58, 59, 60, 75, 76, 77, 64, 78, 71, 66, 72, 73, 25, 26, 28, 74, 24, 209, 210, 211, 212, 213, 214, 215, 216, 217, 228, 229, 230, 231, 232, 233, 234, 235] (by decide +kernel) (by decide +kernel)
set_option maxRecDepth 20000 in
theorem gX7_digest_X7_dayNow : GoodIn wsX7_digest (wsV RX7 212 RX7 yX7_dayNow wsX7_dayNow) := goodIn_app (goodIn_of _ (by decide +kernel)) ggX7_digest_X7_dayNow
theorem dX7_digest_0 : decode cX7_digest 0 = .ok (.aload_n 0, 1) := by decide +kernel
theorem dX7_digest_1 : decode cX7_digest 1 = .ok (.iconst 0, 1) := by decide +kernel
theorem dX7_digest_2 : decode cX7_digest 2 = .ok (.putfield 32, 3) := by decide +kernel
theorem dX7_digest_5 : decode cX7_digest 5 = .ok (.ldc2_w 225, 3) := by decide +kernel
theorem dX7_digest_8 : decode cX7_digest 8 = .ok (.lstore_n 1, 1) := by decide +kernel
theorem dX7_digest_9 : decode cX7_digest 9 = .ok (.iconst 0, 1) := by decide +kernel
theorem dX7_digest_10 : decode cX7_digest 10 = .ok (.istore_n 3, 1) := by decide +kernel
theorem dX7_digest_11 : decode cX7_digest 11 = .ok (.iload_n 3, 1) := by decide +kernel
theorem dX7_digest_12 : decode cX7_digest 12 = .ok (.bipush 11, 2) := by decide +kernel
theorem dX7_digest_14 : decode cX7_digest 14 = .ok (.if_icmp .gt 22, 3) := by decide +kernel
theorem dX7_digest_17 : decode cX7_digest 17 = .ok (.lload_n 1, 1) := by decide +kernel
theorem dX7_digest_18 : decode cX7_digest 18 = .ok (.ldc2_w 227, 3) := by decide +kernel
theorem dX7_digest_21 : decode cX7_digest 21 = .ok (.lmul, 1) := by decide +kernel
theorem dX7_digest_22 : decode cX7_digest 22 = .ok (.aload_n 0, 1) := by decide +kernel
theorem dX7_digest_23 : decode cX7_digest 23 = .ok (.iload_n 3, 1) := by decide +kernel
theorem dX7_digest_24 : decode cX7_digest 24 = .ok (.invokevirtual 198, 3) := by decide +kernel
theorem dX7_digest_27 : decode cX7_digest 27 = .ok (.i2l, 1) := by decide +kernel
theorem dX7_digest_28 : decode cX7_digest 28 = .ok (.ladd, 1) := by decide +kernel
theorem dX7_digest_29 : decode cX7_digest 29 = .ok (.lstore_n 1, 1) := by decide +kernel
theorem dX7_digest_30 : decode cX7_digest 30 = .ok (.iinc 3 1, 3) := by decide +kernel
theorem dX7_digest_33 : decode cX7_digest 33 = .ok (.goto (-22), 3) := by decide +kernel
theorem dX7_digest_36 : decode cX7_digest 36 = .ok (.iconst 0, 1) := by decide +kernel
theorem dX7_digest_37 : decode cX7_digest 37 = .ok (.istore_n 3, 1) := by decide +kernel
theorem dX7_digest_38 : decode cX7_digest 38 = .ok (.iload_n 3, 1) := by decide +kernel
theorem dX7_digest_39 : decode cX7_digest 39 = .ok (.aload_n 0, 1) := by decide +kernel
theorem dX7_digest_40 : decode cX7_digest 40 = .ok (.getfield 16, 3) := by decide +kernel
theorem dX7_digest_43 : decode cX7_digest 43 = .ok (.invokeinterface 36 1, 5) := by decide +kernel
theorem dX7_digest_48 : decode cX7_digest 48 = .ok (.if_icmp .ge 70, 3) := by decide +kernel
theorem dX7_digest_51 : decode cX7_digest 51 = .ok (.iconst 0, 1) := by decide +kernel
theorem dX7_digest_52 : decode cX7_digest 52 = .ok (.istore 4, 2) := by decide +kernel
theorem dX7_digest_54 : decode cX7_digest 54 = .ok (.iload 4, 2) := by decide +kernel
theorem dX7_digest_56 : decode cX7_digest 56 = .ok (.bipush 8, 2) := by decide +kernel
theorem dX7_digest_58 : decode cX7_digest 58 = .ok (.if_icmp .gt 24, 3) := by decide +kernel
theorem dX7_digest_61 : decode cX7_digest 61 = .ok (.lload_n 1, 1) := by decide +kernel
theorem dX7_digest_62 : decode cX7_digest 62 = .ok (.ldc2_w 227, 3) := by decide +kernel
theorem dX7_digest_65 : decode cX7_digest 65 = .ok (.lmul, 1) := by decide +kernel
theorem dX7_digest_66 : decode cX7_digest 66 = .ok (.aload_n 0, 1) := by decide +kernel
theorem dX7_digest_67 : decode cX7_digest 67 = .ok (.iload_n 3, 1) := by decide +kernel
theorem dX7_digest_68 : decode cX7_digest 68 = .ok (.iload 4, 2) := by decide +kernel
theorem dX7_digest_70 : decode cX7_digest 70 = .ok (.invokevirtual 180, 3) := by decide +kernel
theorem dX7_digest_73 : decode cX7_digest 73 = .ok (.i2l, 1) := by decide +kernel
theorem dX7_digest_74 : decode cX7_digest 74 = .ok (.ladd, 1) := by decide +kernel
theorem dX7_digest_75 : decode cX7_digest 75 = .ok (.lstore_n 1, 1) := by decide +kernel
theorem dX7_digest_76 : decode cX7_digest 76 = .ok (.iinc 4 1, 3) := by decide +kernel
theorem dX7_digest_79 : decode cX7_digest 79 = .ok (.goto (-25), 3) := by decide +kernel
theorem dX7_digest_82 : decode cX7_digest 82 = .ok (.lload_n 1, 1) := by decide +kernel
theorem dX7_digest_83 : decode cX7_digest 83 = .ok (.ldc2_w 227, 3) := by decide +kernel
theorem dX7_digest_86 : decode cX7_digest 86 = .ok (.lmul, 1) := by decide +kernel
theorem dX7_digest_87 : decode cX7_digest 87 = .ok (.aload_n 0, 1) := by decide +kernel
theorem dX7_digest_88 : decode cX7_digest 88 = .ok (.iconst 0, 1) := by decide +kernel
theorem dX7_digest_89 : decode cX7_digest 89 = .ok (.aload_n 0, 1) := by decide +kernel
theorem dX7_digest_90 : decode cX7_digest 90 = .ok (.getfield 16, 3) := by decide +kernel
theorem dX7_digest_93 : decode cX7_digest 93 = .ok (.iload_n 3, 1) := by decide +kernel
theorem dX7_digest_94 : decode cX7_digest 94 = .ok (.invokeinterface 55 2, 5) := by decide +kernel
theorem dX7_digest_99 : decode cX7_digest 99 = .ok (.checkcast 59, 3) := by decide +kernel
theorem dX7_digest_102 : decode cX7_digest 102 = .ok (.bipush 20, 2) := by decide +kernel
theorem dX7_digest_104 : decode cX7_digest 104 = .ok (.bipush 80, 2) := by decide +kernel
theorem dX7_digest_106 : decode cX7_digest 106 = .ok (.invokevirtual 116, 3) := by decide +kernel
theorem dX7_digest_109 : decode cX7_digest 109 = .ok (.i2l, 1) := by decide +kernel
theorem dX7_digest_110 : decode cX7_digest 110 = .ok (.ladd, 1) := by decide +kernel
theorem dX7_digest_111 : decode cX7_digest 111 = .ok (.lstore_n 1, 1) := by decide +kernel
theorem dX7_digest_112 : decode cX7_digest 112 = .ok (.iinc 3 1, 3) := by decide +kernel
theorem dX7_digest_115 : decode cX7_digest 115 = .ok (.goto (-77), 3) := by decide +kernel
theorem dX7_digest_118 : decode cX7_digest 118 = .ok (.iconst 0, 1) := by decide +kernel
theorem dX7_digest_119 : decode cX7_digest 119 = .ok (.istore_n 3, 1) := by decide +kernel
theorem dX7_digest_120 : decode cX7_digest 120 = .ok (.iload_n 3, 1) := by decide +kernel
theorem dX7_digest_121 : decode cX7_digest 121 = .ok (.aload_n 0, 1) := by decide +kernel
theorem dX7_digest_122 : decode cX7_digest 122 = .ok (.getfield 24, 3) := by decide +kernel
theorem dX7_digest_125 : decode cX7_digest 125 = .ok (.getfield 46, 3) := by decide +kernel
theorem dX7_digest_128 : decode cX7_digest 128 = .ok (.if_icmp .ge 61, 3) := by decide +kernel
theorem dX7_digest_131 : decode cX7_digest 131 = .ok (.iconst 0, 1) := by decide +kernel
theorem dX7_digest_132 : decode cX7_digest 132 = .ok (.istore 4, 2) := by decide +kernel
theorem dX7_digest_134 : decode cX7_digest 134 = .ok (.iload 4, 2) := by decide +kernel
theorem dX7_digest_136 : decode cX7_digest 136 = .ok (.iconst 5, 1) := by decide +kernel
theorem dX7_digest_137 : decode cX7_digest 137 = .ok (.if_icmp .gt 24, 3) := by decide +kernel
theorem dX7_digest_140 : decode cX7_digest 140 = .ok (.lload_n 1, 1) := by decide +kernel
theorem dX7_digest_141 : decode cX7_digest 141 = .ok (.ldc2_w 227, 3) := by decide +kernel
theorem dX7_digest_144 : decode cX7_digest 144 = .ok (.lmul, 1) := by decide +kernel
theorem dX7_digest_145 : decode cX7_digest 145 = .ok (.aload_n 0, 1) := by decide +kernel
theorem dX7_digest_146 : decode cX7_digest 146 = .ok (.iload_n 3, 1) := by decide +kernel
theorem dX7_digest_147 : decode cX7_digest 147 = .ok (.iload 4, 2) := by decide +kernel
theorem dX7_digest_149 : decode cX7_digest 149 = .ok (.invokevirtual 195, 3) := by decide +kernel
theorem dX7_digest_152 : decode cX7_digest 152 = .ok (.i2l, 1) := by decide +kernel
theorem dX7_digest_153 : decode cX7_digest 153 = .ok (.ladd, 1) := by decide +kernel
theorem dX7_digest_154 : decode cX7_digest 154 = .ok (.lstore_n 1, 1) := by decide +kernel
theorem dX7_digest_155 : decode cX7_digest 155 = .ok (.iinc 4 1, 3) := by decide +kernel
theorem dX7_digest_158 : decode cX7_digest 158 = .ok (.goto (-24), 3) := by decide +kernel
theorem dX7_digest_161 : decode cX7_digest 161 = .ok (.lload_n 1, 1) := by decide +kernel
theorem dX7_digest_162 : decode cX7_digest 162 = .ok (.ldc2_w 227, 3) := by decide +kernel
theorem dX7_digest_165 : decode cX7_digest 165 = .ok (.lmul, 1) := by decide +kernel
theorem dX7_digest_166 : decode cX7_digest 166 = .ok (.aload_n 0, 1) := by decide +kernel
theorem dX7_digest_167 : decode cX7_digest 167 = .ok (.getfield 24, 3) := by decide +kernel
theorem dX7_digest_170 : decode cX7_digest 170 = .ok (.getfield 126, 3) := by decide +kernel
theorem dX7_digest_173 : decode cX7_digest 173 = .ok (.iload_n 3, 1) := by decide +kernel
theorem dX7_digest_174 : decode cX7_digest 174 = .ok (.daload, 1) := by decide +kernel
theorem dX7_digest_175 : decode cX7_digest 175 = .ok (.ldc2_w 229, 3) := by decide +kernel
theorem dX7_digest_178 : decode cX7_digest 178 = .ok (.dmul, 1) := by decide +kernel
theorem dX7_digest_179 : decode cX7_digest 179 = .ok (.d2i, 1) := by decide +kernel
theorem dX7_digest_180 : decode cX7_digest 180 = .ok (.i2l, 1) := by decide +kernel
theorem dX7_digest_181 : decode cX7_digest 181 = .ok (.ladd, 1) := by decide +kernel
theorem dX7_digest_182 : decode cX7_digest 182 = .ok (.lstore_n 1, 1) := by decide +kernel
theorem dX7_digest_183 : decode cX7_digest 183 = .ok (.iinc 3 1, 3) := by decide +kernel
theorem dX7_digest_186 : decode cX7_digest 186 = .ok (.goto (-66), 3) := by decide +kernel
theorem dX7_digest_189 : decode cX7_digest 189 = .ok (.iconst 0, 1) := by decide +kernel
theorem dX7_digest_190 : decode cX7_digest 190 = .ok (.istore_n 3, 1) := by decide +kernel
theorem dX7_digest_191 : decode cX7_digest 191 = .ok (.iload_n 3, 1) := by decide +kernel
theorem dX7_digest_192 : decode cX7_digest 192 = .ok (.aload_n 0, 1) := by decide +kernel
theorem dX7_digest_193 : decode cX7_digest 193 = .ok (.getfield 24, 3) := by decide +kernel
theorem dX7_digest_196 : decode cX7_digest 196 = .ok (.getfield 49, 3) := by decide +kernel
theorem dX7_digest_199 : decode cX7_digest 199 = .ok (.if_icmp .ge 45, 3) := by decide +kernel
theorem dX7_digest_202 : decode cX7_digest 202 = .ok (.lload_n 1, 1) := by decide +kernel
theorem dX7_digest_203 : decode cX7_digest 203 = .ok (.ldc2_w 227, 3) := by decide +kernel
theorem dX7_digest_206 : decode cX7_digest 206 = .ok (.lmul, 1) := by decide +kernel
theorem dX7_digest_207 : decode cX7_digest 207 = .ok (.aload_n 0, 1) := by decide +kernel
theorem dX7_digest_208 : decode cX7_digest 208 = .ok (.getfield 24, 3) := by decide +kernel
theorem dX7_digest_211 : decode cX7_digest 211 = .ok (.getfield 146, 3) := by decide +kernel
theorem dX7_digest_214 : decode cX7_digest 214 = .ok (.iload_n 3, 1) := by decide +kernel
theorem dX7_digest_215 : decode cX7_digest 215 = .ok (.daload, 1) := by decide +kernel
theorem dX7_digest_216 : decode cX7_digest 216 = .ok (.ldc2_w 229, 3) := by decide +kernel
theorem dX7_digest_219 : decode cX7_digest 219 = .ok (.dmul, 1) := by decide +kernel
theorem dX7_digest_220 : decode cX7_digest 220 = .ok (.d2i, 1) := by decide +kernel
theorem dX7_digest_221 : decode cX7_digest 221 = .ok (.i2l, 1) := by decide +kernel
theorem dX7_digest_222 : decode cX7_digest 222 = .ok (.ladd, 1) := by decide +kernel
theorem dX7_digest_223 : decode cX7_digest 223 = .ok (.lstore_n 1, 1) := by decide +kernel
theorem dX7_digest_224 : decode cX7_digest 224 = .ok (.lload_n 1, 1) := by decide +kernel
theorem dX7_digest_225 : decode cX7_digest 225 = .ok (.ldc2_w 227, 3) := by decide +kernel
theorem dX7_digest_228 : decode cX7_digest 228 = .ok (.lmul, 1) := by decide +kernel
theorem dX7_digest_229 : decode cX7_digest 229 = .ok (.aload_n 0, 1) := by decide +kernel
theorem dX7_digest_230 : decode cX7_digest 230 = .ok (.iload_n 3, 1) := by decide +kernel
theorem dX7_digest_231 : decode cX7_digest 231 = .ok (.iconst 0, 1) := by decide +kernel
theorem dX7_digest_232 : decode cX7_digest 232 = .ok (.invokevirtual 222, 3) := by decide +kernel
theorem dX7_digest_235 : decode cX7_digest 235 = .ok (.i2l, 1) := by decide +kernel
theorem dX7_digest_236 : decode cX7_digest 236 = .ok (.ladd, 1) := by decide +kernel
theorem dX7_digest_237 : decode cX7_digest 237 = .ok (.lstore_n 1, 1) := by decide +kernel
theorem dX7_digest_238 : decode cX7_digest 238 = .ok (.iinc 3 1, 3) := by decide +kernel
theorem dX7_digest_241 : decode cX7_digest 241 = .ok (.goto (-50), 3) := by decide +kernel
theorem dX7_digest_244 : decode cX7_digest 244 = .ok (.iconst 1, 1) := by decide +kernel
theorem dX7_digest_245 : decode cX7_digest 245 = .ok (.aload_n 0, 1) := by decide +kernel
theorem dX7_digest_246 : decode cX7_digest 246 = .ok (.getfield 16, 3) := by decide +kernel
theorem dX7_digest_249 : decode cX7_digest 249 = .ok (.invokeinterface 36 1, 5) := by decide +kernel
theorem dX7_digest_254 : decode cX7_digest 254 = .ok (.ishl, 1) := by decide +kernel
theorem dX7_digest_255 : decode cX7_digest 255 = .ok (.iconst 1, 1) := by decide +kernel
theorem dX7_digest_256 : decode cX7_digest 256 = .ok (.isub, 1) := by decide +kernel
theorem dX7_digest_257 : decode cX7_digest 257 = .ok (.istore_n 3, 1) := by decide +kernel
theorem dX7_digest_258 : decode cX7_digest 258 = .ok (.lload_n 1, 1) := by decide +kernel
theorem dX7_digest_259 : decode cX7_digest 259 = .ok (.ldc2_w 227, 3) := by decide +kernel
theorem dX7_digest_262 : decode cX7_digest 262 = .ok (.lmul, 1) := by decide +kernel
theorem dX7_digest_263 : decode cX7_digest 263 = .ok (.aload_n 0, 1) := by decide +kernel
theorem dX7_digest_264 : decode cX7_digest 264 = .ok (.iload_n 3, 1) := by decide +kernel
theorem dX7_digest_265 : decode cX7_digest 265 = .ok (.iconst 1, 1) := by decide +kernel
theorem dX7_digest_266 : decode cX7_digest 266 = .ok (.invokevirtual 212, 3) := by decide +kernel
theorem dX7_digest_269 : decode cX7_digest 269 = .ok (.i2l, 1) := by decide +kernel
theorem dX7_digest_270 : decode cX7_digest 270 = .ok (.ladd, 1) := by decide +kernel
theorem dX7_digest_271 : decode cX7_digest 271 = .ok (.lstore_n 1, 1) := by decide +kernel
theorem dX7_digest_272 : decode cX7_digest 272 = .ok (.lload_n 1, 1) := by decide +kernel
theorem dX7_digest_273 : decode cX7_digest 273 = .ok (.ldc2_w 227, 3) := by decide +kernel
theorem dX7_digest_276 : decode cX7_digest 276 = .ok (.lmul, 1) := by decide +kernel
theorem dX7_digest_277 : decode cX7_digest 277 = .ok (.aload_n 0, 1) := by decide +kernel
theorem dX7_digest_278 : decode cX7_digest 278 = .ok (.iload_n 3, 1) := by decide +kernel
theorem dX7_digest_279 : decode cX7_digest 279 = .ok (.iconst 0, 1) := by decide +kernel
theorem dX7_digest_280 : decode cX7_digest 280 = .ok (.invokevirtual 212, 3) := by decide +kernel
theorem dX7_digest_283 : decode cX7_digest 283 = .ok (.i2l, 1) := by decide +kernel
theorem dX7_digest_284 : decode cX7_digest 284 = .ok (.ladd, 1) := by decide +kernel
theorem dX7_digest_285 : decode cX7_digest 285 = .ok (.lreturn, 1) := by decide +kernel
