theorem dX0_init_0 : decode cX0_init 0 = .ok (.aload_n 0, 1) := by decide +kernel
theorem dX0_init_1 : decode cX0_init 1 = .ok (.invokespecial 3, 3) := by decide +kernel
theorem dX0_init_4 : decode cX0_init 4 = .ok (.aload_n 0, 1) := by decide +kernel
theorem dX0_init_5 : decode cX0_init 5 = .ok (.iconst 0, 1) := by decide +kernel
theorem dX0_init_6 : decode cX0_init 6 = .ok (.putfield 9, 3) := by decide +kernel
theorem dX0_init_9 : decode cX0_init 9 = .ok (.aload_n 0, 1) := by decide +kernel
theorem dX0_init_10 : decode cX0_init 10 = .ok (.iconst 0, 1) := by decide +kernel
theorem dX0_init_11 : decode cX0_init 11 = .ok (.putfield 15, 3) := by decide +kernel
theorem dX0_init_14 : decode cX0_init 14 = .ok (.aload_n 0, 1) := by decide +kernel
theorem dX0_init_15 : decode cX0_init 15 = .ok (.iconst (-1), 1) := by decide +kernel
theorem dX0_init_16 : decode cX0_init 16 = .ok (.putfield 18, 3) := by decide +kernel
theorem dX0_init_19 : decode cX0_init 19 = .ok (.aload_n 0, 1) := by decide +kernel
theorem dX0_init_20 : decode cX0_init 20 = .ok (.iconst 0, 1) := by decide +kernel
theorem dX0_init_21 : decode cX0_init 21 = .ok (.putfield 21, 3) := by decide +kernel
theorem dX0_init_24 : decode cX0_init 24 = .ok (.aload_n 0, 1) := by decide +kernel
theorem dX0_init_25 : decode cX0_init 25 = .ok (.dconst 0, 1) := by decide +kernel
theorem dX0_init_26 : decode cX0_init 26 = .ok (.putfield 25, 3) := by decide +kernel
theorem dX0_init_29 : decode cX0_init 29 = .ok (.return_, 1) := by decide +kernel
theorem dX0_isCoarse_0 : decode cX0_isCoarse 0 = .ok (.aload_n 0, 1) := by decide +kernel
theorem dX0_isCoarse_1 : decode cX0_isCoarse 1 = .ok (.getfield 25, 3) := by decide +kernel
theorem dX0_isCoarse_4 : decode cX0_isCoarse 4 = .ok (.ldc2_w 29, 3) := by decide +kernel
theorem dX0_isCoarse_7 : decode cX0_isCoarse 7 = .ok (.dcmp .l, 1) := by decide +kernel
theorem dX0_isCoarse_8 : decode cX0_isCoarse 8 = .ok (.ifCond .le 7, 3) := by decide +kernel
theorem dX0_isCoarse_11 : decode cX0_isCoarse 11 = .ok (.iconst 1, 1) := by decide +kernel
theorem dX0_isCoarse_12 : decode cX0_isCoarse 12 = .ok (.goto 4, 3) := by decide +kernel
theorem dX0_isCoarse_15 : decode cX0_isCoarse 15 = .ok (.iconst 0, 1) := by decide +kernel
theorem dX0_isCoarse_16 : decode cX0_isCoarse 16 = .ok (.ireturn, 1) := by decide +kernel
theorem dX0_isStored_0 : decode cX0_isStored 0 = .ok (.aload_n 0, 1) := by decide +kernel
theorem dX0_isStored_1 : decode cX0_isStored 1 = .ok (.getfield 18, 3) := by decide +kernel
theorem dX0_isStored_4 : decode cX0_isStored 4 = .ok (.ifCond .lt 15, 3) := by decide +kernel
theorem dX0_isStored_7 : decode cX0_isStored 7 = .ok (.aload_n 0, 1) := by decide +kernel
theorem dX0_isStored_8 : decode cX0_isStored 8 = .ok (.getfield 18, 3) := by decide +kernel
theorem dX0_isStored_11 : decode cX0_isStored 11 = .ok (.iconst 3, 1) := by decide +kernel
theorem dX0_isStored_12 : decode cX0_isStored 12 = .ok (.if_icmp .ge 7, 3) := by decide +kernel
theorem dX0_isStored_15 : decode cX0_isStored 15 = .ok (.iconst 1, 1) := by decide +kernel
theorem dX0_isStored_16 : decode cX0_isStored 16 = .ok (.goto 4, 3) := by decide +kernel
theorem dX0_isStored_19 : decode cX0_isStored 19 = .ok (.iconst 0, 1) := by decide +kernel
theorem dX0_isStored_20 : decode cX0_isStored 20 = .ok (.ireturn, 1) := by decide +kernel
theorem dX1_init_0 : decode cX1_init 0 = .ok (.aload_n 0, 1) := by decide +kernel
theorem dX1_init_1 : decode cX1_init 1 = .ok (.invokespecial 1, 3) := by decide +kernel
theorem dX1_init_4 : decode cX1_init 4 = .ok (.aload_n 0, 1) := by decide +kernel
theorem dX1_init_5 : decode cX1_init 5 = .ok (.iconst 0, 1) := by decide +kernel
theorem dX1_init_6 : decode cX1_init 6 = .ok (.putfield 7, 3) := by decide +kernel
theorem dX1_init_9 : decode cX1_init 9 = .ok (.aload_n 0, 1) := by decide +kernel
theorem dX1_init_10 : decode cX1_init 10 = .ok (.iconst 0, 1) := by decide +kernel
theorem dX1_init_11 : decode cX1_init 11 = .ok (.putfield 13, 3) := by decide +kernel
theorem dX1_init_14 : decode cX1_init 14 = .ok (.aload_n 0, 1) := by decide +kernel
theorem dX1_init_15 : decode cX1_init 15 = .ok (.iconst 0, 1) := by decide +kernel
theorem dX1_init_16 : decode cX1_init 16 = .ok (.putfield 16, 3) := by decide +kernel
theorem dX1_init_19 : decode cX1_init 19 = .ok (.aload_n 0, 1) := by decide +kernel
theorem dX1_init_20 : decode cX1_init 20 = .ok (.iconst 0, 1) := by decide +kernel
theorem dX1_init_21 : decode cX1_init 21 = .ok (.putfield 19, 3) := by decide +kernel
theorem dX1_init_24 : decode cX1_init 24 = .ok (.aload_n 0, 1) := by decide +kernel
theorem dX1_init_25 : decode cX1_init 25 = .ok (.iconst 0, 1) := by decide +kernel
theorem dX1_init_26 : decode cX1_init 26 = .ok (.putfield 22, 3) := by decide +kernel
theorem dX1_init_29 : decode cX1_init 29 = .ok (.return_, 1) := by decide +kernel
theorem dX2_init_0 : decode cX2_init 0 = .ok (.aload_n 0, 1) := by decide +kernel
theorem dX2_init_1 : decode cX2_init 1 = .ok (.invokespecial 1, 3) := by decide +kernel
theorem dX2_init_4 : decode cX2_init 4 = .ok (.aload_n 0, 1) := by decide +kernel
theorem dX2_init_5 : decode cX2_init 5 = .ok (.iconst 0, 1) := by decide +kernel
theorem dX2_init_6 : decode cX2_init 6 = .ok (.putfield 7, 3) := by decide +kernel
theorem dX2_init_9 : decode cX2_init 9 = .ok (.aload_n 0, 1) := by decide +kernel
theorem dX2_init_10 : decode cX2_init 10 = .ok (.iconst 0, 1) := by decide +kernel
theorem dX2_init_11 : decode cX2_init 11 = .ok (.putfield 13, 3) := by decide +kernel
theorem dX2_init_14 : decode cX2_init 14 = .ok (.aload_n 0, 1) := by decide +kernel
theorem dX2_init_15 : decode cX2_init 15 = .ok (.iconst 0, 1) := by decide +kernel
theorem dX2_init_16 : decode cX2_init 16 = .ok (.putfield 16, 3) := by decide +kernel
theorem dX2_init_19 : decode cX2_init 19 = .ok (.aload_n 0, 1) := by decide +kernel
theorem dX2_init_20 : decode cX2_init 20 = .ok (.iconst 0, 1) := by decide +kernel
theorem dX2_init_21 : decode cX2_init 21 = .ok (.putfield 19, 3) := by decide +kernel
theorem dX2_init_24 : decode cX2_init 24 = .ok (.aload_n 0, 1) := by decide +kernel
theorem dX2_init_25 : decode cX2_init 25 = .ok (.iconst 0, 1) := by decide +kernel
theorem dX2_init_26 : decode cX2_init 26 = .ok (.putfield 22, 3) := by decide +kernel
theorem dX2_init_29 : decode cX2_init 29 = .ok (.aload_n 0, 1) := by decide +kernel
theorem dX2_init_30 : decode cX2_init 30 = .ok (.iconst 0, 1) := by decide +kernel
theorem dX2_init_31 : decode cX2_init 31 = .ok (.putfield 25, 3) := by decide +kernel
theorem dX2_init_34 : decode cX2_init 34 = .ok (.aload_n 0, 1) := by decide +kernel
theorem dX2_init_35 : decode cX2_init 35 = .ok (.iconst 0, 1) := by decide +kernel
theorem dX2_init_36 : decode cX2_init 36 = .ok (.putfield 28, 3) := by decide +kernel
theorem dX2_init_39 : decode cX2_init 39 = .ok (.aload_n 0, 1) := by decide +kernel
theorem dX2_init_40 : decode cX2_init 40 = .ok (.iconst 0, 1) := by decide +kernel
theorem dX2_init_41 : decode cX2_init 41 = .ok (.putfield 31, 3) := by decide +kernel
theorem dX2_init_44 : decode cX2_init 44 = .ok (.aload_n 0, 1) := by decide +kernel
theorem dX2_init_45 : decode cX2_init 45 = .ok (.iconst 0, 1) := by decide +kernel
theorem dX2_init_46 : decode cX2_init 46 = .ok (.putfield 34, 3) := by decide +kernel
theorem dX2_init_49 : decode cX2_init 49 = .ok (.aload_n 0, 1) := by decide +kernel
theorem dX2_init_50 : decode cX2_init 50 = .ok (.iconst 0, 1) := by decide +kernel
theorem dX2_init_51 : decode cX2_init 51 = .ok (.putfield 37, 3) := by decide +kernel
theorem dX2_init_54 : decode cX2_init 54 = .ok (.aload_n 0, 1) := by decide +kernel
theorem dX2_init_55 : decode cX2_init 55 = .ok (.iconst 0, 1) := by decide +kernel
theorem dX2_init_56 : decode cX2_init 56 = .ok (.putfield 40, 3) := by decide +kernel
theorem dX2_init_59 : decode cX2_init 59 = .ok (.aload_n 0, 1) := by decide +kernel
theorem dX2_init_60 : decode cX2_init 60 = .ok (.dconst 0, 1) := by decide +kernel
theorem dX2_init_61 : decode cX2_init 61 = .ok (.putfield 44, 3) := by decide +kernel
theorem dX2_init_64 : decode cX2_init 64 = .ok (.return_, 1) := by decide +kernel
set_option maxRecDepth 20000 in
theorem ggX2_add_X2_percent : GoodIn wsX2_add wsX2_percent := goodIn_r _ [17, 1, 18, 19, 20, 21, 22, 23, 24, 25, 26, 27, 28, 29, 30] (by decide +kernel) (by decide +kernel)
set_option maxRecDepth 20000 in
theorem gX2_add_X2_percent : GoodIn wsX2_add (wsV RX2 61 RX2 yX2_percent wsX2_percent) := goodIn_app (goodIn_of _ (by decide +kernel)) ggX2_add_X2_percent
theorem dX2_add_0 : decode cX2_add 0 = .ok (.aload_n 0, 1) := by decide +kernel
theorem dX2_add_1 : decode cX2_add 1 = .ok (.dup, 1) := by decide +kernel
theorem dX2_add_2 : decode cX2_add 2 = .ok (.getfield 7, 3) := by decide +kernel
theorem dX2_add_5 : decode cX2_add 5 = .ok (.iload_n 3, 1) := by decide +kernel
theorem dX2_add_6 : decode cX2_add 6 = .ok (.iadd, 1) := by decide +kernel
theorem dX2_add_7 : decode cX2_add 7 = .ok (.putfield 7, 3) := by decide +kernel
theorem dX2_add_10 : decode cX2_add 10 = .ok (.aload_n 0, 1) := by decide +kernel
theorem dX2_add_11 : decode cX2_add 11 = .ok (.dup, 1) := by decide +kernel
theorem dX2_add_12 : decode cX2_add 12 = .ok (.getfield 13, 3) := by decide +kernel
theorem dX2_add_15 : decode cX2_add 15 = .ok (.iload_n 3, 1) := by decide +kernel
theorem dX2_add_16 : decode cX2_add 16 = .ok (.iadd, 1) := by decide +kernel
theorem dX2_add_17 : decode cX2_add 17 = .ok (.putfield 13, 3) := by decide +kernel
theorem dX2_add_20 : decode cX2_add 20 = .ok (.aload_n 0, 1) := by decide +kernel
theorem dX2_add_21 : decode cX2_add 21 = .ok (.dup, 1) := by decide +kernel
theorem dX2_add_22 : decode cX2_add 22 = .ok (.getfield 16, 3) := by decide +kernel
theorem dX2_add_25 : decode cX2_add 25 = .ok (.iload_n 3, 1) := by decide +kernel
theorem dX2_add_26 : decode cX2_add 26 = .ok (.aload_n 1, 1) := by decide +kernel
theorem dX2_add_27 : decode cX2_add 27 = .ok (.getfield 48, 3) := by decide +kernel
theorem dX2_add_30 : decode cX2_add 30 = .ok (.imul, 1) := by decide +kernel
theorem dX2_add_31 : decode cX2_add 31 = .ok (.iadd, 1) := by decide +kernel
theorem dX2_add_32 : decode cX2_add 32 = .ok (.putfield 16, 3) := by decide +kernel
theorem dX2_add_35 : decode cX2_add 35 = .ok (.aload_n 0, 1) := by decide +kernel
theorem dX2_add_36 : decode cX2_add 36 = .ok (.dup, 1) := by decide +kernel
theorem dX2_add_37 : decode cX2_add 37 = .ok (.getfield 19, 3) := by decide +kernel
theorem dX2_add_40 : decode cX2_add 40 = .ok (.iload_n 3, 1) := by decide +kernel
theorem dX2_add_41 : decode cX2_add 41 = .ok (.aload_n 1, 1) := by decide +kernel
theorem dX2_add_42 : decode cX2_add 42 = .ok (.getfield 53, 3) := by decide +kernel
theorem dX2_add_45 : decode cX2_add 45 = .ok (.imul, 1) := by decide +kernel
theorem dX2_add_46 : decode cX2_add 46 = .ok (.iadd, 1) := by decide +kernel
theorem dX2_add_47 : decode cX2_add 47 = .ok (.putfield 19, 3) := by decide +kernel
theorem dX2_add_50 : decode cX2_add 50 = .ok (.aload_n 0, 1) := by decide +kernel
theorem dX2_add_51 : decode cX2_add 51 = .ok (.dup, 1) := by decide +kernel
theorem dX2_add_52 : decode cX2_add 52 = .ok (.getfield 22, 3) := by decide +kernel
theorem dX2_add_55 : decode cX2_add 55 = .ok (.iload_n 3, 1) := by decide +kernel
theorem dX2_add_56 : decode cX2_add 56 = .ok (.aload_n 1, 1) := by decide +kernel
theorem dX2_add_57 : decode cX2_add 57 = .ok (.getfield 56, 3) := by decide +kernel
theorem dX2_add_60 : decode cX2_add 60 = .ok (.imul, 1) := by decide +kernel
theorem dX2_add_61 : decode cX2_add 61 = .ok (.iadd, 1) := by decide +kernel
theorem dX2_add_62 : decode cX2_add 62 = .ok (.putfield 22, 3) := by decide +kernel
theorem dX2_add_65 : decode cX2_add 65 = .ok (.aload_n 0, 1) := by decide +kernel
theorem dX2_add_66 : decode cX2_add 66 = .ok (.dup, 1) := by decide +kernel
theorem dX2_add_67 : decode cX2_add 67 = .ok (.getfield 25, 3) := by decide +kernel
theorem dX2_add_70 : decode cX2_add 70 = .ok (.iload_n 3, 1) := by decide +kernel
theorem dX2_add_71 : decode cX2_add 71 = .ok (.aload_n 1, 1) := by decide +kernel
theorem dX2_add_72 : decode cX2_add 72 = .ok (.getfield 59, 3) := by decide +kernel
theorem dX2_add_75 : decode cX2_add 75 = .ok (.imul, 1) := by decide +kernel
theorem dX2_add_76 : decode cX2_add 76 = .ok (.iadd, 1) := by decide +kernel
theorem dX2_add_77 : decode cX2_add 77 = .ok (.putfield 25, 3) := by decide +kernel
theorem dX2_add_80 : decode cX2_add 80 = .ok (.aload_n 0, 1) := by decide +kernel
theorem dX2_add_81 : decode cX2_add 81 = .ok (.dup, 1) := by decide +kernel
theorem dX2_add_82 : decode cX2_add 82 = .ok (.getfield 28, 3) := by decide +kernel
theorem dX2_add_85 : decode cX2_add 85 = .ok (.aload_n 1, 1) := by decide +kernel
theorem dX2_add_86 : decode cX2_add 86 = .ok (.getfield 60, 3) := by decide +kernel
theorem dX2_add_89 : decode cX2_add 89 = .ok (.ior, 1) := by decide +kernel
theorem dX2_add_90 : decode cX2_add 90 = .ok (.putfield 28, 3) := by decide +kernel
theorem dX2_add_93 : decode cX2_add 93 = .ok (.aload_n 0, 1) := by decide +kernel
theorem dX2_add_94 : decode cX2_add 94 = .ok (.dup, 1) := by decide +kernel
theorem dX2_add_95 : decode cX2_add 95 = .ok (.getfield 31, 3) := by decide +kernel
theorem dX2_add_98 : decode cX2_add 98 = .ok (.iconst 1, 1) := by decide +kernel
theorem dX2_add_99 : decode cX2_add 99 = .ok (.iload_n 2, 1) := by decide +kernel
theorem dX2_add_100 : decode cX2_add 100 = .ok (.ishl, 1) := by decide +kernel
theorem dX2_add_101 : decode cX2_add 101 = .ok (.ior, 1) := by decide +kernel
theorem dX2_add_102 : decode cX2_add 102 = .ok (.putfield 31, 3) := by decide +kernel
theorem dX2_add_105 : decode cX2_add 105 = .ok (.aload_n 0, 1) := by decide +kernel
theorem dX2_add_106 : decode cX2_add 106 = .ok (.iconst 0, 1) := by decide +kernel
theorem dX2_add_107 : decode cX2_add 107 = .ok (.putfield 40, 3) := by decide +kernel
theorem dX2_add_110 : decode cX2_add 110 = .ok (.aload_n 0, 1) := by decide +kernel
theorem dX2_add_111 : decode cX2_add 111 = .ok (.aload_n 0, 1) := by decide +kernel
theorem dX2_add_112 : decode cX2_add 112 = .ok (.aload_n 0, 1) := by decide +kernel
theorem dX2_add_113 : decode cX2_add 113 = .ok (.getfield 22, 3) := by decide +kernel
theorem dX2_add_116 : decode cX2_add 116 = .ok (.invokevirtual 61, 3) := by decide +kernel
theorem dX2_add_119 : decode cX2_add 119 = .ok (.ldc2_w 65, 3) := by decide +kernel
theorem dX2_add_122 : decode cX2_add 122 = .ok (.dmul, 1) := by decide +kernel
theorem dX2_add_123 : decode cX2_add 123 = .ok (.aload_n 0, 1) := by decide +kernel
theorem dX2_add_124 : decode cX2_add 124 = .ok (.aload_n 0, 1) := by decide +kernel
theorem dX2_add_125 : decode cX2_add 125 = .ok (.getfield 19, 3) := by decide +kernel
theorem dX2_add_128 : decode cX2_add 128 = .ok (.invokevirtual 61, 3) := by decide +kernel
theorem dX2_add_131 : decode cX2_add 131 = .ok (.ldc2_w 67, 3) := by decide +kernel
theorem dX2_add_134 : decode cX2_add 134 = .ok (.dmul, 1) := by decide +kernel
theorem dX2_add_135 : decode cX2_add 135 = .ok (.dadd, 1) := by decide +kernel
theorem dX2_add_136 : decode cX2_add 136 = .ok (.dneg, 1) := by decide +kernel
theorem dX2_add_137 : decode cX2_add 137 = .ok (.putfield 44, 3) := by decide +kernel
theorem dX2_add_140 : decode cX2_add 140 = .ok (.return_, 1) := by decide +kernel
theorem dX2_percent_0 : decode cX2_percent 0 = .ok (.aload_n 0, 1) := by decide +kernel
theorem dX2_percent_1 : decode cX2_percent 1 = .ok (.getfield 7, 3) := by decide +kernel
theorem dX2_percent_4 : decode cX2_percent 4 = .ok (.ifCond .le 18, 3) := by decide +kernel
theorem dX2_percent_7 : decode cX2_percent 7 = .ok (.iload_n 1, 1) := by decide +kernel
theorem dX2_percent_8 : decode cX2_percent 8 = .ok (.i2d, 1) := by decide +kernel
theorem dX2_percent_9 : decode cX2_percent 9 = .ok (.aload_n 0, 1) := by decide +kernel
theorem dX2_percent_10 : decode cX2_percent 10 = .ok (.getfield 7, 3) := by decide +kernel
theorem dX2_percent_13 : decode cX2_percent 13 = .ok (.i2d, 1) := by decide +kernel
theorem dX2_percent_14 : decode cX2_percent 14 = .ok (.ddiv, 1) := by decide +kernel
theorem dX2_percent_15 : decode cX2_percent 15 = .ok (.ldc2_w 69, 3) := by decide +kernel
theorem dX2_percent_18 : decode cX2_percent 18 = .ok (.ddiv, 1) := by decide +kernel
theorem dX2_percent_19 : decode cX2_percent 19 = .ok (.goto 4, 3) := by decide +kernel
theorem dX2_percent_22 : decode cX2_percent 22 = .ok (.dconst 0, 1) := by decide +kernel
theorem dX2_percent_23 : decode cX2_percent 23 = .ok (.dreturn, 1) := by decide +kernel
theorem dX2_iceShare_0 : decode cX2_iceShare 0 = .ok (.dload_n 1, 1) := by decide +kernel
theorem dX2_iceShare_1 : decode cX2_iceShare 1 = .ok (.aload_n 0, 1) := by decide +kernel
theorem dX2_iceShare_2 : decode cX2_iceShare 2 = .ok (.getfield 44, 3) := by decide +kernel
theorem dX2_iceShare_5 : decode cX2_iceShare 5 = .ok (.dcmp .g, 1) := by decide +kernel
theorem dX2_iceShare_6 : decode cX2_iceShare 6 = .ok (.ifCond .ge 14, 3) := by decide +kernel
theorem dX2_iceShare_9 : decode cX2_iceShare 9 = .ok (.dconst 1, 1) := by decide +kernel
theorem dX2_iceShare_10 : decode cX2_iceShare 10 = .ok (.aload_n 0, 1) := by decide +kernel
theorem dX2_iceShare_11 : decode cX2_iceShare 11 = .ok (.getfield 44, 3) := by decide +kernel
theorem dX2_iceShare_14 : decode cX2_iceShare 14 = .ok (.dload_n 1, 1) := by decide +kernel
theorem dX2_iceShare_15 : decode cX2_iceShare 15 = .ok (.ddiv, 1) := by decide +kernel
theorem dX2_iceShare_16 : decode cX2_iceShare 16 = .ok (.dsub, 1) := by decide +kernel
theorem dX2_iceShare_17 : decode cX2_iceShare 17 = .ok (.goto 4, 3) := by decide +kernel
theorem dX2_iceShare_20 : decode cX2_iceShare 20 = .ok (.dconst 0, 1) := by decide +kernel
theorem dX2_iceShare_21 : decode cX2_iceShare 21 = .ok (.dreturn, 1) := by decide +kernel
set_option maxRecDepth 20000 in
theorem ggX2_isCream_X2_percent : GoodIn wsX2_isCream wsX2_percent := goodIn_r _ [9, 10, 2, 11, 12, 13, 14, 15, 16, 17, 18, 19, 20, 21, 22] (by decide +kernel) (by decide +kernel)
set_option maxRecDepth 20000 in
theorem gX2_isCream_X2_percent : GoodIn wsX2_isCream (wsV RX2 61 RX2 yX2_percent wsX2_percent) := goodIn_app (goodIn_of _ (by decide +kernel)) ggX2_isCream_X2_percent
theorem dX2_isCream_0 : decode cX2_isCream 0 = .ok (.aload_n 0, 1) := by decide +kernel
theorem dX2_isCream_1 : decode cX2_isCream 1 = .ok (.aload_n 0, 1) := by decide +kernel
theorem dX2_isCream_2 : decode cX2_isCream 2 = .ok (.getfield 16, 3) := by decide +kernel
theorem dX2_isCream_5 : decode cX2_isCream 5 = .ok (.invokevirtual 61, 3) := by decide +kernel
theorem dX2_isCream_8 : decode cX2_isCream 8 = .ok (.ldc2_w 69, 3) := by decide +kernel
theorem dX2_isCream_11 : decode cX2_isCream 11 = .ok (.dcmp .l, 1) := by decide +kernel
theorem dX2_isCream_12 : decode cX2_isCream 12 = .ok (.ifCond .lt 22, 3) := by decide +kernel
theorem dX2_isCream_15 : decode cX2_isCream 15 = .ok (.aload_n 0, 1) := by decide +kernel
theorem dX2_isCream_16 : decode cX2_isCream 16 = .ok (.aload_n 0, 1) := by decide +kernel
theorem dX2_isCream_17 : decode cX2_isCream 17 = .ok (.getfield 19, 3) := by decide +kernel
theorem dX2_isCream_20 : decode cX2_isCream 20 = .ok (.invokevirtual 61, 3) := by decide +kernel
theorem dX2_isCream_23 : decode cX2_isCream 23 = .ok (.ldc2_w 71, 3) := by decide +kernel
theorem dX2_isCream_26 : decode cX2_isCream 26 = .ok (.dcmp .l, 1) := by decide +kernel
theorem dX2_isCream_27 : decode cX2_isCream 27 = .ok (.ifCond .lt 7, 3) := by decide +kernel
theorem dX2_isCream_30 : decode cX2_isCream 30 = .ok (.iconst 1, 1) := by decide +kernel
theorem dX2_isCream_31 : decode cX2_isCream 31 = .ok (.goto 4, 3) := by decide +kernel
theorem dX2_isCream_34 : decode cX2_isCream 34 = .ok (.iconst 0, 1) := by decide +kernel
theorem dX2_isCream_35 : decode cX2_isCream 35 = .ok (.ireturn, 1) := by decide +kernel
set_option maxRecDepth 20000 in
theorem ggX2_coarsening_X2_iceShare : GoodIn wsX2_coarsening wsX2_iceShare := goodIn_r _ [6, 7, 8, 9, 10, 11, 12, 13, 14, 15, 16, 17, 18, 19] (by decide +kernel) (by decide +kernel)
set_option maxRecDepth 20000 in
theorem gX2_coarsening_X2_iceShare : GoodIn wsX2_coarsening (wsV RX2 73 RX2 yX2_iceShare wsX2_iceShare) := goodIn_app (goodIn_of _ (by decide +kernel)) ggX2_coarsening_X2_iceShare
theorem dX2_coarsening_0 : decode cX2_coarsening 0 = .ok (.aload_n 0, 1) := by decide +kernel
theorem dX2_coarsening_1 : decode cX2_coarsening 1 = .ok (.dload_n 1, 1) := by decide +kernel
theorem dX2_coarsening_2 : decode cX2_coarsening 2 = .ok (.invokevirtual 73, 3) := by decide +kernel
theorem dX2_coarsening_5 : decode cX2_coarsening 5 = .ok (.aload_n 0, 1) := by decide +kernel
theorem dX2_coarsening_6 : decode cX2_coarsening 6 = .ok (.dload_n 3, 1) := by decide +kernel
theorem dX2_coarsening_7 : decode cX2_coarsening 7 = .ok (.invokevirtual 73, 3) := by decide +kernel
theorem dX2_coarsening_10 : decode cX2_coarsening 10 = .ok (.dsub, 1) := by decide +kernel
theorem dX2_coarsening_11 : decode cX2_coarsening 11 = .ok (.dstore 5, 2) := by decide +kernel
theorem dX2_coarsening_13 : decode cX2_coarsening 13 = .ok (.ldc2_w 77, 3) := by decide +kernel
theorem dX2_coarsening_16 : decode cX2_coarsening 16 = .ok (.dload 5, 2) := by decide +kernel
theorem dX2_coarsening_18 : decode cX2_coarsening 18 = .ok (.dconst 0, 1) := by decide +kernel
theorem dX2_coarsening_19 : decode cX2_coarsening 19 = .ok (.dcmp .g, 1) := by decide +kernel
theorem dX2_coarsening_20 : decode cX2_coarsening 20 = .ok (.ifCond .ge 9, 3) := by decide +kernel
theorem dX2_coarsening_23 : decode cX2_coarsening 23 = .ok (.dload 5, 2) := by decide +kernel
theorem dX2_coarsening_25 : decode cX2_coarsening 25 = .ok (.dneg, 1) := by decide +kernel
theorem dX2_coarsening_26 : decode cX2_coarsening 26 = .ok (.goto 5, 3) := by decide +kernel
theorem dX2_coarsening_29 : decode cX2_coarsening 29 = .ok (.dload 5, 2) := by decide +kernel
theorem dX2_coarsening_31 : decode cX2_coarsening 31 = .ok (.dmul, 1) := by decide +kernel
theorem dX2_coarsening_32 : decode cX2_coarsening 32 = .ok (.dreturn, 1) := by decide +kernel
theorem dX2_meltsAt_0 : decode cX2_meltsAt 0 = .ok (.dload_n 1, 1) := by decide +kernel
theorem dX2_meltsAt_1 : decode cX2_meltsAt 1 = .ok (.aload_n 0, 1) := by decide +kernel
theorem dX2_meltsAt_2 : decode cX2_meltsAt 2 = .ok (.getfield 44, 3) := by decide +kernel
theorem dX2_meltsAt_5 : decode cX2_meltsAt 5 = .ok (.dcmp .l, 1) := by decide +kernel
theorem dX2_meltsAt_6 : decode cX2_meltsAt 6 = .ok (.ifCond .lt 7, 3) := by decide +kernel
theorem dX2_meltsAt_9 : decode cX2_meltsAt 9 = .ok (.iconst 1, 1) := by decide +kernel
theorem dX2_meltsAt_10 : decode cX2_meltsAt 10 = .ok (.goto 4, 3) := by decide +kernel
theorem dX2_meltsAt_13 : decode cX2_meltsAt 13 = .ok (.iconst 0, 1) := by decide +kernel
theorem dX2_meltsAt_14 : decode cX2_meltsAt 14 = .ok (.ireturn, 1) := by decide +kernel
theorem dX3_init_0 : decode cX3_init 0 = .ok (.aload_n 0, 1) := by decide +kernel
theorem dX3_init_1 : decode cX3_init 1 = .ok (.invokespecial 1, 3) := by decide +kernel
theorem dX3_init_4 : decode cX3_init 4 = .ok (.aload_n 0, 1) := by decide +kernel
theorem dX3_init_5 : decode cX3_init 5 = .ok (.iconst 0, 1) := by decide +kernel
theorem dX3_init_6 : decode cX3_init 6 = .ok (.putfield 7, 3) := by decide +kernel
theorem dX3_init_9 : decode cX3_init 9 = .ok (.aload_n 0, 1) := by decide +kernel
theorem dX3_init_10 : decode cX3_init 10 = .ok (.dconst 0, 1) := by decide +kernel
theorem dX3_init_11 : decode cX3_init 11 = .ok (.putfield 13, 3) := by decide +kernel
theorem dX3_init_14 : decode cX3_init 14 = .ok (.return_, 1) := by decide +kernel
theorem dX3_hourLater_0 : decode cX3_hourLater 0 = .ok (.dload_n 1, 1) := by decide +kernel
theorem dX3_hourLater_1 : decode cX3_hourLater 1 = .ok (.aload_n 0, 1) := by decide +kernel
theorem dX3_hourLater_2 : decode cX3_hourLater 2 = .ok (.getfield 7, 3) := by decide +kernel
theorem dX3_hourLater_5 : decode cX3_hourLater 5 = .ok (.i2d, 1) := by decide +kernel
theorem dX3_hourLater_6 : decode cX3_hourLater 6 = .ok (.dload_n 1, 1) := by decide +kernel
theorem dX3_hourLater_7 : decode cX3_hourLater 7 = .ok (.dsub, 1) := by decide +kernel
theorem dX3_hourLater_8 : decode cX3_hourLater 8 = .ok (.ldc2_w 17, 3) := by decide +kernel
theorem dX3_hourLater_11 : decode cX3_hourLater 11 = .ok (.dmul, 1) := by decide +kernel
theorem dX3_hourLater_12 : decode cX3_hourLater 12 = .ok (.dadd, 1) := by decide +kernel
theorem dX3_hourLater_13 : decode cX3_hourLater 13 = .ok (.dreturn, 1) := by decide +kernel
set_option maxRecDepth 20000 in
theorem ggX4_init_X1_init : GoodIn wsX4_init wsX1_init := goodIn_r _ [32, 33, 2, 3, 34, 35, 36, 37, 38, 81, 82, 83, 84, 85] (by decide +kernel) (by decide +kernel)
set_option maxRecDepth 20000 in
theorem gX4_init_X1_init_n65 : GoodIn wsX4_init (wsX1_init) := ggX4_init_X1_init
set_option maxRecDepth 20000 in
theorem ggX4_init_X2_init : GoodIn wsX4_init wsX2_init := goodIn_r _ [40, 41, 2, 3, 42, 43, 44, 45, 46, 47, 48, 49, 50, 51, 52, 53, 86, 87, 88, 89, 90, 91, 92, 93, 94, 95, 96, 97] (by decide +kernel) (by decide +kernel)
set_option maxRecDepth 20000 in
theorem gX4_init_X2_init_n66 : GoodIn wsX4_init (wsX2_init) := ggX4_init_X2_init
set_option maxRecDepth 20000 in
theorem ggX4_init_X0_init : GoodIn wsX4_init wsX0_init := goodIn_r _ [55, 56, 2, 3, 57, 58, 59, 60, 61, 98, 99, 100, 101, 102] (by decide +kernel) (by decide +kernel)
set_option maxRecDepth 20000 in
theorem gX4_init_X0_init_n67 : GoodIn wsX4_init (wsX0_init) := ggX4_init_X0_init
set_option maxRecDepth 20000 in
theorem ggX4_init_X3_init : GoodIn wsX4_init wsX3_init := goodIn_r _ [63, 64, 2, 3, 65, 66, 103, 104] (by decide +kernel) (by decide +kernel)
set_option maxRecDepth 20000 in
theorem gX4_init_X3_init_n68 : GoodIn wsX4_init (wsX3_init) := ggX4_init_X3_init
theorem dX4_init_0 : decode cX4_init 0 = .ok (.aload_n 0, 1) := by decide +kernel
theorem dX4_init_1 : decode cX4_init 1 = .ok (.invokespecial 3, 3) := by decide +kernel
theorem dX4_init_4 : decode cX4_init 4 = .ok (.aload_n 0, 1) := by decide +kernel
theorem dX4_init_5 : decode cX4_init 5 = .ok (.bipush 6, 2) := by decide +kernel
theorem dX4_init_7 : decode cX4_init 7 = .ok (.anewarray 9, 3) := by decide +kernel
theorem dX4_init_10 : decode cX4_init 10 = .ok (.putfield 11, 3) := by decide +kernel
theorem dX4_init_13 : decode cX4_init 13 = .ok (.aload_n 0, 1) := by decide +kernel
theorem dX4_init_14 : decode cX4_init 14 = .ok (.iconst 5, 1) := by decide +kernel
theorem dX4_init_15 : decode cX4_init 15 = .ok (.anewarray 15, 3) := by decide +kernel
theorem dX4_init_18 : decode cX4_init 18 = .ok (.putfield 17, 3) := by decide +kernel
theorem dX4_init_21 : decode cX4_init 21 = .ok (.aload_n 0, 1) := by decide +kernel
theorem dX4_init_22 : decode cX4_init 22 = .ok (.bipush 12, 2) := by decide +kernel
theorem dX4_init_24 : decode cX4_init 24 = .ok (.anewarray 21, 3) := by decide +kernel
theorem dX4_init_27 : decode cX4_init 27 = .ok (.putfield 23, 3) := by decide +kernel
theorem dX4_init_30 : decode cX4_init 30 = .ok (.aload_n 0, 1) := by decide +kernel
theorem dX4_init_31 : decode cX4_init 31 = .ok (.iconst 3, 1) := by decide +kernel
theorem dX4_init_32 : decode cX4_init 32 = .ok (.anewarray 27, 3) := by decide +kernel
theorem dX4_init_35 : decode cX4_init 35 = .ok (.putfield 29, 3) := by decide +kernel
theorem dX4_init_38 : decode cX4_init 38 = .ok (.aload_n 0, 1) := by decide +kernel
theorem dX4_init_39 : decode cX4_init 39 = .ok (.iconst 2, 1) := by decide +kernel
theorem dX4_init_40 : decode cX4_init 40 = .ok (.newarray .int, 2) := by decide +kernel
theorem dX4_init_42 : decode cX4_init 42 = .ok (.putfield 33, 3) := by decide +kernel
theorem dX4_init_45 : decode cX4_init 45 = .ok (.aload_n 0, 1) := by decide +kernel
theorem dX4_init_46 : decode cX4_init 46 = .ok (.iconst 0, 1) := by decide +kernel
theorem dX4_init_47 : decode cX4_init 47 = .ok (.putfield 37, 3) := by decide +kernel
theorem dX4_init_50 : decode cX4_init 50 = .ok (.aload_n 0, 1) := by decide +kernel
theorem dX4_init_51 : decode cX4_init 51 = .ok (.iconst 0, 1) := by decide +kernel
theorem dX4_init_52 : decode cX4_init 52 = .ok (.putfield 41, 3) := by decide +kernel
theorem dX4_init_55 : decode cX4_init 55 = .ok (.aload_n 0, 1) := by decide +kernel
theorem dX4_init_56 : decode cX4_init 56 = .ok (.iconst 0, 1) := by decide +kernel
theorem dX4_init_57 : decode cX4_init 57 = .ok (.putfield 44, 3) := by decide +kernel
theorem dX4_init_60 : decode cX4_init 60 = .ok (.aload_n 0, 1) := by decide +kernel
theorem dX4_init_61 : decode cX4_init 61 = .ok (.iconst 0, 1) := by decide +kernel
theorem dX4_init_62 : decode cX4_init 62 = .ok (.putfield 47, 3) := by decide +kernel
theorem dX4_init_65 : decode cX4_init 65 = .ok (.aload_n 0, 1) := by decide +kernel
theorem dX4_init_66 : decode cX4_init 66 = .ok (.iconst 0, 1) := by decide +kernel
theorem dX4_init_67 : decode cX4_init 67 = .ok (.putfield 50, 3) := by decide +kernel
theorem dX4_init_70 : decode cX4_init 70 = .ok (.aload_n 0, 1) := by decide +kernel
theorem dX4_init_71 : decode cX4_init 71 = .ok (.iconst 0, 1) := by decide +kernel
theorem dX4_init_72 : decode cX4_init 72 = .ok (.putfield 53, 3) := by decide +kernel
theorem dX4_init_75 : decode cX4_init 75 = .ok (.aload_n 0, 1) := by decide +kernel
theorem dX4_init_76 : decode cX4_init 76 = .ok (.iconst 0, 1) := by decide +kernel
theorem dX4_init_77 : decode cX4_init 77 = .ok (.putfield 56, 3) := by decide +kernel
theorem dX4_init_80 : decode cX4_init 80 = .ok (.aload_n 0, 1) := by decide +kernel
theorem dX4_init_81 : decode cX4_init 81 = .ok (.iconst 0, 1) := by decide +kernel
theorem dX4_init_82 : decode cX4_init 82 = .ok (.putfield 59, 3) := by decide +kernel
theorem dX4_init_85 : decode cX4_init 85 = .ok (.aload_n 0, 1) := by decide +kernel
theorem dX4_init_86 : decode cX4_init 86 = .ok (.sipush 192, 3) := by decide +kernel
theorem dX4_init_89 : decode cX4_init 89 = .ok (.newarray .int, 2) := by decide +kernel
theorem dX4_init_91 : decode cX4_init 91 = .ok (.putfield 62, 3) := by decide +kernel
theorem dX4_init_94 : decode cX4_init 94 = .ok (.iconst 0, 1) := by decide +kernel
theorem dX4_init_95 : decode cX4_init 95 = .ok (.istore_n 1, 1) := by decide +kernel
theorem dX4_init_96 : decode cX4_init 96 = .ok (.iload_n 1, 1) := by decide +kernel
theorem dX4_init_97 : decode cX4_init 97 = .ok (.bipush 6, 2) := by decide +kernel
theorem dX4_init_99 : decode cX4_init 99 = .ok (.if_icmp .ge 22, 3) := by decide +kernel
theorem dX4_init_102 : decode cX4_init 102 = .ok (.aload_n 0, 1) := by decide +kernel
theorem dX4_init_103 : decode cX4_init 103 = .ok (.getfield 11, 3) := by decide +kernel
theorem dX4_init_106 : decode cX4_init 106 = .ok (.iload_n 1, 1) := by decide +kernel
theorem dX4_init_107 : decode cX4_init 107 = .ok (.new 9, 3) := by decide +kernel
theorem dX4_init_110 : decode cX4_init 110 = .ok (.dup, 1) := by decide +kernel
theorem dX4_init_111 : decode cX4_init 111 = .ok (.invokespecial 65, 3) := by decide +kernel
theorem dX4_init_114 : decode cX4_init 114 = .ok (.aastore, 1) := by decide +kernel
theorem dX4_init_115 : decode cX4_init 115 = .ok (.iinc 1 1, 3) := by decide +kernel
theorem dX4_init_118 : decode cX4_init 118 = .ok (.goto (-22), 3) := by decide +kernel
theorem dX4_init_121 : decode cX4_init 121 = .ok (.iconst 0, 1) := by decide +kernel
theorem dX4_init_122 : decode cX4_init 122 = .ok (.istore_n 1, 1) := by decide +kernel
theorem dX4_init_123 : decode cX4_init 123 = .ok (.iload_n 1, 1) := by decide +kernel
theorem dX4_init_124 : decode cX4_init 124 = .ok (.iconst 5, 1) := by decide +kernel
theorem dX4_init_125 : decode cX4_init 125 = .ok (.if_icmp .ge 22, 3) := by decide +kernel
theorem dX4_init_128 : decode cX4_init 128 = .ok (.aload_n 0, 1) := by decide +kernel
theorem dX4_init_129 : decode cX4_init 129 = .ok (.getfield 17, 3) := by decide +kernel
theorem dX4_init_132 : decode cX4_init 132 = .ok (.iload_n 1, 1) := by decide +kernel
theorem dX4_init_133 : decode cX4_init 133 = .ok (.new 15, 3) := by decide +kernel
theorem dX4_init_136 : decode cX4_init 136 = .ok (.dup, 1) := by decide +kernel
theorem dX4_init_137 : decode cX4_init 137 = .ok (.invokespecial 66, 3) := by decide +kernel
theorem dX4_init_140 : decode cX4_init 140 = .ok (.aastore, 1) := by decide +kernel
theorem dX4_init_141 : decode cX4_init 141 = .ok (.iinc 1 1, 3) := by decide +kernel
theorem dX4_init_144 : decode cX4_init 144 = .ok (.goto (-21), 3) := by decide +kernel
theorem dX4_init_147 : decode cX4_init 147 = .ok (.iconst 0, 1) := by decide +kernel
theorem dX4_init_148 : decode cX4_init 148 = .ok (.istore_n 1, 1) := by decide +kernel
theorem dX4_init_149 : decode cX4_init 149 = .ok (.iload_n 1, 1) := by decide +kernel
theorem dX4_init_150 : decode cX4_init 150 = .ok (.bipush 12, 2) := by decide +kernel
theorem dX4_init_152 : decode cX4_init 152 = .ok (.if_icmp .ge 22, 3) := by decide +kernel
theorem dX4_init_155 : decode cX4_init 155 = .ok (.aload_n 0, 1) := by decide +kernel
theorem dX4_init_156 : decode cX4_init 156 = .ok (.getfield 23, 3) := by decide +kernel
theorem dX4_init_159 : decode cX4_init 159 = .ok (.iload_n 1, 1) := by decide +kernel
theorem dX4_init_160 : decode cX4_init 160 = .ok (.new 21, 3) := by decide +kernel
theorem dX4_init_163 : decode cX4_init 163 = .ok (.dup, 1) := by decide +kernel
theorem dX4_init_164 : decode cX4_init 164 = .ok (.invokespecial 67, 3) := by decide +kernel
theorem dX4_init_167 : decode cX4_init 167 = .ok (.aastore, 1) := by decide +kernel
theorem dX4_init_168 : decode cX4_init 168 = .ok (.iinc 1 1, 3) := by decide +kernel
theorem dX4_init_171 : decode cX4_init 171 = .ok (.goto (-22), 3) := by decide +kernel
theorem dX4_init_174 : decode cX4_init 174 = .ok (.iconst 0, 1) := by decide +kernel
theorem dX4_init_175 : decode cX4_init 175 = .ok (.istore_n 1, 1) := by decide +kernel
theorem dX4_init_176 : decode cX4_init 176 = .ok (.iload_n 1, 1) := by decide +kernel
theorem dX4_init_177 : decode cX4_init 177 = .ok (.iconst 3, 1) := by decide +kernel
theorem dX4_init_178 : decode cX4_init 178 = .ok (.if_icmp .ge 22, 3) := by decide +kernel
theorem dX4_init_181 : decode cX4_init 181 = .ok (.aload_n 0, 1) := by decide +kernel
theorem dX4_init_182 : decode cX4_init 182 = .ok (.getfield 29, 3) := by decide +kernel
theorem dX4_init_185 : decode cX4_init 185 = .ok (.iload_n 1, 1) := by decide +kernel
theorem dX4_init_186 : decode cX4_init 186 = .ok (.new 27, 3) := by decide +kernel
theorem dX4_init_189 : decode cX4_init 189 = .ok (.dup, 1) := by decide +kernel
theorem dX4_init_190 : decode cX4_init 190 = .ok (.invokespecial 68, 3) := by decide +kernel
theorem dX4_init_193 : decode cX4_init 193 = .ok (.aastore, 1) := by decide +kernel
theorem dX4_init_194 : decode cX4_init 194 = .ok (.iinc 1 1, 3) := by decide +kernel
theorem dX4_init_197 : decode cX4_init 197 = .ok (.goto (-21), 3) := by decide +kernel
theorem dX4_init_200 : decode cX4_init 200 = .ok (.return_, 1) := by decide +kernel
set_option maxRecDepth 20000 in
theorem ggX4_ingredient_X4_checkRange : GoodIn wsX4_ingredient wsX4_checkRange := goodIn_ca (goodIn_r _ [6, 7, 8] (by decide +kernel) (by decide +kernel)) (goodIn_sub (fun _ h => List.mem_cons_of_mem _ (List.mem_append_left _ (List.mem_append_right _ h))) (by decide +kernel))
set_option maxRecDepth 20000 in
theorem gX4_ingredient_X4_checkRange : GoodIn wsX4_ingredient (va_wsS RX4 69 yX4_checkRange wsX4_checkRange) := goodIn_app (goodIn_of _ (by decide +kernel)) ggX4_ingredient_X4_checkRange
set_option maxRecDepth 20000 in
theorem ggX4_ingredient_X4_checkRoom : GoodIn wsX4_ingredient wsX4_checkRoom := goodIn_ca (goodIn_r _ [11, 12, 13] (by decide +kernel) (by decide +kernel)) (goodIn_sub (fun _ h => List.mem_cons_of_mem _ (List.mem_append_right _ h)) (by decide +kernel))
set_option maxRecDepth 20000 in
theorem gX4_ingredient_X4_checkRoom : GoodIn wsX4_ingredient (va_wsS RX4 73 yX4_checkRoom wsX4_checkRoom) := goodIn_app (goodIn_of _ (by decide +kernel)) ggX4_ingredient_X4_checkRoom
theorem dX4_ingredient_0 : decode cX4_ingredient 0 = .ok (.iload_n 1, 1) := by decide +kernel
theorem dX4_ingredient_1 : decode cX4_ingredient 1 = .ok (.iconst 0, 1) := by decide +kernel
theorem dX4_ingredient_2 : decode cX4_ingredient 2 = .ok (.sipush 1000, 3) := by decide +kernel
theorem dX4_ingredient_5 : decode cX4_ingredient 5 = .ok (.invokestatic 69, 3) := by decide +kernel
theorem dX4_ingredient_8 : decode cX4_ingredient 8 = .ok (.iload_n 2, 1) := by decide +kernel
theorem dX4_ingredient_9 : decode cX4_ingredient 9 = .ok (.iconst 0, 1) := by decide +kernel
theorem dX4_ingredient_10 : decode cX4_ingredient 10 = .ok (.sipush 1000, 3) := by decide +kernel
theorem dX4_ingredient_13 : decode cX4_ingredient 13 = .ok (.iload_n 1, 1) := by decide +kernel
theorem dX4_ingredient_14 : decode cX4_ingredient 14 = .ok (.isub, 1) := by decide +kernel
theorem dX4_ingredient_15 : decode cX4_ingredient 15 = .ok (.invokestatic 69, 3) := by decide +kernel
theorem dX4_ingredient_18 : decode cX4_ingredient 18 = .ok (.iload_n 3, 1) := by decide +kernel
theorem dX4_ingredient_19 : decode cX4_ingredient 19 = .ok (.iconst 0, 1) := by decide +kernel
theorem dX4_ingredient_20 : decode cX4_ingredient 20 = .ok (.sipush 1000, 3) := by decide +kernel
theorem dX4_ingredient_23 : decode cX4_ingredient 23 = .ok (.iload_n 1, 1) := by decide +kernel
theorem dX4_ingredient_24 : decode cX4_ingredient 24 = .ok (.isub, 1) := by decide +kernel
theorem dX4_ingredient_25 : decode cX4_ingredient 25 = .ok (.iload_n 2, 1) := by decide +kernel
theorem dX4_ingredient_26 : decode cX4_ingredient 26 = .ok (.isub, 1) := by decide +kernel
theorem dX4_ingredient_27 : decode cX4_ingredient 27 = .ok (.invokestatic 69, 3) := by decide +kernel
theorem dX4_ingredient_30 : decode cX4_ingredient 30 = .ok (.iload 4, 2) := by decide +kernel
theorem dX4_ingredient_32 : decode cX4_ingredient 32 = .ok (.iconst 1, 1) := by decide +kernel
theorem dX4_ingredient_33 : decode cX4_ingredient 33 = .ok (.bipush 99, 2) := by decide +kernel
theorem dX4_ingredient_35 : decode cX4_ingredient 35 = .ok (.invokestatic 69, 3) := by decide +kernel
theorem dX4_ingredient_38 : decode cX4_ingredient 38 = .ok (.iload 5, 2) := by decide +kernel
theorem dX4_ingredient_40 : decode cX4_ingredient 40 = .ok (.iconst 0, 1) := by decide +kernel
theorem dX4_ingredient_41 : decode cX4_ingredient 41 = .ok (.bipush 15, 2) := by decide +kernel
theorem dX4_ingredient_43 : decode cX4_ingredient 43 = .ok (.invokestatic 69, 3) := by decide +kernel
theorem dX4_ingredient_46 : decode cX4_ingredient 46 = .ok (.aload_n 0, 1) := by decide +kernel
theorem dX4_ingredient_47 : decode cX4_ingredient 47 = .ok (.getfield 37, 3) := by decide +kernel
theorem dX4_ingredient_50 : decode cX4_ingredient 50 = .ok (.bipush 6, 2) := by decide +kernel
theorem dX4_ingredient_52 : decode cX4_ingredient 52 = .ok (.invokestatic 73, 3) := by decide +kernel
theorem dX4_ingredient_55 : decode cX4_ingredient 55 = .ok (.aload_n 0, 1) := by decide +kernel
theorem dX4_ingredient_56 : decode cX4_ingredient 56 = .ok (.getfield 11, 3) := by decide +kernel
theorem dX4_ingredient_59 : decode cX4_ingredient 59 = .ok (.aload_n 0, 1) := by decide +kernel
theorem dX4_ingredient_60 : decode cX4_ingredient 60 = .ok (.getfield 37, 3) := by decide +kernel
theorem dX4_ingredient_63 : decode cX4_ingredient 63 = .ok (.aaload, 1) := by decide +kernel
theorem dX4_ingredient_64 : decode cX4_ingredient 64 = .ok (.astore 6, 2) := by decide +kernel
theorem dX4_ingredient_66 : decode cX4_ingredient 66 = .ok (.aload 6, 2) := by decide +kernel
theorem dX4_ingredient_68 : decode cX4_ingredient 68 = .ok (.iload_n 1, 1) := by decide +kernel
theorem dX4_ingredient_69 : decode cX4_ingredient 69 = .ok (.putfield 77, 3) := by decide +kernel
theorem dX4_ingredient_72 : decode cX4_ingredient 72 = .ok (.aload 6, 2) := by decide +kernel
theorem dX4_ingredient_74 : decode cX4_ingredient 74 = .ok (.iload_n 2, 1) := by decide +kernel
theorem dX4_ingredient_75 : decode cX4_ingredient 75 = .ok (.putfield 80, 3) := by decide +kernel
theorem dX4_ingredient_78 : decode cX4_ingredient 78 = .ok (.aload 6, 2) := by decide +kernel
theorem dX4_ingredient_80 : decode cX4_ingredient 80 = .ok (.iload_n 3, 1) := by decide +kernel
theorem dX4_ingredient_81 : decode cX4_ingredient 81 = .ok (.putfield 83, 3) := by decide +kernel
theorem dX4_ingredient_84 : decode cX4_ingredient 84 = .ok (.aload 6, 2) := by decide +kernel
theorem dX4_ingredient_86 : decode cX4_ingredient 86 = .ok (.iload 4, 2) := by decide +kernel
theorem dX4_ingredient_88 : decode cX4_ingredient 88 = .ok (.putfield 86, 3) := by decide +kernel
theorem dX4_ingredient_91 : decode cX4_ingredient 91 = .ok (.aload 6, 2) := by decide +kernel
theorem dX4_ingredient_93 : decode cX4_ingredient 93 = .ok (.iload 5, 2) := by decide +kernel
theorem dX4_ingredient_95 : decode cX4_ingredient 95 = .ok (.putfield 89, 3) := by decide +kernel
theorem dX4_ingredient_98 : decode cX4_ingredient 98 = .ok (.aload_n 0, 1) := by decide +kernel
theorem dX4_ingredient_99 : decode cX4_ingredient 99 = .ok (.dup, 1) := by decide +kernel
theorem dX4_ingredient_100 : decode cX4_ingredient 100 = .ok (.getfield 37, 3) := by decide +kernel
theorem dX4_ingredient_103 : decode cX4_ingredient 103 = .ok (.iconst 1, 1) := by decide +kernel
theorem dX4_ingredient_104 : decode cX4_ingredient 104 = .ok (.iadd, 1) := by decide +kernel
theorem dX4_ingredient_105 : decode cX4_ingredient 105 = .ok (.putfield 37, 3) := by decide +kernel
theorem dX4_ingredient_108 : decode cX4_ingredient 108 = .ok (.aload_n 0, 1) := by decide +kernel
theorem dX4_ingredient_109 : decode cX4_ingredient 109 = .ok (.getfield 37, 3) := by decide +kernel
theorem dX4_ingredient_112 : decode cX4_ingredient 112 = .ok (.iconst 1, 1) := by decide +kernel
theorem dX4_ingredient_113 : decode cX4_ingredient 113 = .ok (.isub, 1) := by decide +kernel
theorem dX4_ingredient_114 : decode cX4_ingredient 114 = .ok (.ireturn, 1) := by decide +kernel
set_option maxRecDepth 20000 in
theorem ggX4_mix_X4_checkNumber : GoodIn wsX4_mix wsX4_checkNumber := goodIn_ca (goodIn_r _ [8, 9, 10] (by decide +kernel) (by decide +kernel)) (goodIn_sub (fun _ h => List.mem_cons_of_mem _ (List.mem_append_left _ (List.mem_append_left _ (List.mem_append_right _ h)))) (by decide +kernel))
set_option maxRecDepth 20000 in
theorem gX4_mix_X4_checkNumber : GoodIn wsX4_mix (va_wsS RX4 92 yX4_checkNumber wsX4_checkNumber) := goodIn_app (goodIn_of _ (by decide +kernel)) ggX4_mix_X4_checkNumber
set_option maxRecDepth 20000 in
theorem ggX4_mix_X4_checkRange : GoodIn wsX4_mix wsX4_checkRange := goodIn_ca (goodIn_r _ [13, 14, 15] (by decide +kernel) (by decide +kernel)) (goodIn_sub (fun _ h => List.mem_cons_of_mem _ (List.mem_append_left _ (List.mem_append_right _ h))) (by decide +kernel))
set_option maxRecDepth 20000 in
theorem gX4_mix_X4_checkRange : GoodIn wsX4_mix (va_wsS RX4 69 yX4_checkRange wsX4_checkRange) := goodIn_app (goodIn_of _ (by decide +kernel)) ggX4_mix_X4_checkRange
set_option maxRecDepth 20000 in
theorem ggX4_mix_X4_checkRoom : GoodIn wsX4_mix wsX4_checkRoom := goodIn_ca (goodIn_r _ [18, 19, 20] (by decide +kernel) (by decide +kernel)) (goodIn_sub (fun _ h => List.mem_cons_of_mem _ (List.mem_append_right _ h)) (by decide +kernel))
set_option maxRecDepth 20000 in
theorem gX4_mix_X4_checkRoom : GoodIn wsX4_mix (va_wsS RX4 73 yX4_checkRoom wsX4_checkRoom) := goodIn_app (goodIn_of _ (by decide +kernel)) ggX4_mix_X4_checkRoom
set_option maxRecDepth 20000 in
theorem ggX4_mix_X2_add : GoodIn wsX4_mix wsX2_add := goodIn_r _ [24, 25, 26, 27, 28, 29, 30, 31, 32, 33, 34, 35, 36, 37, 38, 39, 22, 40, 41, 56, 57, 58, 59, 60, 61, 62, 63, 64, 65, 66, 67, 68, 69, 70, 71, 72] (by decide +kernel) (by decide +kernel)
set_option maxRecDepth 20000 in
theorem gX4_mix_X2_add_n95 : GoodIn wsX4_mix (wsX2_add) := ggX4_mix_X2_add
theorem dX4_mix_0 : decode cX4_mix 0 = .ok (.iload_n 1, 1) := by decide +kernel
theorem dX4_mix_1 : decode cX4_mix 1 = .ok (.aload_n 0, 1) := by decide +kernel
theorem dX4_mix_2 : decode cX4_mix 2 = .ok (.getfield 37, 3) := by decide +kernel
theorem dX4_mix_5 : decode cX4_mix 5 = .ok (.invokestatic 92, 3) := by decide +kernel
theorem dX4_mix_8 : decode cX4_mix 8 = .ok (.iload_n 2, 1) := by decide +kernel
theorem dX4_mix_9 : decode cX4_mix 9 = .ok (.iconst 1, 1) := by decide +kernel
theorem dX4_mix_10 : decode cX4_mix 10 = .ok (.sipush 500, 3) := by decide +kernel
theorem dX4_mix_13 : decode cX4_mix 13 = .ok (.invokestatic 69, 3) := by decide +kernel
theorem dX4_mix_16 : decode cX4_mix 16 = .ok (.aload_n 0, 1) := by decide +kernel
theorem dX4_mix_17 : decode cX4_mix 17 = .ok (.getfield 41, 3) := by decide +kernel
theorem dX4_mix_20 : decode cX4_mix 20 = .ok (.iconst 5, 1) := by decide +kernel
theorem dX4_mix_21 : decode cX4_mix 21 = .ok (.invokestatic 73, 3) := by decide +kernel
theorem dX4_mix_24 : decode cX4_mix 24 = .ok (.aload_n 0, 1) := by decide +kernel
theorem dX4_mix_25 : decode cX4_mix 25 = .ok (.getfield 17, 3) := by decide +kernel
theorem dX4_mix_28 : decode cX4_mix 28 = .ok (.aload_n 0, 1) := by decide +kernel
theorem dX4_mix_29 : decode cX4_mix 29 = .ok (.getfield 41, 3) := by decide +kernel
theorem dX4_mix_32 : decode cX4_mix 32 = .ok (.aaload, 1) := by decide +kernel
theorem dX4_mix_33 : decode cX4_mix 33 = .ok (.aload_n 0, 1) := by decide +kernel
theorem dX4_mix_34 : decode cX4_mix 34 = .ok (.getfield 11, 3) := by decide +kernel
theorem dX4_mix_37 : decode cX4_mix 37 = .ok (.iload_n 1, 1) := by decide +kernel
theorem dX4_mix_38 : decode cX4_mix 38 = .ok (.aaload, 1) := by decide +kernel
theorem dX4_mix_39 : decode cX4_mix 39 = .ok (.iload_n 1, 1) := by decide +kernel
theorem dX4_mix_40 : decode cX4_mix 40 = .ok (.iload_n 2, 1) := by decide +kernel
theorem dX4_mix_41 : decode cX4_mix 41 = .ok (.invokevirtual 95, 3) := by decide +kernel
theorem dX4_mix_44 : decode cX4_mix 44 = .ok (.aload_n 0, 1) := by decide +kernel
theorem dX4_mix_45 : decode cX4_mix 45 = .ok (.dup, 1) := by decide +kernel
theorem dX4_mix_46 : decode cX4_mix 46 = .ok (.getfield 41, 3) := by decide +kernel
theorem dX4_mix_49 : decode cX4_mix 49 = .ok (.iconst 1, 1) := by decide +kernel
theorem dX4_mix_50 : decode cX4_mix 50 = .ok (.iadd, 1) := by decide +kernel
theorem dX4_mix_51 : decode cX4_mix 51 = .ok (.putfield 41, 3) := by decide +kernel
theorem dX4_mix_54 : decode cX4_mix 54 = .ok (.aload_n 0, 1) := by decide +kernel
theorem dX4_mix_55 : decode cX4_mix 55 = .ok (.getfield 41, 3) := by decide +kernel
theorem dX4_mix_58 : decode cX4_mix 58 = .ok (.iconst 1, 1) := by decide +kernel
theorem dX4_mix_59 : decode cX4_mix 59 = .ok (.isub, 1) := by decide +kernel
theorem dX4_mix_60 : decode cX4_mix 60 = .ok (.ireturn, 1) := by decide +kernel
set_option maxRecDepth 20000 in
theorem ggX4_put_X4_checkNumber : GoodIn wsX4_put wsX4_checkNumber := goodIn_ca (goodIn_r _ [10, 11, 12] (by decide +kernel) (by decide +kernel)) (goodIn_sub (fun _ h => List.mem_cons_of_mem _ (List.mem_append_left _ (List.mem_append_right _ h))) (by decide +kernel))
set_option maxRecDepth 20000 in
theorem gX4_put_X4_checkNumber : GoodIn wsX4_put (va_wsS RX4 92 yX4_checkNumber wsX4_checkNumber) := goodIn_app (goodIn_of _ (by decide +kernel)) ggX4_put_X4_checkNumber
set_option maxRecDepth 20000 in
theorem ggX4_put_X4_checkRange : GoodIn wsX4_put wsX4_checkRange := goodIn_ca (goodIn_r _ [15, 16, 17] (by decide +kernel) (by decide +kernel)) (goodIn_sub (fun _ h => List.mem_cons_of_mem _ (List.mem_append_right _ h)) (by decide +kernel))
set_option maxRecDepth 20000 in
theorem gX4_put_X4_checkRange : GoodIn wsX4_put (va_wsS RX4 69 yX4_checkRange wsX4_checkRange) := goodIn_app (goodIn_of _ (by decide +kernel)) ggX4_put_X4_checkRange
set_option maxRecDepth 20000 in
theorem ggX4_put_X2_add : GoodIn wsX4_put wsX2_add := goodIn_r _ [21, 22, 23, 24, 25, 26, 27, 28, 29, 30, 31, 32, 33, 34, 35, 36, 19, 37, 38, 53, 54, 55, 56, 57, 58, 59, 60, 61, 62, 63, 64, 65, 66, 67, 68, 69] (by decide +kernel) (by decide +kernel)
set_option maxRecDepth 20000 in
theorem gX4_put_X2_add_n95 : GoodIn wsX4_put (wsX2_add) := ggX4_put_X2_add
theorem dX4_put_0 : decode cX4_put 0 = .ok (.iload_n 1, 1) := by decide +kernel
theorem dX4_put_1 : decode cX4_put 1 = .ok (.aload_n 0, 1) := by decide +kernel
theorem dX4_put_2 : decode cX4_put 2 = .ok (.getfield 41, 3) := by decide +kernel
theorem dX4_put_5 : decode cX4_put 5 = .ok (.invokestatic 92, 3) := by decide +kernel
theorem dX4_put_8 : decode cX4_put 8 = .ok (.iload_n 2, 1) := by decide +kernel
theorem dX4_put_9 : decode cX4_put 9 = .ok (.aload_n 0, 1) := by decide +kernel
theorem dX4_put_10 : decode cX4_put 10 = .ok (.getfield 37, 3) := by decide +kernel
theorem dX4_put_13 : decode cX4_put 13 = .ok (.invokestatic 92, 3) := by decide +kernel
theorem dX4_put_16 : decode cX4_put 16 = .ok (.iload_n 3, 1) := by decide +kernel
theorem dX4_put_17 : decode cX4_put 17 = .ok (.iconst 1, 1) := by decide +kernel
theorem dX4_put_18 : decode cX4_put 18 = .ok (.sipush 500, 3) := by decide +kernel
theorem dX4_put_21 : decode cX4_put 21 = .ok (.invokestatic 69, 3) := by decide +kernel
theorem dX4_put_24 : decode cX4_put 24 = .ok (.aload_n 0, 1) := by decide +kernel
theorem dX4_put_25 : decode cX4_put 25 = .ok (.getfield 17, 3) := by decide +kernel
theorem dX4_put_28 : decode cX4_put 28 = .ok (.iload_n 1, 1) := by decide +kernel
theorem dX4_put_29 : decode cX4_put 29 = .ok (.aaload, 1) := by decide +kernel
theorem dX4_put_30 : decode cX4_put 30 = .ok (.astore 4, 2) := by decide +kernel
theorem dX4_put_32 : decode cX4_put 32 = .ok (.aload 4, 2) := by decide +kernel
theorem dX4_put_34 : decode cX4_put 34 = .ok (.getfield 99, 3) := by decide +kernel
theorem dX4_put_37 : decode cX4_put 37 = .ok (.iload_n 3, 1) := by decide +kernel
theorem dX4_put_38 : decode cX4_put 38 = .ok (.iadd, 1) := by decide +kernel
theorem dX4_put_39 : decode cX4_put 39 = .ok (.sipush 500, 3) := by decide +kernel
theorem dX4_put_42 : decode cX4_put 42 = .ok (.if_icmp .gt 11, 3) := by decide +kernel
theorem dX4_put_45 : decode cX4_put 45 = .ok (.aload 4, 2) := by decide +kernel
theorem dX4_put_47 : decode cX4_put 47 = .ok (.getfield 102, 3) := by decide +kernel
theorem dX4_put_50 : decode cX4_put 50 = .ok (.ifCond .le 13, 3) := by decide +kernel
theorem dX4_put_53 : decode cX4_put 53 = .ok (.new 105, 3) := by decide +kernel
theorem dX4_put_56 : decode cX4_put 56 = .ok (.dup, 1) := by decide +kernel
theorem dX4_put_57 : decode cX4_put 57 = .ok (.ldc 107, 2) := by decide +kernel
theorem dX4_put_59 : decode cX4_put 59 = .ok (.invokespecial 109, 3) := by decide +kernel
theorem dX4_put_62 : decode cX4_put 62 = .ok (.athrow, 1) := by decide +kernel
theorem dX4_put_63 : decode cX4_put 63 = .ok (.aload 4, 2) := by decide +kernel
theorem dX4_put_65 : decode cX4_put 65 = .ok (.aload_n 0, 1) := by decide +kernel
theorem dX4_put_66 : decode cX4_put 66 = .ok (.getfield 11, 3) := by decide +kernel
theorem dX4_put_69 : decode cX4_put 69 = .ok (.iload_n 2, 1) := by decide +kernel
theorem dX4_put_70 : decode cX4_put 70 = .ok (.aaload, 1) := by decide +kernel
theorem dX4_put_71 : decode cX4_put 71 = .ok (.iload_n 2, 1) := by decide +kernel
theorem dX4_put_72 : decode cX4_put 72 = .ok (.iload_n 3, 1) := by decide +kernel
theorem dX4_put_73 : decode cX4_put 73 = .ok (.invokevirtual 95, 3) := by decide +kernel
theorem dX4_put_76 : decode cX4_put 76 = .ok (.aload 4, 2) := by decide +kernel
theorem dX4_put_78 : decode cX4_put 78 = .ok (.getfield 99, 3) := by decide +kernel
theorem dX4_put_81 : decode cX4_put 81 = .ok (.ireturn, 1) := by decide +kernel
set_option maxRecDepth 20000 in
theorem ggX4_heat_X4_checkNumber : GoodIn wsX4_heat wsX4_checkNumber := goodIn_ca (goodIn_r _ [6, 7, 8] (by decide +kernel) (by decide +kernel)) (goodIn_sub (fun _ h => List.mem_cons_of_mem _ (List.mem_append_left _ (List.mem_append_right _ h))) (by decide +kernel))
set_option maxRecDepth 20000 in
theorem gX4_heat_X4_checkNumber : GoodIn wsX4_heat (va_wsS RX4 92 yX4_checkNumber wsX4_checkNumber) := goodIn_app (goodIn_of _ (by decide +kernel)) ggX4_heat_X4_checkNumber
set_option maxRecDepth 20000 in
theorem ggX4_heat_X4_checkRange : GoodIn wsX4_heat wsX4_checkRange := goodIn_ca (goodIn_r _ [11, 12, 13] (by decide +kernel) (by decide +kernel)) (goodIn_sub (fun _ h => List.mem_cons_of_mem _ (List.mem_append_right _ h)) (by decide +kernel))
set_option maxRecDepth 20000 in
theorem gX4_heat_X4_checkRange : GoodIn wsX4_heat (va_wsS RX4 69 yX4_checkRange wsX4_checkRange) := goodIn_app (goodIn_of _ (by decide +kernel)) ggX4_heat_X4_checkRange
set_option maxRecDepth 20000 in
theorem ggX4_heat_X4_proves : GoodIn wsX4_heat wsX4_proves := goodIn_r _ [16] (by decide +kernel) (by decide +kernel)
set_option maxRecDepth 20000 in
theorem gX4_heat_X4_proves : GoodIn wsX4_heat (va_wsS RX4 116 yX4_proves wsX4_proves) := goodIn_app (goodIn_of _ (by decide +kernel)) ggX4_heat_X4_proves
theorem dX4_heat_0 : decode cX4_heat 0 = .ok (.iload_n 1, 1) := by decide +kernel
theorem dX4_heat_1 : decode cX4_heat 1 = .ok (.aload_n 0, 1) := by decide +kernel
theorem dX4_heat_2 : decode cX4_heat 2 = .ok (.getfield 41, 3) := by decide +kernel
theorem dX4_heat_5 : decode cX4_heat 5 = .ok (.invokestatic 92, 3) := by decide +kernel
theorem dX4_heat_8 : decode cX4_heat 8 = .ok (.iload_n 2, 1) := by decide +kernel
theorem dX4_heat_9 : decode cX4_heat 9 = .ok (.bipush 20, 2) := by decide +kernel
theorem dX4_heat_11 : decode cX4_heat 11 = .ok (.bipush 120, 2) := by decide +kernel
theorem dX4_heat_13 : decode cX4_heat 13 = .ok (.invokestatic 69, 3) := by decide +kernel
theorem dX4_heat_16 : decode cX4_heat 16 = .ok (.iload_n 3, 1) := by decide +kernel
theorem dX4_heat_17 : decode cX4_heat 17 = .ok (.iconst 1, 1) := by decide +kernel
theorem dX4_heat_18 : decode cX4_heat 18 = .ok (.sipush 9999, 3) := by decide +kernel
theorem dX4_heat_21 : decode cX4_heat 21 = .ok (.invokestatic 69, 3) := by decide +kernel
theorem dX4_heat_24 : decode cX4_heat 24 = .ok (.aload_n 0, 1) := by decide +kernel
theorem dX4_heat_25 : decode cX4_heat 25 = .ok (.getfield 17, 3) := by decide +kernel
theorem dX4_heat_28 : decode cX4_heat 28 = .ok (.iload_n 1, 1) := by decide +kernel
theorem dX4_heat_29 : decode cX4_heat 29 = .ok (.aaload, 1) := by decide +kernel
theorem dX4_heat_30 : decode cX4_heat 30 = .ok (.astore 4, 2) := by decide +kernel
theorem dX4_heat_32 : decode cX4_heat 32 = .ok (.aload 4, 2) := by decide +kernel
theorem dX4_heat_34 : decode cX4_heat 34 = .ok (.aload 4, 2) := by decide +kernel
theorem dX4_heat_36 : decode cX4_heat 36 = .ok (.getfield 112, 3) := by decide +kernel
theorem dX4_heat_39 : decode cX4_heat 39 = .ok (.ifCond .ne 11, 3) := by decide +kernel
theorem dX4_heat_42 : decode cX4_heat 42 = .ok (.iload_n 2, 1) := by decide +kernel
theorem dX4_heat_43 : decode cX4_heat 43 = .ok (.iload_n 3, 1) := by decide +kernel
theorem dX4_heat_44 : decode cX4_heat 44 = .ok (.invokestatic 116, 3) := by decide +kernel
theorem dX4_heat_47 : decode cX4_heat 47 = .ok (.ifCond .eq 7, 3) := by decide +kernel
theorem dX4_heat_50 : decode cX4_heat 50 = .ok (.iconst 1, 1) := by decide +kernel
theorem dX4_heat_51 : decode cX4_heat 51 = .ok (.goto 4, 3) := by decide +kernel
theorem dX4_heat_54 : decode cX4_heat 54 = .ok (.iconst 0, 1) := by decide +kernel
theorem dX4_heat_55 : decode cX4_heat 55 = .ok (.putfield 112, 3) := by decide +kernel
theorem dX4_heat_58 : decode cX4_heat 58 = .ok (.aload 4, 2) := by decide +kernel
theorem dX4_heat_60 : decode cX4_heat 60 = .ok (.iconst 0, 1) := by decide +kernel
theorem dX4_heat_61 : decode cX4_heat 61 = .ok (.putfield 120, 3) := by decide +kernel
theorem dX4_heat_64 : decode cX4_heat 64 = .ok (.aload 4, 2) := by decide +kernel
theorem dX4_heat_66 : decode cX4_heat 66 = .ok (.getfield 112, 3) := by decide +kernel
theorem dX4_heat_69 : decode cX4_heat 69 = .ok (.ireturn, 1) := by decide +kernel
theorem dX4_proves_0 : decode cX4_proves 0 = .ok (.iload_n 0, 1) := by decide +kernel
theorem dX4_proves_1 : decode cX4_proves 1 = .ok (.bipush 80, 2) := by decide +kernel
theorem dX4_proves_3 : decode cX4_proves 3 = .ok (.if_icmp .lt 15, 3) := by decide +kernel
theorem dX4_proves_6 : decode cX4_proves 6 = .ok (.iload_n 1, 1) := by decide +kernel
theorem dX4_proves_7 : decode cX4_proves 7 = .ok (.bipush 15, 2) := by decide +kernel
theorem dX4_proves_9 : decode cX4_proves 9 = .ok (.if_icmp .lt 7, 3) := by decide +kernel
theorem dX4_proves_12 : decode cX4_proves 12 = .ok (.iconst 1, 1) := by decide +kernel
theorem dX4_proves_13 : decode cX4_proves 13 = .ok (.goto 4, 3) := by decide +kernel
theorem dX4_proves_16 : decode cX4_proves 16 = .ok (.iconst 0, 1) := by decide +kernel
theorem dX4_proves_17 : decode cX4_proves 17 = .ok (.ireturn, 1) := by decide +kernel
theorem dX4_proves_18 : decode cX4_proves 18 = .ok (.iload_n 0, 1) := by decide +kernel
theorem dX4_proves_19 : decode cX4_proves 19 = .ok (.bipush 75, 2) := by decide +kernel
theorem dX4_proves_21 : decode cX4_proves 21 = .ok (.if_icmp .lt 15, 3) := by decide +kernel
theorem dX4_proves_24 : decode cX4_proves 24 = .ok (.iload_n 1, 1) := by decide +kernel
theorem dX4_proves_25 : decode cX4_proves 25 = .ok (.bipush 60, 2) := by decide +kernel
theorem dX4_proves_27 : decode cX4_proves 27 = .ok (.if_icmp .lt 7, 3) := by decide +kernel
theorem dX4_proves_30 : decode cX4_proves 30 = .ok (.iconst 1, 1) := by decide +kernel
theorem dX4_proves_31 : decode cX4_proves 31 = .ok (.goto 4, 3) := by decide +kernel
theorem dX4_proves_34 : decode cX4_proves 34 = .ok (.iconst 0, 1) := by decide +kernel
theorem dX4_proves_35 : decode cX4_proves 35 = .ok (.ireturn, 1) := by decide +kernel
theorem dX4_proves_36 : decode cX4_proves 36 = .ok (.iload_n 0, 1) := by decide +kernel
theorem dX4_proves_37 : decode cX4_proves 37 = .ok (.bipush 70, 2) := by decide +kernel
theorem dX4_proves_39 : decode cX4_proves 39 = .ok (.if_icmp .lt 16, 3) := by decide +kernel
theorem dX4_proves_42 : decode cX4_proves 42 = .ok (.iload_n 1, 1) := by decide +kernel
theorem dX4_proves_43 : decode cX4_proves 43 = .ok (.sipush 300, 3) := by decide +kernel
theorem dX4_proves_46 : decode cX4_proves 46 = .ok (.if_icmp .lt 7, 3) := by decide +kernel
theorem dX4_proves_49 : decode cX4_proves 49 = .ok (.iconst 1, 1) := by decide +kernel
theorem dX4_proves_50 : decode cX4_proves 50 = .ok (.goto 4, 3) := by decide +kernel
theorem dX4_proves_53 : decode cX4_proves 53 = .ok (.iconst 0, 1) := by decide +kernel
theorem dX4_proves_54 : decode cX4_proves 54 = .ok (.ireturn, 1) := by decide +kernel
theorem dX4_proves_55 : decode cX4_proves 55 = .ok (.iload_n 0, 1) := by decide +kernel
theorem dX4_proves_56 : decode cX4_proves 56 = .ok (.bipush 65, 2) := by decide +kernel
theorem dX4_proves_58 : decode cX4_proves 58 = .ok (.if_icmp .lt 14, 3) := by decide +kernel
theorem dX4_proves_61 : decode cX4_proves 61 = .ok (.iload_n 1, 1) := by decide +kernel
theorem dX4_proves_62 : decode cX4_proves 62 = .ok (.sipush 1800, 3) := by decide +kernel
theorem dX4_proves_65 : decode cX4_proves 65 = .ok (.if_icmp .lt 7, 3) := by decide +kernel
theorem dX4_proves_68 : decode cX4_proves 68 = .ok (.iconst 1, 1) := by decide +kernel
theorem dX4_proves_69 : decode cX4_proves 69 = .ok (.goto 4, 3) := by decide +kernel
theorem dX4_proves_72 : decode cX4_proves 72 = .ok (.iconst 0, 1) := by decide +kernel
theorem dX4_proves_73 : decode cX4_proves 73 = .ok (.ireturn, 1) := by decide +kernel
set_option maxRecDepth 20000 in
theorem ggX4_run_X4_bars : GoodIn wsX4_run wsX4_bars := goodIn_ca (goodIn_ca (goodIn_r _ [10, 11, 1, 2, 4, 12, 13, 9, 14, 15, 16, 17, 18, 19, 20, 21, 22, 23, 24, 25, 26, 27, 28, 29, 30, 31, 32, 33, 34, 35, 36, 37, 38, 39, 40, 41, 42, 43, 44, 45, 46, 47, 48, 49, 50, 51, 52, 53, 54, 55, 56, 57, 58, 59, 60] (by decide +kernel) (by decide +kernel)) (goodIn_sub (fun _ h => List.mem_cons_of_mem _ (List.mem_append_left _ (List.mem_append_right _ h))) (by decide +kernel))) (goodIn_sub (fun _ h => List.mem_cons_of_mem _ (List.mem_append_right _ h)) (by decide +kernel))
set_option maxRecDepth 20000 in
theorem gX4_run_X4_bars : GoodIn wsX4_run (wsV RX4 123 RX4 yX4_bars wsX4_bars) := goodIn_app (goodIn_of _ (by decide +kernel)) ggX4_run_X4_bars
theorem dX4_run_0 : decode cX4_run 0 = .ok (.aload_n 0, 1) := by decide +kernel
theorem dX4_run_1 : decode cX4_run 1 = .ok (.iload_n 1, 1) := by decide +kernel
theorem dX4_run_2 : decode cX4_run 2 = .ok (.iload_n 2, 1) := by decide +kernel
theorem dX4_run_3 : decode cX4_run 3 = .ok (.iload_n 3, 1) := by decide +kernel
theorem dX4_run_4 : decode cX4_run 4 = .ok (.iload 4, 2) := by decide +kernel
theorem dX4_run_6 : decode cX4_run 6 = .ok (.invokevirtual 123, 3) := by decide +kernel
theorem dX4_run_9 : decode cX4_run 9 = .ok (.istore 5, 2) := by decide +kernel
theorem dX4_run_11 : decode cX4_run 11 = .ok (.iload 5, 2) := by decide +kernel
theorem dX4_run_13 : decode cX4_run 13 = .ok (.ifCond .eq 9, 3) := by decide +kernel
theorem dX4_run_16 : decode cX4_run 16 = .ok (.bipush (-10), 2) := by decide +kernel
theorem dX4_run_18 : decode cX4_run 18 = .ok (.iload 5, 2) := by decide +kernel
theorem dX4_run_20 : decode cX4_run 20 = .ok (.isub, 1) := by decide +kernel
theorem dX4_run_21 : decode cX4_run 21 = .ok (.ireturn, 1) := by decide +kernel
theorem dX4_run_22 : decode cX4_run 22 = .ok (.aload_n 0, 1) := by decide +kernel
theorem dX4_run_23 : decode cX4_run 23 = .ok (.getfield 17, 3) := by decide +kernel
theorem dX4_run_26 : decode cX4_run 26 = .ok (.iload_n 2, 1) := by decide +kernel
theorem dX4_run_27 : decode cX4_run 27 = .ok (.aaload, 1) := by decide +kernel
theorem dX4_run_28 : decode cX4_run 28 = .ok (.astore 6, 2) := by decide +kernel
theorem dX4_run_30 : decode cX4_run 30 = .ok (.aload 6, 2) := by decide +kernel
theorem dX4_run_32 : decode cX4_run 32 = .ok (.dup, 1) := by decide +kernel
theorem dX4_run_33 : decode cX4_run 33 = .ok (.getfield 127, 3) := by decide +kernel
theorem dX4_run_36 : decode cX4_run 36 = .ok (.iload_n 3, 1) := by decide +kernel
theorem dX4_run_37 : decode cX4_run 37 = .ok (.isub, 1) := by decide +kernel
theorem dX4_run_38 : decode cX4_run 38 = .ok (.putfield 127, 3) := by decide +kernel
theorem dX4_run_41 : decode cX4_run 41 = .ok (.aload 6, 2) := by decide +kernel
theorem dX4_run_43 : decode cX4_run 43 = .ok (.dup, 1) := by decide +kernel
theorem dX4_run_44 : decode cX4_run 44 = .ok (.getfield 102, 3) := by decide +kernel
theorem dX4_run_47 : decode cX4_run 47 = .ok (.iconst 1, 1) := by decide +kernel
theorem dX4_run_48 : decode cX4_run 48 = .ok (.iadd, 1) := by decide +kernel
theorem dX4_run_49 : decode cX4_run 49 = .ok (.putfield 102, 3) := by decide +kernel
theorem dX4_run_52 : decode cX4_run 52 = .ok (.aload_n 0, 1) := by decide +kernel
theorem dX4_run_53 : decode cX4_run 53 = .ok (.getfield 33, 3) := by decide +kernel
theorem dX4_run_56 : decode cX4_run 56 = .ok (.iload_n 1, 1) := by decide +kernel
theorem dX4_run_57 : decode cX4_run 57 = .ok (.aload 6, 2) := by decide +kernel
theorem dX4_run_59 : decode cX4_run 59 = .ok (.getfield 130, 3) := by decide +kernel
theorem dX4_run_62 : decode cX4_run 62 = .ok (.iastore, 1) := by decide +kernel
theorem dX4_run_63 : decode cX4_run 63 = .ok (.aload_n 0, 1) := by decide +kernel
theorem dX4_run_64 : decode cX4_run 64 = .ok (.getfield 23, 3) := by decide +kernel
theorem dX4_run_67 : decode cX4_run 67 = .ok (.aload_n 0, 1) := by decide +kernel
theorem dX4_run_68 : decode cX4_run 68 = .ok (.getfield 44, 3) := by decide +kernel
theorem dX4_run_71 : decode cX4_run 71 = .ok (.aaload, 1) := by decide +kernel
theorem dX4_run_72 : decode cX4_run 72 = .ok (.astore 7, 2) := by decide +kernel
theorem dX4_run_74 : decode cX4_run 74 = .ok (.aload 7, 2) := by decide +kernel
theorem dX4_run_76 : decode cX4_run 76 = .ok (.iload_n 2, 1) := by decide +kernel
theorem dX4_run_77 : decode cX4_run 77 = .ok (.putfield 131, 3) := by decide +kernel
theorem dX4_run_80 : decode cX4_run 80 = .ok (.aload 7, 2) := by decide +kernel
theorem dX4_run_82 : decode cX4_run 82 = .ok (.iload_n 3, 1) := by decide +kernel
theorem dX4_run_83 : decode cX4_run 83 = .ok (.iconst 2, 1) := by decide +kernel
theorem dX4_run_84 : decode cX4_run 84 = .ok (.isub, 1) := by decide +kernel
theorem dX4_run_85 : decode cX4_run 85 = .ok (.bipush 100, 2) := by decide +kernel
theorem dX4_run_87 : decode cX4_run 87 = .ok (.iload 4, 2) := by decide +kernel
theorem dX4_run_89 : decode cX4_run 89 = .ok (.iadd, 1) := by decide +kernel
theorem dX4_run_90 : decode cX4_run 90 = .ok (.imul, 1) := by decide +kernel
theorem dX4_run_91 : decode cX4_run 91 = .ok (.bipush 100, 2) := by decide +kernel
theorem dX4_run_93 : decode cX4_run 93 = .ok (.idiv, 1) := by decide +kernel
theorem dX4_run_94 : decode cX4_run 94 = .ok (.putfield 134, 3) := by decide +kernel
theorem dX4_run_97 : decode cX4_run 97 = .ok (.aload 7, 2) := by decide +kernel
theorem dX4_run_99 : decode cX4_run 99 = .ok (.ldc2_w 137, 3) := by decide +kernel
theorem dX4_run_102 : decode cX4_run 102 = .ok (.putfield 139, 3) := by decide +kernel
theorem dX4_run_105 : decode cX4_run 105 = .ok (.aload_n 0, 1) := by decide +kernel
theorem dX4_run_106 : decode cX4_run 106 = .ok (.dup, 1) := by decide +kernel
theorem dX4_run_107 : decode cX4_run 107 = .ok (.getfield 44, 3) := by decide +kernel
theorem dX4_run_110 : decode cX4_run 110 = .ok (.iconst 1, 1) := by decide +kernel
theorem dX4_run_111 : decode cX4_run 111 = .ok (.iadd, 1) := by decide +kernel
theorem dX4_run_112 : decode cX4_run 112 = .ok (.putfield 44, 3) := by decide +kernel
theorem dX4_run_115 : decode cX4_run 115 = .ok (.aload_n 0, 1) := by decide +kernel
theorem dX4_run_116 : decode cX4_run 116 = .ok (.getfield 44, 3) := by decide +kernel
theorem dX4_run_119 : decode cX4_run 119 = .ok (.iconst 1, 1) := by decide +kernel
theorem dX4_run_120 : decode cX4_run 120 = .ok (.isub, 1) := by decide +kernel
theorem dX4_run_121 : decode cX4_run 121 = .ok (.ireturn, 1) := by decide +kernel
set_option maxRecDepth 20000 in
theorem ggX4_wash_X4_checkNumber : GoodIn wsX4_wash wsX4_checkNumber := goodIn_ca (goodIn_r _ [6, 7, 8] (by decide +kernel) (by decide +kernel)) (goodIn_sub (fun _ h => List.mem_cons_of_mem _ (List.mem_append_right _ h)) (by decide +kernel))
set_option maxRecDepth 20000 in
theorem gX4_wash_X4_checkNumber : GoodIn wsX4_wash (va_wsS RX4 92 yX4_checkNumber wsX4_checkNumber) := goodIn_app (goodIn_of _ (by decide +kernel)) ggX4_wash_X4_checkNumber
theorem dX4_wash_0 : decode cX4_wash 0 = .ok (.iload_n 1, 1) := by decide +kernel
theorem dX4_wash_1 : decode cX4_wash 1 = .ok (.iconst 2, 1) := by decide +kernel
theorem dX4_wash_2 : decode cX4_wash 2 = .ok (.invokestatic 92, 3) := by decide +kernel
theorem dX4_wash_5 : decode cX4_wash 5 = .ok (.aload_n 0, 1) := by decide +kernel
theorem dX4_wash_6 : decode cX4_wash 6 = .ok (.getfield 33, 3) := by decide +kernel
theorem dX4_wash_9 : decode cX4_wash 9 = .ok (.iload_n 1, 1) := by decide +kernel
theorem dX4_wash_10 : decode cX4_wash 10 = .ok (.iaload, 1) := by decide +kernel
theorem dX4_wash_11 : decode cX4_wash 11 = .ok (.istore_n 2, 1) := by decide +kernel
theorem dX4_wash_12 : decode cX4_wash 12 = .ok (.aload_n 0, 1) := by decide +kernel
theorem dX4_wash_13 : decode cX4_wash 13 = .ok (.getfield 33, 3) := by decide +kernel
theorem dX4_wash_16 : decode cX4_wash 16 = .ok (.iload_n 1, 1) := by decide +kernel
theorem dX4_wash_17 : decode cX4_wash 17 = .ok (.iconst 0, 1) := by decide +kernel
theorem dX4_wash_18 : decode cX4_wash 18 = .ok (.iastore, 1) := by decide +kernel
theorem dX4_wash_19 : decode cX4_wash 19 = .ok (.aload_n 0, 1) := by decide +kernel
theorem dX4_wash_20 : decode cX4_wash 20 = .ok (.dup, 1) := by decide +kernel
theorem dX4_wash_21 : decode cX4_wash 21 = .ok (.getfield 56, 3) := by decide +kernel
theorem dX4_wash_24 : decode cX4_wash 24 = .ok (.iconst 1, 1) := by decide +kernel
theorem dX4_wash_25 : decode cX4_wash 25 = .ok (.iadd, 1) := by decide +kernel
theorem dX4_wash_26 : decode cX4_wash 26 = .ok (.putfield 56, 3) := by decide +kernel
theorem dX4_wash_29 : decode cX4_wash 29 = .ok (.iload_n 2, 1) := by decide +kernel
theorem dX4_wash_30 : decode cX4_wash 30 = .ok (.ireturn, 1) := by decide +kernel
set_option maxRecDepth 20000 in
theorem ggX4_harden_X4_checkNumber : GoodIn wsX4_harden wsX4_checkNumber := goodIn_ca (goodIn_r _ [9, 10, 11] (by decide +kernel) (by decide +kernel)) (goodIn_sub (fun _ h => List.mem_cons_of_mem _ (List.mem_append_left _ (List.mem_append_right _ h))) (by decide +kernel))
set_option maxRecDepth 20000 in
theorem gX4_harden_X4_checkNumber : GoodIn wsX4_harden (va_wsS RX4 92 yX4_checkNumber wsX4_checkNumber) := goodIn_app (goodIn_of _ (by decide +kernel)) ggX4_harden_X4_checkNumber
set_option maxRecDepth 20000 in
theorem ggX4_harden_X4_checkRange : GoodIn wsX4_harden wsX4_checkRange := goodIn_ca (goodIn_r _ [14, 15, 16] (by decide +kernel) (by decide +kernel)) (goodIn_sub (fun _ h => List.mem_cons_of_mem _ (List.mem_append_right _ h)) (by decide +kernel))
set_option maxRecDepth 20000 in
theorem gX4_harden_X4_checkRange : GoodIn wsX4_harden (va_wsS RX4 69 yX4_checkRange wsX4_checkRange) := goodIn_app (goodIn_of _ (by decide +kernel)) ggX4_harden_X4_checkRange
theorem dX4_harden_0 : decode cX4_harden 0 = .ok (.iload_n 1, 1) := by decide +kernel
theorem dX4_harden_1 : decode cX4_harden 1 = .ok (.aload_n 0, 1) := by decide +kernel
theorem dX4_harden_2 : decode cX4_harden 2 = .ok (.getfield 44, 3) := by decide +kernel
theorem dX4_harden_5 : decode cX4_harden 5 = .ok (.invokestatic 92, 3) := by decide +kernel
theorem dX4_harden_8 : decode cX4_harden 8 = .ok (.iload_n 2, 1) := by decide +kernel
theorem dX4_harden_9 : decode cX4_harden 9 = .ok (.bipush 10, 2) := by decide +kernel
theorem dX4_harden_11 : decode cX4_harden 11 = .ok (.bipush 90, 2) := by decide +kernel
theorem dX4_harden_13 : decode cX4_harden 13 = .ok (.invokestatic 69, 3) := by decide +kernel
theorem dX4_harden_16 : decode cX4_harden 16 = .ok (.aload_n 0, 1) := by decide +kernel
theorem dX4_harden_17 : decode cX4_harden 17 = .ok (.getfield 23, 3) := by decide +kernel
theorem dX4_harden_20 : decode cX4_harden 20 = .ok (.iload_n 1, 1) := by decide +kernel
theorem dX4_harden_21 : decode cX4_harden 21 = .ok (.aaload, 1) := by decide +kernel
theorem dX4_harden_22 : decode cX4_harden 22 = .ok (.astore_n 3, 1) := by decide +kernel
theorem dX4_harden_23 : decode cX4_harden 23 = .ok (.aload_n 3, 1) := by decide +kernel
theorem dX4_harden_24 : decode cX4_harden 24 = .ok (.getfield 143, 3) := by decide +kernel
theorem dX4_harden_27 : decode cX4_harden 27 = .ok (.iconst (-1), 1) := by decide +kernel
theorem dX4_harden_28 : decode cX4_harden 28 = .ok (.if_icmp .ne 10, 3) := by decide +kernel
theorem dX4_harden_31 : decode cX4_harden 31 = .ok (.aload_n 3, 1) := by decide +kernel
theorem dX4_harden_32 : decode cX4_harden 32 = .ok (.getfield 146, 3) := by decide +kernel
theorem dX4_harden_35 : decode cX4_harden 35 = .ok (.ifCond .eq 13, 3) := by decide +kernel
theorem dX4_harden_38 : decode cX4_harden 38 = .ok (.new 105, 3) := by decide +kernel
theorem dX4_harden_41 : decode cX4_harden 41 = .ok (.dup, 1) := by decide +kernel
theorem dX4_harden_42 : decode cX4_harden 42 = .ok (.ldc 149, 2) := by decide +kernel
theorem dX4_harden_44 : decode cX4_harden 44 = .ok (.invokespecial 109, 3) := by decide +kernel
theorem dX4_harden_47 : decode cX4_harden 47 = .ok (.athrow, 1) := by decide +kernel
theorem dX4_harden_48 : decode cX4_harden 48 = .ok (.aload_n 3, 1) := by decide +kernel
theorem dX4_harden_49 : decode cX4_harden 49 = .ok (.aload_n 3, 1) := by decide +kernel
theorem dX4_harden_50 : decode cX4_harden 50 = .ok (.getfield 139, 3) := by decide +kernel
theorem dX4_harden_53 : decode cX4_harden 53 = .ok (.iload_n 2, 1) := by decide +kernel
theorem dX4_harden_54 : decode cX4_harden 54 = .ok (.i2d, 1) := by decide +kernel
theorem dX4_harden_55 : decode cX4_harden 55 = .ok (.ldc2_w 151, 3) := by decide +kernel
theorem dX4_harden_58 : decode cX4_harden 58 = .ok (.dmul, 1) := by decide +kernel
theorem dX4_harden_59 : decode cX4_harden 59 = .ok (.dadd, 1) := by decide +kernel
theorem dX4_harden_60 : decode cX4_harden 60 = .ok (.putfield 139, 3) := by decide +kernel
theorem dX4_harden_63 : decode cX4_harden 63 = .ok (.aload_n 3, 1) := by decide +kernel
theorem dX4_harden_64 : decode cX4_harden 64 = .ok (.iconst 1, 1) := by decide +kernel
theorem dX4_harden_65 : decode cX4_harden 65 = .ok (.putfield 146, 3) := by decide +kernel
theorem dX4_harden_68 : decode cX4_harden 68 = .ok (.aload_n 3, 1) := by decide +kernel
theorem dX4_harden_69 : decode cX4_harden 69 = .ok (.getfield 139, 3) := by decide +kernel
theorem dX4_harden_72 : decode cX4_harden 72 = .ok (.dreturn, 1) := by decide +kernel
set_option maxRecDepth 20000 in
theorem ggX4_store_X4_checkRange : GoodIn wsX4_store wsX4_checkRange := goodIn_ca (goodIn_r _ [6, 7, 8] (by decide +kernel) (by decide +kernel)) (goodIn_sub (fun _ h => List.mem_cons_of_mem _ (List.mem_append_left _ (List.mem_append_right _ h))) (by decide +kernel))
set_option maxRecDepth 20000 in
theorem gX4_store_X4_checkRange : GoodIn wsX4_store (va_wsS RX4 69 yX4_checkRange wsX4_checkRange) := goodIn_app (goodIn_of _ (by decide +kernel)) ggX4_store_X4_checkRange
set_option maxRecDepth 20000 in
theorem ggX4_store_X4_checkRoom : GoodIn wsX4_store wsX4_checkRoom := goodIn_ca (goodIn_r _ [11, 12, 13] (by decide +kernel) (by decide +kernel)) (goodIn_sub (fun _ h => List.mem_cons_of_mem _ (List.mem_append_right _ h)) (by decide +kernel))
set_option maxRecDepth 20000 in
theorem gX4_store_X4_checkRoom : GoodIn wsX4_store (va_wsS RX4 73 yX4_checkRoom wsX4_checkRoom) := goodIn_app (goodIn_of _ (by decide +kernel)) ggX4_store_X4_checkRoom
theorem dX4_store_0 : decode cX4_store 0 = .ok (.iload_n 1, 1) := by decide +kernel
theorem dX4_store_1 : decode cX4_store 1 = .ok (.bipush (-30), 2) := by decide +kernel
theorem dX4_store_3 : decode cX4_store 3 = .ok (.bipush (-10), 2) := by decide +kernel
theorem dX4_store_5 : decode cX4_store 5 = .ok (.invokestatic 69, 3) := by decide +kernel
theorem dX4_store_8 : decode cX4_store 8 = .ok (.aload_n 0, 1) := by decide +kernel
theorem dX4_store_9 : decode cX4_store 9 = .ok (.getfield 47, 3) := by decide +kernel
theorem dX4_store_12 : decode cX4_store 12 = .ok (.iconst 3, 1) := by decide +kernel
theorem dX4_store_13 : decode cX4_store 13 = .ok (.invokestatic 73, 3) := by decide +kernel
theorem dX4_store_16 : decode cX4_store 16 = .ok (.aload_n 0, 1) := by decide +kernel
theorem dX4_store_17 : decode cX4_store 17 = .ok (.getfield 29, 3) := by decide +kernel
theorem dX4_store_20 : decode cX4_store 20 = .ok (.aload_n 0, 1) := by decide +kernel
theorem dX4_store_21 : decode cX4_store 21 = .ok (.getfield 47, 3) := by decide +kernel
theorem dX4_store_24 : decode cX4_store 24 = .ok (.aaload, 1) := by decide +kernel
theorem dX4_store_25 : decode cX4_store 25 = .ok (.iload_n 1, 1) := by decide +kernel
theorem dX4_store_26 : decode cX4_store 26 = .ok (.putfield 153, 3) := by decide +kernel
theorem dX4_store_29 : decode cX4_store 29 = .ok (.aload_n 0, 1) := by decide +kernel
theorem dX4_store_30 : decode cX4_store 30 = .ok (.getfield 29, 3) := by decide +kernel
theorem dX4_store_33 : decode cX4_store 33 = .ok (.aload_n 0, 1) := by decide +kernel
theorem dX4_store_34 : decode cX4_store 34 = .ok (.getfield 47, 3) := by decide +kernel
theorem dX4_store_37 : decode cX4_store 37 = .ok (.aaload, 1) := by decide +kernel
theorem dX4_store_38 : decode cX4_store 38 = .ok (.iload_n 1, 1) := by decide +kernel
theorem dX4_store_39 : decode cX4_store 39 = .ok (.i2d, 1) := by decide +kernel
theorem dX4_store_40 : decode cX4_store 40 = .ok (.putfield 156, 3) := by decide +kernel
theorem dX4_store_43 : decode cX4_store 43 = .ok (.aload_n 0, 1) := by decide +kernel
theorem dX4_store_44 : decode cX4_store 44 = .ok (.dup, 1) := by decide +kernel
theorem dX4_store_45 : decode cX4_store 45 = .ok (.getfield 47, 3) := by decide +kernel
theorem dX4_store_48 : decode cX4_store 48 = .ok (.iconst 1, 1) := by decide +kernel
theorem dX4_store_49 : decode cX4_store 49 = .ok (.iadd, 1) := by decide +kernel
theorem dX4_store_50 : decode cX4_store 50 = .ok (.putfield 47, 3) := by decide +kernel
theorem dX4_store_53 : decode cX4_store 53 = .ok (.aload_n 0, 1) := by decide +kernel
theorem dX4_store_54 : decode cX4_store 54 = .ok (.getfield 47, 3) := by decide +kernel
theorem dX4_store_57 : decode cX4_store 57 = .ok (.iconst 1, 1) := by decide +kernel
theorem dX4_store_58 : decode cX4_store 58 = .ok (.isub, 1) := by decide +kernel
theorem dX4_store_59 : decode cX4_store 59 = .ok (.ireturn, 1) := by decide +kernel
set_option maxRecDepth 20000 in
theorem ggX4_lay_X4_checkNumber : GoodIn wsX4_lay wsX4_checkNumber := goodIn_ca (goodIn_r _ [9, 10, 11] (by decide +kernel) (by decide +kernel)) (goodIn_sub (fun _ h => List.mem_cons_of_mem _ (List.mem_append_right _ h)) (by decide +kernel))
set_option maxRecDepth 20000 in
theorem gX4_lay_X4_checkNumber : GoodIn wsX4_lay (va_wsS RX4 92 yX4_checkNumber wsX4_checkNumber) := goodIn_app (goodIn_of _ (by decide +kernel)) ggX4_lay_X4_checkNumber
set_option maxRecDepth 20000 in
theorem ggX4_lay_X4_countAt : GoodIn wsX4_lay wsX4_countAt := goodIn_r _ [15, 3, 5, 16, 17, 18, 19, 20, 21, 22, 23, 24, 25, 26, 27, 28, 29, 30, 31, 32, 33, 34] (by decide +kernel) (by decide +kernel)
set_option maxRecDepth 20000 in
theorem gX4_lay_X4_countAt : GoodIn wsX4_lay (wsV RX4 161 RX4 yX4_countAt wsX4_countAt) := goodIn_app (goodIn_of _ (by decide +kernel)) ggX4_lay_X4_countAt
theorem dX4_lay_0 : decode cX4_lay 0 = .ok (.iload_n 1, 1) := by decide +kernel
theorem dX4_lay_1 : decode cX4_lay 1 = .ok (.aload_n 0, 1) := by decide +kernel
theorem dX4_lay_2 : decode cX4_lay 2 = .ok (.getfield 44, 3) := by decide +kernel
theorem dX4_lay_5 : decode cX4_lay 5 = .ok (.invokestatic 92, 3) := by decide +kernel
theorem dX4_lay_8 : decode cX4_lay 8 = .ok (.iload_n 2, 1) := by decide +kernel
theorem dX4_lay_9 : decode cX4_lay 9 = .ok (.aload_n 0, 1) := by decide +kernel
theorem dX4_lay_10 : decode cX4_lay 10 = .ok (.getfield 47, 3) := by decide +kernel
theorem dX4_lay_13 : decode cX4_lay 13 = .ok (.invokestatic 92, 3) := by decide +kernel
theorem dX4_lay_16 : decode cX4_lay 16 = .ok (.aload_n 0, 1) := by decide +kernel
theorem dX4_lay_17 : decode cX4_lay 17 = .ok (.getfield 23, 3) := by decide +kernel
theorem dX4_lay_20 : decode cX4_lay 20 = .ok (.iload_n 1, 1) := by decide +kernel
theorem dX4_lay_21 : decode cX4_lay 21 = .ok (.aaload, 1) := by decide +kernel
theorem dX4_lay_22 : decode cX4_lay 22 = .ok (.astore_n 3, 1) := by decide +kernel
theorem dX4_lay_23 : decode cX4_lay 23 = .ok (.aload_n 3, 1) := by decide +kernel
theorem dX4_lay_24 : decode cX4_lay 24 = .ok (.getfield 143, 3) := by decide +kernel
theorem dX4_lay_27 : decode cX4_lay 27 = .ok (.bipush 10, 2) := by decide +kernel
theorem dX4_lay_29 : decode cX4_lay 29 = .ok (.if_icmp .eq 19, 3) := by decide +kernel
theorem dX4_lay_32 : decode cX4_lay 32 = .ok (.aload_n 3, 1) := by decide +kernel
theorem dX4_lay_33 : decode cX4_lay 33 = .ok (.getfield 143, 3) := by decide +kernel
theorem dX4_lay_36 : decode cX4_lay 36 = .ok (.bipush 11, 2) := by decide +kernel
theorem dX4_lay_38 : decode cX4_lay 38 = .ok (.if_icmp .eq 10, 3) := by decide +kernel
theorem dX4_lay_41 : decode cX4_lay 41 = .ok (.aload_n 3, 1) := by decide +kernel
theorem dX4_lay_42 : decode cX4_lay 42 = .ok (.getfield 146, 3) := by decide +kernel
theorem dX4_lay_45 : decode cX4_lay 45 = .ok (.ifCond .ne 13, 3) := by decide +kernel
theorem dX4_lay_48 : decode cX4_lay 48 = .ok (.new 105, 3) := by decide +kernel
theorem dX4_lay_51 : decode cX4_lay 51 = .ok (.dup, 1) := by decide +kernel
theorem dX4_lay_52 : decode cX4_lay 52 = .ok (.ldc 159, 2) := by decide +kernel
theorem dX4_lay_54 : decode cX4_lay 54 = .ok (.invokespecial 109, 3) := by decide +kernel
theorem dX4_lay_57 : decode cX4_lay 57 = .ok (.athrow, 1) := by decide +kernel
theorem dX4_lay_58 : decode cX4_lay 58 = .ok (.aload_n 3, 1) := by decide +kernel
theorem dX4_lay_59 : decode cX4_lay 59 = .ok (.iload_n 2, 1) := by decide +kernel
theorem dX4_lay_60 : decode cX4_lay 60 = .ok (.putfield 143, 3) := by decide +kernel
theorem dX4_lay_63 : decode cX4_lay 63 = .ok (.aload_n 0, 1) := by decide +kernel
theorem dX4_lay_64 : decode cX4_lay 64 = .ok (.iload_n 2, 1) := by decide +kernel
theorem dX4_lay_65 : decode cX4_lay 65 = .ok (.invokevirtual 161, 3) := by decide +kernel
theorem dX4_lay_68 : decode cX4_lay 68 = .ok (.ireturn, 1) := by decide +kernel
set_option maxRecDepth 20000 in
theorem ggX4_door_X4_checkNumber : GoodIn wsX4_door wsX4_checkNumber := goodIn_ca (goodIn_r _ [6, 7, 8] (by decide +kernel) (by decide +kernel)) (goodIn_sub (fun _ h => List.mem_cons_of_mem _ (List.mem_append_left _ (List.mem_append_right _ h))) (by decide +kernel))
set_option maxRecDepth 20000 in
theorem gX4_door_X4_checkNumber : GoodIn wsX4_door (va_wsS RX4 92 yX4_checkNumber wsX4_checkNumber) := goodIn_app (goodIn_of _ (by decide +kernel)) ggX4_door_X4_checkNumber
set_option maxRecDepth 20000 in
theorem ggX4_door_X4_checkRange : GoodIn wsX4_door wsX4_checkRange := goodIn_ca (goodIn_r _ [11, 12, 13] (by decide +kernel) (by decide +kernel)) (goodIn_sub (fun _ h => List.mem_cons_of_mem _ (List.mem_append_right _ h)) (by decide +kernel))
set_option maxRecDepth 20000 in
theorem gX4_door_X4_checkRange : GoodIn wsX4_door (va_wsS RX4 69 yX4_checkRange wsX4_checkRange) := goodIn_app (goodIn_of _ (by decide +kernel)) ggX4_door_X4_checkRange
set_option maxRecDepth 20000 in
theorem ggX4_door_X4_opened : GoodIn wsX4_door wsX4_opened := goodIn_r _ [16, 17, 18] (by decide +kernel) (by decide +kernel)
set_option maxRecDepth 20000 in
theorem gX4_door_X4_opened : GoodIn wsX4_door (va_wsS RX4 165 yX4_opened wsX4_opened) := goodIn_app (goodIn_of _ (by decide +kernel)) ggX4_door_X4_opened
theorem dX4_door_0 : decode cX4_door 0 = .ok (.iload_n 1, 1) := by decide +kernel
theorem dX4_door_1 : decode cX4_door 1 = .ok (.aload_n 0, 1) := by decide +kernel
theorem dX4_door_2 : decode cX4_door 2 = .ok (.getfield 47, 3) := by decide +kernel
theorem dX4_door_5 : decode cX4_door 5 = .ok (.invokestatic 92, 3) := by decide +kernel
theorem dX4_door_8 : decode cX4_door 8 = .ok (.iload_n 2, 1) := by decide +kernel
theorem dX4_door_9 : decode cX4_door 9 = .ok (.iconst 1, 1) := by decide +kernel
theorem dX4_door_10 : decode cX4_door 10 = .ok (.bipush 20, 2) := by decide +kernel
theorem dX4_door_12 : decode cX4_door 12 = .ok (.invokestatic 69, 3) := by decide +kernel
theorem dX4_door_15 : decode cX4_door 15 = .ok (.aload_n 0, 1) := by decide +kernel
theorem dX4_door_16 : decode cX4_door 16 = .ok (.getfield 29, 3) := by decide +kernel
theorem dX4_door_19 : decode cX4_door 19 = .ok (.iload_n 1, 1) := by decide +kernel
theorem dX4_door_20 : decode cX4_door 20 = .ok (.aaload, 1) := by decide +kernel
theorem dX4_door_21 : decode cX4_door 21 = .ok (.aload_n 0, 1) := by decide +kernel
theorem dX4_door_22 : decode cX4_door 22 = .ok (.getfield 29, 3) := by decide +kernel
theorem dX4_door_25 : decode cX4_door 25 = .ok (.iload_n 1, 1) := by decide +kernel
theorem dX4_door_26 : decode cX4_door 26 = .ok (.aaload, 1) := by decide +kernel
theorem dX4_door_27 : decode cX4_door 27 = .ok (.getfield 156, 3) := by decide +kernel
theorem dX4_door_30 : decode cX4_door 30 = .ok (.iload_n 2, 1) := by decide +kernel
theorem dX4_door_31 : decode cX4_door 31 = .ok (.invokestatic 165, 3) := by decide +kernel
theorem dX4_door_34 : decode cX4_door 34 = .ok (.putfield 156, 3) := by decide +kernel
theorem dX4_door_37 : decode cX4_door 37 = .ok (.aload_n 0, 1) := by decide +kernel
theorem dX4_door_38 : decode cX4_door 38 = .ok (.getfield 29, 3) := by decide +kernel
theorem dX4_door_41 : decode cX4_door 41 = .ok (.iload_n 1, 1) := by decide +kernel
theorem dX4_door_42 : decode cX4_door 42 = .ok (.aaload, 1) := by decide +kernel
theorem dX4_door_43 : decode cX4_door 43 = .ok (.getfield 156, 3) := by decide +kernel
theorem dX4_door_46 : decode cX4_door 46 = .ok (.dreturn, 1) := by decide +kernel
theorem dX4_opened_0 : decode cX4_opened 0 = .ok (.dload_n 0, 1) := by decide +kernel
theorem dX4_opened_1 : decode cX4_opened 1 = .ok (.dstore_n 3, 1) := by decide +kernel
theorem dX4_opened_2 : decode cX4_opened 2 = .ok (.iconst 0, 1) := by decide +kernel
theorem dX4_opened_3 : decode cX4_opened 3 = .ok (.istore 5, 2) := by decide +kernel
theorem dX4_opened_5 : decode cX4_opened 5 = .ok (.iload 5, 2) := by decide +kernel
theorem dX4_opened_7 : decode cX4_opened 7 = .ok (.iload_n 2, 1) := by decide +kernel
theorem dX4_opened_8 : decode cX4_opened 8 = .ok (.if_icmp .ge 34, 3) := by decide +kernel
theorem dX4_opened_11 : decode cX4_opened 11 = .ok (.dload_n 3, 1) := by decide +kernel
theorem dX4_opened_12 : decode cX4_opened 12 = .ok (.ldc2_w 169, 3) := by decide +kernel
theorem dX4_opened_15 : decode cX4_opened 15 = .ok (.dadd, 1) := by decide +kernel
theorem dX4_opened_16 : decode cX4_opened 16 = .ok (.dstore 6, 2) := by decide +kernel
theorem dX4_opened_18 : decode cX4_opened 18 = .ok (.dload 6, 2) := by decide +kernel
theorem dX4_opened_20 : decode cX4_opened 20 = .ok (.ldc2_w 171, 3) := by decide +kernel
theorem dX4_opened_23 : decode cX4_opened 23 = .ok (.dcmp .g, 1) := by decide +kernel
theorem dX4_opened_24 : decode cX4_opened 24 = .ok (.ifCond .ge 8, 3) := by decide +kernel
theorem dX4_opened_27 : decode cX4_opened 27 = .ok (.dload 6, 2) := by decide +kernel
theorem dX4_opened_29 : decode cX4_opened 29 = .ok (.goto 6, 3) := by decide +kernel
theorem dX4_opened_32 : decode cX4_opened 32 = .ok (.ldc2_w 171, 3) := by decide +kernel
theorem dX4_opened_35 : decode cX4_opened 35 = .ok (.dstore_n 3, 1) := by decide +kernel
theorem dX4_opened_36 : decode cX4_opened 36 = .ok (.iinc 5 1, 3) := by decide +kernel
theorem dX4_opened_39 : decode cX4_opened 39 = .ok (.goto (-34), 3) := by decide +kernel
theorem dX4_opened_42 : decode cX4_opened 42 = .ok (.dload_n 3, 1) := by decide +kernel
theorem dX4_opened_43 : decode cX4_opened 43 = .ok (.dreturn, 1) := by decide +kernel
set_option maxRecDepth 20000 in
theorem ggX4_pass_X4_checkRange : GoodIn wsX4_pass wsX4_checkRange := goodIn_ca (goodIn_r _ [4, 5, 6] (by decide +kernel) (by decide +kernel)) (goodIn_sub (fun _ h => List.mem_cons_of_mem _ (List.mem_append_right _ h)) (by decide +kernel))
set_option maxRecDepth 20000 in
theorem gX4_pass_X4_checkRange : GoodIn wsX4_pass (va_wsS RX4 69 yX4_checkRange wsX4_checkRange) := goodIn_app (goodIn_of _ (by decide +kernel)) ggX4_pass_X4_checkRange
set_option maxRecDepth 20000 in
theorem ggX4_pass_X4_passHour : GoodIn wsX4_pass wsX4_passHour := goodIn_r _ [10, 11, 12, 13, 14, 15, 16, 17, 18, 19, 3, 20, 21, 22, 23, 24, 25, 26, 27, 28, 29, 30, 31, 32, 33, 34, 35, 36, 37, 38, 39, 40, 45, 46, 47, 48, 49, 50, 51, 52, 53, 54, 55, 56, 57, 58, 59, 60, 61, 62, 63, 64, 65, 66, 67, 68, 69, 70, 71, 72, 73, 74, 75, 76, 77] (by decide +kernel) (by decide +kernel)
set_option maxRecDepth 20000 in
theorem gX4_pass_X4_passHour : GoodIn wsX4_pass (wsV RX4 173 RX4 yX4_passHour wsX4_passHour) := goodIn_app (goodIn_of _ (by decide +kernel)) ggX4_pass_X4_passHour
set_option maxRecDepth 20000 in
theorem ggX4_pass_X4_countAt : GoodIn wsX4_pass wsX4_countAt := goodIn_r _ [44, 13, 14, 45, 46, 47, 48, 49, 50, 51, 52, 53, 54, 55, 56, 57, 58, 71, 72, 73, 74, 75] (by decide +kernel) (by decide +kernel)
set_option maxRecDepth 20000 in
theorem gX4_pass_X4_countAt : GoodIn wsX4_pass (wsV RX4 161 RX4 yX4_countAt wsX4_countAt) := goodIn_app (goodIn_of _ (by decide +kernel)) ggX4_pass_X4_countAt
theorem dX4_pass_0 : decode cX4_pass 0 = .ok (.iload_n 1, 1) := by decide +kernel
theorem dX4_pass_1 : decode cX4_pass 1 = .ok (.iconst 1, 1) := by decide +kernel
theorem dX4_pass_2 : decode cX4_pass 2 = .ok (.bipush 48, 2) := by decide +kernel
theorem dX4_pass_4 : decode cX4_pass 4 = .ok (.invokestatic 69, 3) := by decide +kernel
theorem dX4_pass_7 : decode cX4_pass 7 = .ok (.iconst 0, 1) := by decide +kernel
theorem dX4_pass_8 : decode cX4_pass 8 = .ok (.istore_n 2, 1) := by decide +kernel
theorem dX4_pass_9 : decode cX4_pass 9 = .ok (.iload_n 2, 1) := by decide +kernel
theorem dX4_pass_10 : decode cX4_pass 10 = .ok (.iload_n 1, 1) := by decide +kernel
theorem dX4_pass_11 : decode cX4_pass 11 = .ok (.if_icmp .ge 13, 3) := by decide +kernel
theorem dX4_pass_14 : decode cX4_pass 14 = .ok (.aload_n 0, 1) := by decide +kernel
theorem dX4_pass_15 : decode cX4_pass 15 = .ok (.invokevirtual 173, 3) := by decide +kernel
theorem dX4_pass_18 : decode cX4_pass 18 = .ok (.iinc 2 1, 3) := by decide +kernel
theorem dX4_pass_21 : decode cX4_pass 21 = .ok (.goto (-12), 3) := by decide +kernel
theorem dX4_pass_24 : decode cX4_pass 24 = .ok (.aload_n 0, 1) := by decide +kernel
theorem dX4_pass_25 : decode cX4_pass 25 = .ok (.bipush 11, 2) := by decide +kernel
theorem dX4_pass_27 : decode cX4_pass 27 = .ok (.invokevirtual 161, 3) := by decide +kernel
theorem dX4_pass_30 : decode cX4_pass 30 = .ok (.ireturn, 1) := by decide +kernel
set_option maxRecDepth 20000 in
theorem ggX4_passHour_X4_passHourIn : GoodIn wsX4_passHour wsX4_passHourIn := goodIn_r _ [11, 12, 3, 4, 2, 13, 14, 15, 16, 17, 18, 19, 20, 21, 22, 23, 24, 25, 26, 27, 28, 29, 30, 31, 32, 33, 34, 35, 36, 37, 38, 39, 40, 41, 42, 43, 44, 45, 63, 64, 58, 59, 60, 61, 62, 46, 47, 48, 49, 50, 51, 52, 53, 54, 55, 56, 57] (by decide +kernel) (by decide +kernel)
set_option maxRecDepth 20000 in
theorem gX4_passHour_X4_passHourIn : GoodIn wsX4_passHour (wsV RX4 176 RX4 yX4_passHourIn wsX4_passHourIn) := goodIn_app (goodIn_of _ (by decide +kernel)) ggX4_passHour_X4_passHourIn
theorem dX4_passHour_0 : decode cX4_passHour 0 = .ok (.iconst 0, 1) := by decide +kernel
theorem dX4_passHour_1 : decode cX4_passHour 1 = .ok (.istore_n 1, 1) := by decide +kernel
theorem dX4_passHour_2 : decode cX4_passHour 2 = .ok (.iload_n 1, 1) := by decide +kernel
theorem dX4_passHour_3 : decode cX4_passHour 3 = .ok (.aload_n 0, 1) := by decide +kernel
theorem dX4_passHour_4 : decode cX4_passHour 4 = .ok (.getfield 41, 3) := by decide +kernel
theorem dX4_passHour_7 : decode cX4_passHour 7 = .ok (.if_icmp .ge 24, 3) := by decide +kernel
theorem dX4_passHour_10 : decode cX4_passHour 10 = .ok (.aload_n 0, 1) := by decide +kernel
theorem dX4_passHour_11 : decode cX4_passHour 11 = .ok (.getfield 17, 3) := by decide +kernel
theorem dX4_passHour_14 : decode cX4_passHour 14 = .ok (.iload_n 1, 1) := by decide +kernel
theorem dX4_passHour_15 : decode cX4_passHour 15 = .ok (.aaload, 1) := by decide +kernel
theorem dX4_passHour_16 : decode cX4_passHour 16 = .ok (.dup, 1) := by decide +kernel
theorem dX4_passHour_17 : decode cX4_passHour 17 = .ok (.getfield 120, 3) := by decide +kernel
theorem dX4_passHour_20 : decode cX4_passHour 20 = .ok (.iconst 1, 1) := by decide +kernel
theorem dX4_passHour_21 : decode cX4_passHour 21 = .ok (.iadd, 1) := by decide +kernel
theorem dX4_passHour_22 : decode cX4_passHour 22 = .ok (.putfield 120, 3) := by decide +kernel
theorem dX4_passHour_25 : decode cX4_passHour 25 = .ok (.iinc 1 1, 3) := by decide +kernel
theorem dX4_passHour_28 : decode cX4_passHour 28 = .ok (.goto (-26), 3) := by decide +kernel
theorem dX4_passHour_31 : decode cX4_passHour 31 = .ok (.iconst 0, 1) := by decide +kernel
theorem dX4_passHour_32 : decode cX4_passHour 32 = .ok (.istore_n 1, 1) := by decide +kernel
theorem dX4_passHour_33 : decode cX4_passHour 33 = .ok (.iload_n 1, 1) := by decide +kernel
theorem dX4_passHour_34 : decode cX4_passHour 34 = .ok (.aload_n 0, 1) := by decide +kernel
theorem dX4_passHour_35 : decode cX4_passHour 35 = .ok (.getfield 44, 3) := by decide +kernel
theorem dX4_passHour_38 : decode cX4_passHour 38 = .ok (.if_icmp .ge 45, 3) := by decide +kernel
theorem dX4_passHour_41 : decode cX4_passHour 41 = .ok (.aload_n 0, 1) := by decide +kernel
theorem dX4_passHour_42 : decode cX4_passHour 42 = .ok (.getfield 23, 3) := by decide +kernel
theorem dX4_passHour_45 : decode cX4_passHour 45 = .ok (.iload_n 1, 1) := by decide +kernel
theorem dX4_passHour_46 : decode cX4_passHour 46 = .ok (.aaload, 1) := by decide +kernel
theorem dX4_passHour_47 : decode cX4_passHour 47 = .ok (.getfield 143, 3) := by decide +kernel
theorem dX4_passHour_50 : decode cX4_passHour 50 = .ok (.iconst (-1), 1) := by decide +kernel
theorem dX4_passHour_51 : decode cX4_passHour 51 = .ok (.if_icmp .ne 26, 3) := by decide +kernel
theorem dX4_passHour_54 : decode cX4_passHour 54 = .ok (.aload_n 0, 1) := by decide +kernel
theorem dX4_passHour_55 : decode cX4_passHour 55 = .ok (.getfield 23, 3) := by decide +kernel
theorem dX4_passHour_58 : decode cX4_passHour 58 = .ok (.iload_n 1, 1) := by decide +kernel
theorem dX4_passHour_59 : decode cX4_passHour 59 = .ok (.aaload, 1) := by decide +kernel
theorem dX4_passHour_60 : decode cX4_passHour 60 = .ok (.getfield 146, 3) := by decide +kernel
theorem dX4_passHour_63 : decode cX4_passHour 63 = .ok (.ifCond .ne 14, 3) := by decide +kernel
theorem dX4_passHour_66 : decode cX4_passHour 66 = .ok (.aload_n 0, 1) := by decide +kernel
theorem dX4_passHour_67 : decode cX4_passHour 67 = .ok (.getfield 23, 3) := by decide +kernel
theorem dX4_passHour_70 : decode cX4_passHour 70 = .ok (.iload_n 1, 1) := by decide +kernel
theorem dX4_passHour_71 : decode cX4_passHour 71 = .ok (.aaload, 1) := by decide +kernel
theorem dX4_passHour_72 : decode cX4_passHour 72 = .ok (.bipush 11, 2) := by decide +kernel
theorem dX4_passHour_74 : decode cX4_passHour 74 = .ok (.putfield 143, 3) := by decide +kernel
theorem dX4_passHour_77 : decode cX4_passHour 77 = .ok (.iinc 1 1, 3) := by decide +kernel
theorem dX4_passHour_80 : decode cX4_passHour 80 = .ok (.goto (-47), 3) := by decide +kernel
theorem dX4_passHour_83 : decode cX4_passHour 83 = .ok (.iconst 0, 1) := by decide +kernel
theorem dX4_passHour_84 : decode cX4_passHour 84 = .ok (.istore_n 1, 1) := by decide +kernel
theorem dX4_passHour_85 : decode cX4_passHour 85 = .ok (.iload_n 1, 1) := by decide +kernel
theorem dX4_passHour_86 : decode cX4_passHour 86 = .ok (.aload_n 0, 1) := by decide +kernel
theorem dX4_passHour_87 : decode cX4_passHour 87 = .ok (.getfield 47, 3) := by decide +kernel
theorem dX4_passHour_90 : decode cX4_passHour 90 = .ok (.if_icmp .ge 14, 3) := by decide +kernel
theorem dX4_passHour_93 : decode cX4_passHour 93 = .ok (.aload_n 0, 1) := by decide +kernel
theorem dX4_passHour_94 : decode cX4_passHour 94 = .ok (.iload_n 1, 1) := by decide +kernel
theorem dX4_passHour_95 : decode cX4_passHour 95 = .ok (.invokevirtual 176, 3) := by decide +kernel
theorem dX4_passHour_98 : decode cX4_passHour 98 = .ok (.iinc 1 1, 3) := by decide +kernel
theorem dX4_passHour_101 : decode cX4_passHour 101 = .ok (.goto (-16), 3) := by decide +kernel
theorem dX4_passHour_104 : decode cX4_passHour 104 = .ok (.aload_n 0, 1) := by decide +kernel
theorem dX4_passHour_105 : decode cX4_passHour 105 = .ok (.dup, 1) := by decide +kernel
theorem dX4_passHour_106 : decode cX4_passHour 106 = .ok (.getfield 50, 3) := by decide +kernel
theorem dX4_passHour_109 : decode cX4_passHour 109 = .ok (.iconst 1, 1) := by decide +kernel
theorem dX4_passHour_110 : decode cX4_passHour 110 = .ok (.iadd, 1) := by decide +kernel
theorem dX4_passHour_111 : decode cX4_passHour 111 = .ok (.putfield 50, 3) := by decide +kernel
theorem dX4_passHour_114 : decode cX4_passHour 114 = .ok (.return_, 1) := by decide +kernel
set_option maxRecDepth 20000 in
theorem ggX4_passHourIn_X3_hourLater : GoodIn wsX4_passHourIn wsX3_hourLater := goodIn_r _ [8, 9, 10, 38, 39] (by decide +kernel) (by decide +kernel)
set_option maxRecDepth 20000 in
theorem gX4_passHourIn_X3_hourLater_n180 : GoodIn wsX4_passHourIn (wsX3_hourLater) := ggX4_passHourIn_X3_hourLater
set_option maxRecDepth 20000 in
theorem ggX4_passHourIn_X2_coarsening : GoodIn wsX4_passHourIn wsX2_coarsening := goodIn_r _ [14, 15, 16, 17, 18, 12, 19, 20, 45, 46, 47, 48, 49, 50, 51, 52, 53, 54, 55, 56] (by decide +kernel) (by decide +kernel)
set_option maxRecDepth 20000 in
theorem gX4_passHourIn_X2_coarsening_n184 : GoodIn wsX4_passHourIn (wsX2_coarsening) := ggX4_passHourIn_X2_coarsening
set_option maxRecDepth 20000 in
theorem ggX4_passHourIn_X2_meltsAt : GoodIn wsX4_passHourIn wsX2_meltsAt := goodIn_r _ [23, 20, 45, 46, 47, 48, 49, 50, 51, 52, 53, 54, 55, 56] (by decide +kernel) (by decide +kernel)
set_option maxRecDepth 20000 in
theorem gX4_passHourIn_X2_meltsAt_n188 : GoodIn wsX4_passHourIn (wsX2_meltsAt) := ggX4_passHourIn_X2_meltsAt
theorem dX4_passHourIn_0 : decode cX4_passHourIn 0 = .ok (.aload_n 0, 1) := by decide +kernel
theorem dX4_passHourIn_1 : decode cX4_passHourIn 1 = .ok (.getfield 29, 3) := by decide +kernel
theorem dX4_passHourIn_4 : decode cX4_passHourIn 4 = .ok (.iload_n 1, 1) := by decide +kernel
theorem dX4_passHourIn_5 : decode cX4_passHourIn 5 = .ok (.aaload, 1) := by decide +kernel
theorem dX4_passHourIn_6 : decode cX4_passHourIn 6 = .ok (.getfield 156, 3) := by decide +kernel
theorem dX4_passHourIn_9 : decode cX4_passHourIn 9 = .ok (.dstore_n 2, 1) := by decide +kernel
theorem dX4_passHourIn_10 : decode cX4_passHourIn 10 = .ok (.aload_n 0, 1) := by decide +kernel
theorem dX4_passHourIn_11 : decode cX4_passHourIn 11 = .ok (.getfield 29, 3) := by decide +kernel
theorem dX4_passHourIn_14 : decode cX4_passHourIn 14 = .ok (.iload_n 1, 1) := by decide +kernel
theorem dX4_passHourIn_15 : decode cX4_passHourIn 15 = .ok (.aaload, 1) := by decide +kernel
theorem dX4_passHourIn_16 : decode cX4_passHourIn 16 = .ok (.dload_n 2, 1) := by decide +kernel
theorem dX4_passHourIn_17 : decode cX4_passHourIn 17 = .ok (.invokevirtual 180, 3) := by decide +kernel
theorem dX4_passHourIn_20 : decode cX4_passHourIn 20 = .ok (.dstore 4, 2) := by decide +kernel
theorem dX4_passHourIn_22 : decode cX4_passHourIn 22 = .ok (.aload_n 0, 1) := by decide +kernel
theorem dX4_passHourIn_23 : decode cX4_passHourIn 23 = .ok (.getfield 29, 3) := by decide +kernel
theorem dX4_passHourIn_26 : decode cX4_passHourIn 26 = .ok (.iload_n 1, 1) := by decide +kernel
theorem dX4_passHourIn_27 : decode cX4_passHourIn 27 = .ok (.aaload, 1) := by decide +kernel
theorem dX4_passHourIn_28 : decode cX4_passHourIn 28 = .ok (.dload 4, 2) := by decide +kernel
theorem dX4_passHourIn_30 : decode cX4_passHourIn 30 = .ok (.putfield 156, 3) := by decide +kernel
theorem dX4_passHourIn_33 : decode cX4_passHourIn 33 = .ok (.iconst 0, 1) := by decide +kernel
theorem dX4_passHourIn_34 : decode cX4_passHourIn 34 = .ok (.istore 6, 2) := by decide +kernel
theorem dX4_passHourIn_36 : decode cX4_passHourIn 36 = .ok (.iload 6, 2) := by decide +kernel
theorem dX4_passHourIn_38 : decode cX4_passHourIn 38 = .ok (.aload_n 0, 1) := by decide +kernel
theorem dX4_passHourIn_39 : decode cX4_passHourIn 39 = .ok (.getfield 44, 3) := by decide +kernel
theorem dX4_passHourIn_42 : decode cX4_passHourIn 42 = .ok (.if_icmp .ge 74, 3) := by decide +kernel
theorem dX4_passHourIn_45 : decode cX4_passHourIn 45 = .ok (.aload_n 0, 1) := by decide +kernel
theorem dX4_passHourIn_46 : decode cX4_passHourIn 46 = .ok (.getfield 23, 3) := by decide +kernel
theorem dX4_passHourIn_49 : decode cX4_passHourIn 49 = .ok (.iload 6, 2) := by decide +kernel
theorem dX4_passHourIn_51 : decode cX4_passHourIn 51 = .ok (.aaload, 1) := by decide +kernel
theorem dX4_passHourIn_52 : decode cX4_passHourIn 52 = .ok (.astore 7, 2) := by decide +kernel
theorem dX4_passHourIn_54 : decode cX4_passHourIn 54 = .ok (.aload 7, 2) := by decide +kernel
theorem dX4_passHourIn_56 : decode cX4_passHourIn 56 = .ok (.getfield 143, 3) := by decide +kernel
theorem dX4_passHourIn_59 : decode cX4_passHourIn 59 = .ok (.iload_n 1, 1) := by decide +kernel
theorem dX4_passHourIn_60 : decode cX4_passHourIn 60 = .ok (.if_icmp .ne 50, 3) := by decide +kernel
theorem dX4_passHourIn_63 : decode cX4_passHourIn 63 = .ok (.aload_n 0, 1) := by decide +kernel
theorem dX4_passHourIn_64 : decode cX4_passHourIn 64 = .ok (.getfield 17, 3) := by decide +kernel
theorem dX4_passHourIn_67 : decode cX4_passHourIn 67 = .ok (.aload 7, 2) := by decide +kernel
theorem dX4_passHourIn_69 : decode cX4_passHourIn 69 = .ok (.getfield 131, 3) := by decide +kernel
theorem dX4_passHourIn_72 : decode cX4_passHourIn 72 = .ok (.aaload, 1) := by decide +kernel
theorem dX4_passHourIn_73 : decode cX4_passHourIn 73 = .ok (.astore 8, 2) := by decide +kernel
theorem dX4_passHourIn_75 : decode cX4_passHourIn 75 = .ok (.aload 7, 2) := by decide +kernel
theorem dX4_passHourIn_77 : decode cX4_passHourIn 77 = .ok (.aload 7, 2) := by decide +kernel
theorem dX4_passHourIn_79 : decode cX4_passHourIn 79 = .ok (.getfield 139, 3) := by decide +kernel
theorem dX4_passHourIn_82 : decode cX4_passHourIn 82 = .ok (.aload 8, 2) := by decide +kernel
theorem dX4_passHourIn_84 : decode cX4_passHourIn 84 = .ok (.dload_n 2, 1) := by decide +kernel
theorem dX4_passHourIn_85 : decode cX4_passHourIn 85 = .ok (.dload 4, 2) := by decide +kernel
theorem dX4_passHourIn_87 : decode cX4_passHourIn 87 = .ok (.invokevirtual 184, 3) := by decide +kernel
theorem dX4_passHourIn_90 : decode cX4_passHourIn 90 = .ok (.dadd, 1) := by decide +kernel
theorem dX4_passHourIn_91 : decode cX4_passHourIn 91 = .ok (.putfield 139, 3) := by decide +kernel
theorem dX4_passHourIn_94 : decode cX4_passHourIn 94 = .ok (.aload 8, 2) := by decide +kernel
theorem dX4_passHourIn_96 : decode cX4_passHourIn 96 = .ok (.dload_n 2, 1) := by decide +kernel
theorem dX4_passHourIn_97 : decode cX4_passHourIn 97 = .ok (.invokevirtual 188, 3) := by decide +kernel
theorem dX4_passHourIn_100 : decode cX4_passHourIn 100 = .ok (.ifCond .eq 10, 3) := by decide +kernel
theorem dX4_passHourIn_103 : decode cX4_passHourIn 103 = .ok (.aload 7, 2) := by decide +kernel
theorem dX4_passHourIn_105 : decode cX4_passHourIn 105 = .ok (.bipush 11, 2) := by decide +kernel
theorem dX4_passHourIn_107 : decode cX4_passHourIn 107 = .ok (.putfield 143, 3) := by decide +kernel
theorem dX4_passHourIn_110 : decode cX4_passHourIn 110 = .ok (.iinc 6 1, 3) := by decide +kernel
theorem dX4_passHourIn_113 : decode cX4_passHourIn 113 = .ok (.goto (-77), 3) := by decide +kernel
theorem dX4_passHourIn_116 : decode cX4_passHourIn 116 = .ok (.return_, 1) := by decide +kernel
set_option maxRecDepth 20000 in
theorem ggX4_isCalled_X4_holdsAnyOf : GoodIn wsX4_isCalled wsX4_holdsAnyOf := goodIn_r _ [6, 7, 8, 9, 10, 11, 12, 13, 14, 15, 16, 17, 18, 19, 20, 21, 22, 23, 24, 25, 26, 27, 28, 29, 30, 31, 32, 33, 34, 35, 36, 37, 38] (by decide +kernel) (by decide +kernel)
set_option maxRecDepth 20000 in
theorem gX4_isCalled_X4_holdsAnyOf : GoodIn wsX4_isCalled (wsV RX4 205 RX4 yX4_holdsAnyOf wsX4_holdsAnyOf) := goodIn_app (goodIn_of _ (by decide +kernel)) ggX4_isCalled_X4_holdsAnyOf
theorem dX4_isCalled_0 : decode cX4_isCalled 0 = .ok (.aload_n 0, 1) := by decide +kernel
theorem dX4_isCalled_1 : decode cX4_isCalled 1 = .ok (.aload_n 1, 1) := by decide +kernel
theorem dX4_isCalled_2 : decode cX4_isCalled 2 = .ok (.aload_n 0, 1) := by decide +kernel
theorem dX4_isCalled_3 : decode cX4_isCalled 3 = .ok (.getfield 59, 3) := by decide +kernel
theorem dX4_isCalled_6 : decode cX4_isCalled 6 = .ok (.invokevirtual 205, 3) := by decide +kernel
theorem dX4_isCalled_9 : decode cX4_isCalled 9 = .ok (.ireturn, 1) := by decide +kernel
theorem dX4_holdsAnyOf_0 : decode cX4_holdsAnyOf 0 = .ok (.aload_n 0, 1) := by decide +kernel
theorem dX4_holdsAnyOf_1 : decode cX4_holdsAnyOf 1 = .ok (.getfield 17, 3) := by decide +kernel
theorem dX4_holdsAnyOf_4 : decode cX4_holdsAnyOf 4 = .ok (.aload_n 1, 1) := by decide +kernel
theorem dX4_holdsAnyOf_5 : decode cX4_holdsAnyOf 5 = .ok (.getfield 131, 3) := by decide +kernel
theorem dX4_holdsAnyOf_8 : decode cX4_holdsAnyOf 8 = .ok (.aaload, 1) := by decide +kernel
theorem dX4_holdsAnyOf_9 : decode cX4_holdsAnyOf 9 = .ok (.getfield 209, 3) := by decide +kernel
theorem dX4_holdsAnyOf_12 : decode cX4_holdsAnyOf 12 = .ok (.iload_n 2, 1) := by decide +kernel
theorem dX4_holdsAnyOf_13 : decode cX4_holdsAnyOf 13 = .ok (.iand, 1) := by decide +kernel
theorem dX4_holdsAnyOf_14 : decode cX4_holdsAnyOf 14 = .ok (.ifCond .eq 7, 3) := by decide +kernel
theorem dX4_holdsAnyOf_17 : decode cX4_holdsAnyOf 17 = .ok (.iconst 1, 1) := by decide +kernel
theorem dX4_holdsAnyOf_18 : decode cX4_holdsAnyOf 18 = .ok (.goto 4, 3) := by decide +kernel
theorem dX4_holdsAnyOf_21 : decode cX4_holdsAnyOf 21 = .ok (.iconst 0, 1) := by decide +kernel
theorem dX4_holdsAnyOf_22 : decode cX4_holdsAnyOf 22 = .ok (.ireturn, 1) := by decide +kernel
set_option maxRecDepth 20000 in
theorem ggX4_ofMix_X4_checkNumber : GoodIn wsX4_ofMix wsX4_checkNumber := goodIn_ca (goodIn_r _ [6, 7, 8] (by decide +kernel) (by decide +kernel)) (goodIn_sub (fun _ h => List.mem_cons_of_mem _ (List.mem_append_left _ (List.mem_append_right _ h))) (by decide +kernel))
set_option maxRecDepth 20000 in
theorem gX4_ofMix_X4_checkNumber : GoodIn wsX4_ofMix (va_wsS RX4 92 yX4_checkNumber wsX4_checkNumber) := goodIn_app (goodIn_of _ (by decide +kernel)) ggX4_ofMix_X4_checkNumber
set_option maxRecDepth 20000 in
theorem ggX4_ofMix_X4_checkRange : GoodIn wsX4_ofMix wsX4_checkRange := goodIn_ca (goodIn_r _ [11, 12, 13] (by decide +kernel) (by decide +kernel)) (goodIn_sub (fun _ h => List.mem_cons_of_mem _ (List.mem_append_right _ h)) (by decide +kernel))
set_option maxRecDepth 20000 in
theorem gX4_ofMix_X4_checkRange : GoodIn wsX4_ofMix (va_wsS RX4 69 yX4_checkRange wsX4_checkRange) := goodIn_app (goodIn_of _ (by decide +kernel)) ggX4_ofMix_X4_checkRange
set_option maxRecDepth 20000 in
theorem ggX4_ofMix_X2_isCream : GoodIn wsX4_ofMix wsX2_isCream := goodIn_r _ [17, 18, 19, 20, 21, 22, 23, 24, 15, 25, 26, 41, 42, 43, 44, 45, 46, 47, 48, 49, 50, 51, 52] (by decide +kernel) (by decide +kernel)
set_option maxRecDepth 20000 in
theorem gX4_ofMix_X2_isCream_n213 : GoodIn wsX4_ofMix (wsX2_isCream) := ggX4_ofMix_X2_isCream
theorem dX4_ofMix_0 : decode cX4_ofMix 0 = .ok (.iload_n 1, 1) := by decide +kernel
theorem dX4_ofMix_1 : decode cX4_ofMix 1 = .ok (.aload_n 0, 1) := by decide +kernel
theorem dX4_ofMix_2 : decode cX4_ofMix 2 = .ok (.getfield 41, 3) := by decide +kernel
theorem dX4_ofMix_5 : decode cX4_ofMix 5 = .ok (.invokestatic 92, 3) := by decide +kernel
theorem dX4_ofMix_8 : decode cX4_ofMix 8 = .ok (.iload_n 2, 1) := by decide +kernel
theorem dX4_ofMix_9 : decode cX4_ofMix 9 = .ok (.iconst 0, 1) := by decide +kernel
theorem dX4_ofMix_10 : decode cX4_ofMix 10 = .ok (.bipush 8, 2) := by decide +kernel
theorem dX4_ofMix_12 : decode cX4_ofMix 12 = .ok (.invokestatic 69, 3) := by decide +kernel
theorem dX4_ofMix_15 : decode cX4_ofMix 15 = .ok (.aload_n 0, 1) := by decide +kernel
theorem dX4_ofMix_16 : decode cX4_ofMix 16 = .ok (.getfield 17, 3) := by decide +kernel
theorem dX4_ofMix_19 : decode cX4_ofMix 19 = .ok (.iload_n 1, 1) := by decide +kernel
theorem dX4_ofMix_20 : decode cX4_ofMix 20 = .ok (.aaload, 1) := by decide +kernel
theorem dX4_ofMix_21 : decode cX4_ofMix 21 = .ok (.astore_n 3, 1) := by decide +kernel
theorem dX4_ofMix_22 : decode cX4_ofMix 22 = .ok (.iload_n 2, 1) := by decide +kernel
theorem dX4_ofMix_23 : decode cX4_ofMix 23 = .ok (.tableswitch 101 0 7 #[45, 50, 55, 60, 65, 78, 83, 96], 45) := by decide +kernel
theorem dX4_ofMix_68 : decode cX4_ofMix 68 = .ok (.aload_n 3, 1) := by decide +kernel
theorem dX4_ofMix_69 : decode cX4_ofMix 69 = .ok (.getfield 99, 3) := by decide +kernel
theorem dX4_ofMix_72 : decode cX4_ofMix 72 = .ok (.ireturn, 1) := by decide +kernel
theorem dX4_ofMix_73 : decode cX4_ofMix 73 = .ok (.aload_n 3, 1) := by decide +kernel
theorem dX4_ofMix_74 : decode cX4_ofMix 74 = .ok (.getfield 127, 3) := by decide +kernel
theorem dX4_ofMix_77 : decode cX4_ofMix 77 = .ok (.ireturn, 1) := by decide +kernel
theorem dX4_ofMix_78 : decode cX4_ofMix 78 = .ok (.aload_n 3, 1) := by decide +kernel
theorem dX4_ofMix_79 : decode cX4_ofMix 79 = .ok (.getfield 212, 3) := by decide +kernel
theorem dX4_ofMix_82 : decode cX4_ofMix 82 = .ok (.ireturn, 1) := by decide +kernel
theorem dX4_ofMix_83 : decode cX4_ofMix 83 = .ok (.aload_n 3, 1) := by decide +kernel
theorem dX4_ofMix_84 : decode cX4_ofMix 84 = .ok (.getfield 130, 3) := by decide +kernel
theorem dX4_ofMix_87 : decode cX4_ofMix 87 = .ok (.ireturn, 1) := by decide +kernel
theorem dX4_ofMix_88 : decode cX4_ofMix 88 = .ok (.aload_n 3, 1) := by decide +kernel
theorem dX4_ofMix_89 : decode cX4_ofMix 89 = .ok (.getfield 112, 3) := by decide +kernel
theorem dX4_ofMix_92 : decode cX4_ofMix 92 = .ok (.ifCond .eq 7, 3) := by decide +kernel
theorem dX4_ofMix_95 : decode cX4_ofMix 95 = .ok (.iconst 1, 1) := by decide +kernel
theorem dX4_ofMix_96 : decode cX4_ofMix 96 = .ok (.goto 4, 3) := by decide +kernel
theorem dX4_ofMix_99 : decode cX4_ofMix 99 = .ok (.iconst 0, 1) := by decide +kernel
theorem dX4_ofMix_100 : decode cX4_ofMix 100 = .ok (.ireturn, 1) := by decide +kernel
theorem dX4_ofMix_101 : decode cX4_ofMix 101 = .ok (.aload_n 3, 1) := by decide +kernel
theorem dX4_ofMix_102 : decode cX4_ofMix 102 = .ok (.getfield 120, 3) := by decide +kernel
theorem dX4_ofMix_105 : decode cX4_ofMix 105 = .ok (.ireturn, 1) := by decide +kernel
theorem dX4_ofMix_106 : decode cX4_ofMix 106 = .ok (.aload_n 3, 1) := by decide +kernel
theorem dX4_ofMix_107 : decode cX4_ofMix 107 = .ok (.invokevirtual 213, 3) := by decide +kernel
theorem dX4_ofMix_110 : decode cX4_ofMix 110 = .ok (.ifCond .eq 7, 3) := by decide +kernel
theorem dX4_ofMix_113 : decode cX4_ofMix 113 = .ok (.iconst 1, 1) := by decide +kernel
theorem dX4_ofMix_114 : decode cX4_ofMix 114 = .ok (.goto 4, 3) := by decide +kernel
theorem dX4_ofMix_117 : decode cX4_ofMix 117 = .ok (.iconst 0, 1) := by decide +kernel
theorem dX4_ofMix_118 : decode cX4_ofMix 118 = .ok (.ireturn, 1) := by decide +kernel
theorem dX4_ofMix_119 : decode cX4_ofMix 119 = .ok (.aload_n 3, 1) := by decide +kernel
theorem dX4_ofMix_120 : decode cX4_ofMix 120 = .ok (.getfield 209, 3) := by decide +kernel
theorem dX4_ofMix_123 : decode cX4_ofMix 123 = .ok (.ireturn, 1) := by decide +kernel
theorem dX4_ofMix_124 : decode cX4_ofMix 124 = .ok (.aload_n 3, 1) := by decide +kernel
theorem dX4_ofMix_125 : decode cX4_ofMix 125 = .ok (.getfield 102, 3) := by decide +kernel
theorem dX4_ofMix_128 : decode cX4_ofMix 128 = .ok (.ireturn, 1) := by decide +kernel
set_option maxRecDepth 20000 in
theorem ggX4_bars_X4_checkNumber : GoodIn wsX4_bars wsX4_checkNumber := goodIn_ca (goodIn_r _ [8, 9, 10] (by decide +kernel) (by decide +kernel)) (goodIn_sub (fun _ h => List.mem_cons_of_mem _ (List.mem_append_left _ (List.mem_append_right _ h))) (by decide +kernel))
set_option maxRecDepth 20000 in
theorem gX4_bars_X4_checkNumber : GoodIn wsX4_bars (va_wsS RX4 92 yX4_checkNumber wsX4_checkNumber) := goodIn_app (goodIn_of _ (by decide +kernel)) ggX4_bars_X4_checkNumber
set_option maxRecDepth 20000 in
theorem ggX4_bars_X4_checkRange : GoodIn wsX4_bars wsX4_checkRange := goodIn_ca (goodIn_r _ [13, 14, 15] (by decide +kernel) (by decide +kernel)) (goodIn_sub (fun _ h => List.mem_cons_of_mem _ (List.mem_append_right _ h)) (by decide +kernel))
set_option maxRecDepth 20000 in
theorem gX4_bars_X4_checkRange : GoodIn wsX4_bars (va_wsS RX4 69 yX4_checkRange wsX4_checkRange) := goodIn_app (goodIn_of _ (by decide +kernel)) ggX4_bars_X4_checkRange
set_option maxRecDepth 20000 in
theorem ggX4_bars_X2_isCream : GoodIn wsX4_bars wsX2_isCream := goodIn_r _ [19, 20, 21, 22, 23, 24, 25, 26, 17, 27, 28, 43, 44, 45, 46, 47, 48, 49, 50, 51, 52, 53, 54] (by decide +kernel) (by decide +kernel)
set_option maxRecDepth 20000 in
theorem gX4_bars_X2_isCream_n213 : GoodIn wsX4_bars (wsX2_isCream) := ggX4_bars_X2_isCream
theorem dX4_bars_0 : decode cX4_bars 0 = .ok (.iload_n 1, 1) := by decide +kernel
theorem dX4_bars_1 : decode cX4_bars 1 = .ok (.iconst 2, 1) := by decide +kernel
theorem dX4_bars_2 : decode cX4_bars 2 = .ok (.invokestatic 92, 3) := by decide +kernel
theorem dX4_bars_5 : decode cX4_bars 5 = .ok (.iload_n 2, 1) := by decide +kernel
theorem dX4_bars_6 : decode cX4_bars 6 = .ok (.aload_n 0, 1) := by decide +kernel
theorem dX4_bars_7 : decode cX4_bars 7 = .ok (.getfield 41, 3) := by decide +kernel
theorem dX4_bars_10 : decode cX4_bars 10 = .ok (.invokestatic 92, 3) := by decide +kernel
theorem dX4_bars_13 : decode cX4_bars 13 = .ok (.iload_n 3, 1) := by decide +kernel
theorem dX4_bars_14 : decode cX4_bars 14 = .ok (.iconst 5, 1) := by decide +kernel
theorem dX4_bars_15 : decode cX4_bars 15 = .ok (.sipush 500, 3) := by decide +kernel
theorem dX4_bars_18 : decode cX4_bars 18 = .ok (.invokestatic 69, 3) := by decide +kernel
theorem dX4_bars_21 : decode cX4_bars 21 = .ok (.iload 4, 2) := by decide +kernel
theorem dX4_bars_23 : decode cX4_bars 23 = .ok (.bipush 20, 2) := by decide +kernel
theorem dX4_bars_25 : decode cX4_bars 25 = .ok (.sipush 140, 3) := by decide +kernel
theorem dX4_bars_28 : decode cX4_bars 28 = .ok (.invokestatic 69, 3) := by decide +kernel
theorem dX4_bars_31 : decode cX4_bars 31 = .ok (.aload_n 0, 1) := by decide +kernel
theorem dX4_bars_32 : decode cX4_bars 32 = .ok (.getfield 17, 3) := by decide +kernel
theorem dX4_bars_35 : decode cX4_bars 35 = .ok (.iload_n 2, 1) := by decide +kernel
theorem dX4_bars_36 : decode cX4_bars 36 = .ok (.aaload, 1) := by decide +kernel
theorem dX4_bars_37 : decode cX4_bars 37 = .ok (.astore 5, 2) := by decide +kernel
theorem dX4_bars_39 : decode cX4_bars 39 = .ok (.aload 5, 2) := by decide +kernel
theorem dX4_bars_41 : decode cX4_bars 41 = .ok (.getfield 112, 3) := by decide +kernel
theorem dX4_bars_44 : decode cX4_bars 44 = .ok (.ifCond .ne 5, 3) := by decide +kernel
theorem dX4_bars_47 : decode cX4_bars 47 = .ok (.iconst 1, 1) := by decide +kernel
theorem dX4_bars_48 : decode cX4_bars 48 = .ok (.ireturn, 1) := by decide +kernel
theorem dX4_bars_49 : decode cX4_bars 49 = .ok (.aload 5, 2) := by decide +kernel
theorem dX4_bars_51 : decode cX4_bars 51 = .ok (.getfield 120, 3) := by decide +kernel
theorem dX4_bars_54 : decode cX4_bars 54 = .ok (.iconst 4, 1) := by decide +kernel
theorem dX4_bars_55 : decode cX4_bars 55 = .ok (.if_icmp .ge 5, 3) := by decide +kernel
theorem dX4_bars_58 : decode cX4_bars 58 = .ok (.iconst 2, 1) := by decide +kernel
theorem dX4_bars_59 : decode cX4_bars 59 = .ok (.ireturn, 1) := by decide +kernel
theorem dX4_bars_60 : decode cX4_bars 60 = .ok (.aload 5, 2) := by decide +kernel
theorem dX4_bars_62 : decode cX4_bars 62 = .ok (.getfield 120, 3) := by decide +kernel
theorem dX4_bars_65 : decode cX4_bars 65 = .ok (.bipush 72, 2) := by decide +kernel
theorem dX4_bars_67 : decode cX4_bars 67 = .ok (.if_icmp .le 5, 3) := by decide +kernel
theorem dX4_bars_70 : decode cX4_bars 70 = .ok (.iconst 3, 1) := by decide +kernel
theorem dX4_bars_71 : decode cX4_bars 71 = .ok (.ireturn, 1) := by decide +kernel
theorem dX4_bars_72 : decode cX4_bars 72 = .ok (.aload 5, 2) := by decide +kernel
theorem dX4_bars_74 : decode cX4_bars 74 = .ok (.getfield 127, 3) := by decide +kernel
theorem dX4_bars_77 : decode cX4_bars 77 = .ok (.iload_n 3, 1) := by decide +kernel
theorem dX4_bars_78 : decode cX4_bars 78 = .ok (.if_icmp .ge 5, 3) := by decide +kernel
theorem dX4_bars_81 : decode cX4_bars 81 = .ok (.iconst 4, 1) := by decide +kernel
theorem dX4_bars_82 : decode cX4_bars 82 = .ok (.ireturn, 1) := by decide +kernel
theorem dX4_bars_83 : decode cX4_bars 83 = .ok (.aload_n 0, 1) := by decide +kernel
theorem dX4_bars_84 : decode cX4_bars 84 = .ok (.getfield 33, 3) := by decide +kernel
theorem dX4_bars_87 : decode cX4_bars 87 = .ok (.iload_n 1, 1) := by decide +kernel
theorem dX4_bars_88 : decode cX4_bars 88 = .ok (.iaload, 1) := by decide +kernel
theorem dX4_bars_89 : decode cX4_bars 89 = .ok (.aload 5, 2) := by decide +kernel
theorem dX4_bars_91 : decode cX4_bars 91 = .ok (.getfield 130, 3) := by decide +kernel
theorem dX4_bars_94 : decode cX4_bars 94 = .ok (.iconst (-1), 1) := by decide +kernel
theorem dX4_bars_95 : decode cX4_bars 95 = .ok (.ixor, 1) := by decide +kernel
theorem dX4_bars_96 : decode cX4_bars 96 = .ok (.iand, 1) := by decide +kernel
theorem dX4_bars_97 : decode cX4_bars 97 = .ok (.ifCond .eq 5, 3) := by decide +kernel
theorem dX4_bars_100 : decode cX4_bars 100 = .ok (.iconst 5, 1) := by decide +kernel
theorem dX4_bars_101 : decode cX4_bars 101 = .ok (.ireturn, 1) := by decide +kernel
theorem dX4_bars_102 : decode cX4_bars 102 = .ok (.iload 4, 2) := by decide +kernel
theorem dX4_bars_104 : decode cX4_bars 104 = .ok (.bipush 100, 2) := by decide +kernel
theorem dX4_bars_106 : decode cX4_bars 106 = .ok (.if_icmp .le 14, 3) := by decide +kernel
theorem dX4_bars_109 : decode cX4_bars 109 = .ok (.aload 5, 2) := by decide +kernel
theorem dX4_bars_111 : decode cX4_bars 111 = .ok (.invokevirtual 213, 3) := by decide +kernel
theorem dX4_bars_114 : decode cX4_bars 114 = .ok (.ifCond .eq 6, 3) := by decide +kernel
theorem dX4_bars_117 : decode cX4_bars 117 = .ok (.bipush 6, 2) := by decide +kernel
theorem dX4_bars_119 : decode cX4_bars 119 = .ok (.ireturn, 1) := by decide +kernel
theorem dX4_bars_120 : decode cX4_bars 120 = .ok (.aload_n 0, 1) := by decide +kernel
theorem dX4_bars_121 : decode cX4_bars 121 = .ok (.getfield 44, 3) := by decide +kernel
theorem dX4_bars_124 : decode cX4_bars 124 = .ok (.bipush 12, 2) := by decide +kernel
theorem dX4_bars_126 : decode cX4_bars 126 = .ok (.if_icmp .lt 8, 3) := by decide +kernel
theorem dX4_bars_129 : decode cX4_bars 129 = .ok (.bipush 7, 2) := by decide +kernel
theorem dX4_bars_131 : decode cX4_bars 131 = .ok (.goto 4, 3) := by decide +kernel
theorem dX4_bars_134 : decode cX4_bars 134 = .ok (.iconst 0, 1) := by decide +kernel
theorem dX4_bars_135 : decode cX4_bars 135 = .ok (.ireturn, 1) := by decide +kernel
set_option maxRecDepth 20000 in
theorem ggX4_ofBatch_X4_checkNumber : GoodIn wsX4_ofBatch wsX4_checkNumber := goodIn_ca (goodIn_r _ [6, 7, 8] (by decide +kernel) (by decide +kernel)) (goodIn_sub (fun _ h => List.mem_cons_of_mem _ (List.mem_append_left _ (List.mem_append_right _ h))) (by decide +kernel))
set_option maxRecDepth 20000 in
theorem gX4_ofBatch_X4_checkNumber : GoodIn wsX4_ofBatch (va_wsS RX4 92 yX4_checkNumber wsX4_checkNumber) := goodIn_app (goodIn_of _ (by decide +kernel)) ggX4_ofBatch_X4_checkNumber
set_option maxRecDepth 20000 in
theorem ggX4_ofBatch_X4_checkRange : GoodIn wsX4_ofBatch wsX4_checkRange := goodIn_ca (goodIn_r _ [11, 12, 13] (by decide +kernel) (by decide +kernel)) (goodIn_sub (fun _ h => List.mem_cons_of_mem _ (List.mem_append_right _ h)) (by decide +kernel))
set_option maxRecDepth 20000 in
theorem gX4_ofBatch_X4_checkRange : GoodIn wsX4_ofBatch (va_wsS RX4 69 yX4_checkRange wsX4_checkRange) := goodIn_app (goodIn_of _ (by decide +kernel)) ggX4_ofBatch_X4_checkRange
set_option maxRecDepth 20000 in
theorem ggX4_ofBatch_X0_isCoarse : GoodIn wsX4_ofBatch wsX0_isCoarse := goodIn_r _ [17, 18, 19, 44, 45, 46, 47, 48] (by decide +kernel) (by decide +kernel)
set_option maxRecDepth 20000 in
theorem gX4_ofBatch_X0_isCoarse_n196 : GoodIn wsX4_ofBatch (wsX0_isCoarse) := ggX4_ofBatch_X0_isCoarse
set_option maxRecDepth 20000 in
theorem ggX4_ofBatch_X4_isCalled : GoodIn wsX4_ofBatch wsX4_isCalled := goodIn_r _ [23, 24, 25, 26, 27, 5, 28, 29, 30, 31, 32, 33, 34, 35, 36, 37, 38, 39, 40, 41, 42, 43, 44, 45, 46, 47, 48, 49, 50, 51, 52, 53, 54, 55, 56, 57, 58, 59, 60] (by decide +kernel) (by decide +kernel)
set_option maxRecDepth 20000 in
theorem gX4_ofBatch_X4_isCalled : GoodIn wsX4_ofBatch (wsV RX4 199 RX4 yX4_isCalled wsX4_isCalled) := goodIn_app (goodIn_of _ (by decide +kernel)) ggX4_ofBatch_X4_isCalled
theorem dX4_ofBatch_0 : decode cX4_ofBatch 0 = .ok (.iload_n 1, 1) := by decide +kernel
theorem dX4_ofBatch_1 : decode cX4_ofBatch 1 = .ok (.aload_n 0, 1) := by decide +kernel
theorem dX4_ofBatch_2 : decode cX4_ofBatch 2 = .ok (.getfield 44, 3) := by decide +kernel
theorem dX4_ofBatch_5 : decode cX4_ofBatch 5 = .ok (.invokestatic 92, 3) := by decide +kernel
theorem dX4_ofBatch_8 : decode cX4_ofBatch 8 = .ok (.iload_n 2, 1) := by decide +kernel
theorem dX4_ofBatch_9 : decode cX4_ofBatch 9 = .ok (.iconst 0, 1) := by decide +kernel
theorem dX4_ofBatch_10 : decode cX4_ofBatch 10 = .ok (.iconst 5, 1) := by decide +kernel
theorem dX4_ofBatch_11 : decode cX4_ofBatch 11 = .ok (.invokestatic 69, 3) := by decide +kernel
theorem dX4_ofBatch_14 : decode cX4_ofBatch 14 = .ok (.aload_n 0, 1) := by decide +kernel
theorem dX4_ofBatch_15 : decode cX4_ofBatch 15 = .ok (.getfield 23, 3) := by decide +kernel
theorem dX4_ofBatch_18 : decode cX4_ofBatch 18 = .ok (.iload_n 1, 1) := by decide +kernel
theorem dX4_ofBatch_19 : decode cX4_ofBatch 19 = .ok (.aaload, 1) := by decide +kernel
theorem dX4_ofBatch_20 : decode cX4_ofBatch 20 = .ok (.astore_n 3, 1) := by decide +kernel
theorem dX4_ofBatch_21 : decode cX4_ofBatch 21 = .ok (.iload_n 2, 1) := by decide +kernel
theorem dX4_ofBatch_22 : decode cX4_ofBatch 22 = .ok (.tableswitch 75 0 4 #[34, 39, 44, 57, 62], 34) := by decide +kernel
theorem dX4_ofBatch_56 : decode cX4_ofBatch 56 = .ok (.aload_n 3, 1) := by decide +kernel
theorem dX4_ofBatch_57 : decode cX4_ofBatch 57 = .ok (.getfield 131, 3) := by decide +kernel
theorem dX4_ofBatch_60 : decode cX4_ofBatch 60 = .ok (.ireturn, 1) := by decide +kernel
theorem dX4_ofBatch_61 : decode cX4_ofBatch 61 = .ok (.aload_n 3, 1) := by decide +kernel
theorem dX4_ofBatch_62 : decode cX4_ofBatch 62 = .ok (.getfield 134, 3) := by decide +kernel
theorem dX4_ofBatch_65 : decode cX4_ofBatch 65 = .ok (.ireturn, 1) := by decide +kernel
theorem dX4_ofBatch_66 : decode cX4_ofBatch 66 = .ok (.aload_n 3, 1) := by decide +kernel
theorem dX4_ofBatch_67 : decode cX4_ofBatch 67 = .ok (.getfield 146, 3) := by decide +kernel
theorem dX4_ofBatch_70 : decode cX4_ofBatch 70 = .ok (.ifCond .eq 7, 3) := by decide +kernel
theorem dX4_ofBatch_73 : decode cX4_ofBatch 73 = .ok (.iconst 1, 1) := by decide +kernel
theorem dX4_ofBatch_74 : decode cX4_ofBatch 74 = .ok (.goto 4, 3) := by decide +kernel
theorem dX4_ofBatch_77 : decode cX4_ofBatch 77 = .ok (.iconst 0, 1) := by decide +kernel
theorem dX4_ofBatch_78 : decode cX4_ofBatch 78 = .ok (.ireturn, 1) := by decide +kernel
theorem dX4_ofBatch_79 : decode cX4_ofBatch 79 = .ok (.aload_n 3, 1) := by decide +kernel
theorem dX4_ofBatch_80 : decode cX4_ofBatch 80 = .ok (.getfield 143, 3) := by decide +kernel
theorem dX4_ofBatch_83 : decode cX4_ofBatch 83 = .ok (.ireturn, 1) := by decide +kernel
theorem dX4_ofBatch_84 : decode cX4_ofBatch 84 = .ok (.aload_n 3, 1) := by decide +kernel
theorem dX4_ofBatch_85 : decode cX4_ofBatch 85 = .ok (.invokevirtual 196, 3) := by decide +kernel
theorem dX4_ofBatch_88 : decode cX4_ofBatch 88 = .ok (.ifCond .eq 7, 3) := by decide +kernel
theorem dX4_ofBatch_91 : decode cX4_ofBatch 91 = .ok (.iconst 1, 1) := by decide +kernel
theorem dX4_ofBatch_92 : decode cX4_ofBatch 92 = .ok (.goto 4, 3) := by decide +kernel
theorem dX4_ofBatch_95 : decode cX4_ofBatch 95 = .ok (.iconst 0, 1) := by decide +kernel
theorem dX4_ofBatch_96 : decode cX4_ofBatch 96 = .ok (.ireturn, 1) := by decide +kernel
theorem dX4_ofBatch_97 : decode cX4_ofBatch 97 = .ok (.aload_n 0, 1) := by decide +kernel
theorem dX4_ofBatch_98 : decode cX4_ofBatch 98 = .ok (.aload_n 3, 1) := by decide +kernel
theorem dX4_ofBatch_99 : decode cX4_ofBatch 99 = .ok (.invokevirtual 199, 3) := by decide +kernel
theorem dX4_ofBatch_102 : decode cX4_ofBatch 102 = .ok (.ifCond .eq 7, 3) := by decide +kernel
theorem dX4_ofBatch_105 : decode cX4_ofBatch 105 = .ok (.iconst 1, 1) := by decide +kernel
theorem dX4_ofBatch_106 : decode cX4_ofBatch 106 = .ok (.goto 4, 3) := by decide +kernel
theorem dX4_ofBatch_109 : decode cX4_ofBatch 109 = .ok (.iconst 0, 1) := by decide +kernel
theorem dX4_ofBatch_110 : decode cX4_ofBatch 110 = .ok (.ireturn, 1) := by decide +kernel
set_option maxRecDepth 20000 in
theorem ggX4_crystal_X4_checkNumber : GoodIn wsX4_crystal wsX4_checkNumber := goodIn_ca (goodIn_r _ [6, 7, 8] (by decide +kernel) (by decide +kernel)) (goodIn_sub (fun _ h => List.mem_cons_of_mem _ (List.mem_append_right _ h)) (by decide +kernel))
set_option maxRecDepth 20000 in
theorem gX4_crystal_X4_checkNumber : GoodIn wsX4_crystal (va_wsS RX4 92 yX4_checkNumber wsX4_checkNumber) := goodIn_app (goodIn_of _ (by decide +kernel)) ggX4_crystal_X4_checkNumber
theorem dX4_crystal_0 : decode cX4_crystal 0 = .ok (.iload_n 1, 1) := by decide +kernel
theorem dX4_crystal_1 : decode cX4_crystal 1 = .ok (.aload_n 0, 1) := by decide +kernel
theorem dX4_crystal_2 : decode cX4_crystal 2 = .ok (.getfield 44, 3) := by decide +kernel
theorem dX4_crystal_5 : decode cX4_crystal 5 = .ok (.invokestatic 92, 3) := by decide +kernel
theorem dX4_crystal_8 : decode cX4_crystal 8 = .ok (.aload_n 0, 1) := by decide +kernel
theorem dX4_crystal_9 : decode cX4_crystal 9 = .ok (.getfield 23, 3) := by decide +kernel
theorem dX4_crystal_12 : decode cX4_crystal 12 = .ok (.iload_n 1, 1) := by decide +kernel
theorem dX4_crystal_13 : decode cX4_crystal 13 = .ok (.aaload, 1) := by decide +kernel
theorem dX4_crystal_14 : decode cX4_crystal 14 = .ok (.getfield 139, 3) := by decide +kernel
theorem dX4_crystal_17 : decode cX4_crystal 17 = .ok (.dreturn, 1) := by decide +kernel
set_option maxRecDepth 20000 in
theorem ggX4_many_X4_checkRange : GoodIn wsX4_many wsX4_checkRange := goodIn_ca (goodIn_r _ [13, 14, 15] (by decide +kernel) (by decide +kernel)) (goodIn_sub (fun _ h => List.mem_cons_of_mem _ (List.mem_append_right _ h)) (by decide +kernel))
set_option maxRecDepth 20000 in
theorem gX4_many_X4_checkRange : GoodIn wsX4_many (va_wsS RX4 69 yX4_checkRange wsX4_checkRange) := goodIn_app (goodIn_of _ (by decide +kernel)) ggX4_many_X4_checkRange
set_option maxRecDepth 20000 in
theorem ggX4_many_X4_countAt : GoodIn wsX4_many wsX4_countAt := goodIn_r _ [19, 3, 20, 21, 22, 23, 24, 25, 26, 27, 28, 29, 30, 31, 32, 33, 34, 35, 36, 37, 38, 39] (by decide +kernel) (by decide +kernel)
set_option maxRecDepth 20000 in
theorem gX4_many_X4_countAt : GoodIn wsX4_many (wsV RX4 161 RX4 yX4_countAt wsX4_countAt) := goodIn_app (goodIn_of _ (by decide +kernel)) ggX4_many_X4_countAt
theorem dX4_many_0 : decode cX4_many 0 = .ok (.iload_n 1, 1) := by decide +kernel
theorem dX4_many_1 : decode cX4_many 1 = .ok (.iconst 0, 1) := by decide +kernel
theorem dX4_many_2 : decode cX4_many 2 = .ok (.bipush 11, 2) := by decide +kernel
theorem dX4_many_4 : decode cX4_many 4 = .ok (.invokestatic 69, 3) := by decide +kernel
theorem dX4_many_7 : decode cX4_many 7 = .ok (.iload_n 1, 1) := by decide +kernel
theorem dX4_many_8 : decode cX4_many 8 = .ok (.tableswitch 123 0 10 #[60, 65, 70, 75, 82, 89, 94, 99, 104, 111, 118], 60) := by decide +kernel
theorem dX4_many_68 : decode cX4_many 68 = .ok (.aload_n 0, 1) := by decide +kernel
theorem dX4_many_69 : decode cX4_many 69 = .ok (.getfield 37, 3) := by decide +kernel
theorem dX4_many_72 : decode cX4_many 72 = .ok (.ireturn, 1) := by decide +kernel
theorem dX4_many_73 : decode cX4_many 73 = .ok (.aload_n 0, 1) := by decide +kernel
theorem dX4_many_74 : decode cX4_many 74 = .ok (.getfield 41, 3) := by decide +kernel
theorem dX4_many_77 : decode cX4_many 77 = .ok (.ireturn, 1) := by decide +kernel
theorem dX4_many_78 : decode cX4_many 78 = .ok (.aload_n 0, 1) := by decide +kernel
theorem dX4_many_79 : decode cX4_many 79 = .ok (.getfield 44, 3) := by decide +kernel
theorem dX4_many_82 : decode cX4_many 82 = .ok (.ireturn, 1) := by decide +kernel
theorem dX4_many_83 : decode cX4_many 83 = .ok (.aload_n 0, 1) := by decide +kernel
theorem dX4_many_84 : decode cX4_many 84 = .ok (.bipush 11, 2) := by decide +kernel
theorem dX4_many_86 : decode cX4_many 86 = .ok (.invokevirtual 161, 3) := by decide +kernel
theorem dX4_many_89 : decode cX4_many 89 = .ok (.ireturn, 1) := by decide +kernel
theorem dX4_many_90 : decode cX4_many 90 = .ok (.aload_n 0, 1) := by decide +kernel
theorem dX4_many_91 : decode cX4_many 91 = .ok (.bipush 10, 2) := by decide +kernel
theorem dX4_many_93 : decode cX4_many 93 = .ok (.invokevirtual 161, 3) := by decide +kernel
theorem dX4_many_96 : decode cX4_many 96 = .ok (.ireturn, 1) := by decide +kernel
theorem dX4_many_97 : decode cX4_many 97 = .ok (.aload_n 0, 1) := by decide +kernel
theorem dX4_many_98 : decode cX4_many 98 = .ok (.getfield 47, 3) := by decide +kernel
theorem dX4_many_101 : decode cX4_many 101 = .ok (.ireturn, 1) := by decide +kernel
theorem dX4_many_102 : decode cX4_many 102 = .ok (.aload_n 0, 1) := by decide +kernel
theorem dX4_many_103 : decode cX4_many 103 = .ok (.getfield 50, 3) := by decide +kernel
theorem dX4_many_106 : decode cX4_many 106 = .ok (.ireturn, 1) := by decide +kernel
theorem dX4_many_107 : decode cX4_many 107 = .ok (.aload_n 0, 1) := by decide +kernel
theorem dX4_many_108 : decode cX4_many 108 = .ok (.getfield 53, 3) := by decide +kernel
theorem dX4_many_111 : decode cX4_many 111 = .ok (.ireturn, 1) := by decide +kernel
theorem dX4_many_112 : decode cX4_many 112 = .ok (.aload_n 0, 1) := by decide +kernel
theorem dX4_many_113 : decode cX4_many 113 = .ok (.getfield 33, 3) := by decide +kernel
theorem dX4_many_116 : decode cX4_many 116 = .ok (.iconst 0, 1) := by decide +kernel
theorem dX4_many_117 : decode cX4_many 117 = .ok (.iaload, 1) := by decide +kernel
theorem dX4_many_118 : decode cX4_many 118 = .ok (.ireturn, 1) := by decide +kernel
theorem dX4_many_119 : decode cX4_many 119 = .ok (.aload_n 0, 1) := by decide +kernel
theorem dX4_many_120 : decode cX4_many 120 = .ok (.getfield 33, 3) := by decide +kernel
theorem dX4_many_123 : decode cX4_many 123 = .ok (.iconst 1, 1) := by decide +kernel
theorem dX4_many_124 : decode cX4_many 124 = .ok (.iaload, 1) := by decide +kernel
theorem dX4_many_125 : decode cX4_many 125 = .ok (.ireturn, 1) := by decide +kernel
theorem dX4_many_126 : decode cX4_many 126 = .ok (.aload_n 0, 1) := by decide +kernel
theorem dX4_many_127 : decode cX4_many 127 = .ok (.getfield 56, 3) := by decide +kernel
theorem dX4_many_130 : decode cX4_many 130 = .ok (.ireturn, 1) := by decide +kernel
theorem dX4_many_131 : decode cX4_many 131 = .ok (.aload_n 0, 1) := by decide +kernel
theorem dX4_many_132 : decode cX4_many 132 = .ok (.getfield 59, 3) := by decide +kernel
theorem dX4_many_135 : decode cX4_many 135 = .ok (.ireturn, 1) := by decide +kernel
set_option maxRecDepth 20000 in
theorem ggX4_day_X4_checkRange : GoodIn wsX4_day wsX4_checkRange := goodIn_ca (goodIn_r _ [6, 7, 8] (by decide +kernel) (by decide +kernel)) (goodIn_sub (fun _ h => List.mem_cons_of_mem _ (List.mem_append_right _ h)) (by decide +kernel))
set_option maxRecDepth 20000 in
theorem gX4_day_X4_checkRange : GoodIn wsX4_day (va_wsS RX4 69 yX4_checkRange wsX4_checkRange) := goodIn_app (goodIn_of _ (by decide +kernel)) ggX4_day_X4_checkRange
set_option maxRecDepth 20000 in
theorem ggX4_day_X4_reckonWashes : GoodIn wsX4_day wsX4_reckonWashes := goodIn_r _ [12, 1, 2, 13, 14, 15, 5, 16, 17, 18, 19, 20, 21, 22, 23, 24, 25, 26, 27, 28, 29, 30, 31, 36, 37, 38, 39, 40, 41, 42, 43, 44, 45, 46, 47, 48, 49, 50, 51, 52, 53, 54, 55, 56, 57, 58, 59, 60, 61] (by decide +kernel) (by decide +kernel)
set_option maxRecDepth 20000 in
theorem gX4_day_X4_reckonWashes : GoodIn wsX4_day (wsV RX4 235 RX4 yX4_reckonWashes wsX4_reckonWashes) := goodIn_app (goodIn_of _ (by decide +kernel)) ggX4_day_X4_reckonWashes
set_option maxRecDepth 20000 in
theorem ggX4_day_X4_bestOrder : GoodIn wsX4_day wsX4_bestOrder := goodIn_r _ [35, 13, 14, 15, 5, 16, 1, 17, 18, 19, 20, 2, 21, 22, 23, 24, 25, 26, 27, 28, 29, 30, 31, 36, 37, 38, 39, 40, 41, 42, 43, 44, 45, 46, 47, 48, 49, 50, 51, 52, 53, 54, 55, 56, 57, 58, 59, 60, 61] (by decide +kernel) (by decide +kernel)
set_option maxRecDepth 20000 in
theorem gX4_day_X4_bestOrder : GoodIn wsX4_day (wsV RX4 238 RX4 yX4_bestOrder wsX4_bestOrder) := goodIn_app (goodIn_of _ (by decide +kernel)) ggX4_day_X4_bestOrder
set_option maxRecDepth 20000 in
theorem ggX4_day_X4_cell : GoodIn wsX4_day wsX4_cell := goodIn_r _ [26] (by decide +kernel) (by decide +kernel)
set_option maxRecDepth 20000 in
theorem gX4_day_X4_cell : GoodIn wsX4_day (va_wsS RX4 241 yX4_cell wsX4_cell) := goodIn_app (goodIn_of _ (by decide +kernel)) ggX4_day_X4_cell
theorem dX4_day_0 : decode cX4_day 0 = .ok (.iload_n 1, 1) := by decide +kernel
theorem dX4_day_1 : decode cX4_day 1 = .ok (.iconst 0, 1) := by decide +kernel
theorem dX4_day_2 : decode cX4_day 2 = .ok (.iconst 1, 1) := by decide +kernel
theorem dX4_day_3 : decode cX4_day 3 = .ok (.aload_n 0, 1) := by decide +kernel
theorem dX4_day_4 : decode cX4_day 4 = .ok (.getfield 41, 3) := by decide +kernel
theorem dX4_day_7 : decode cX4_day 7 = .ok (.ishl, 1) := by decide +kernel
theorem dX4_day_8 : decode cX4_day 8 = .ok (.iconst 1, 1) := by decide +kernel
theorem dX4_day_9 : decode cX4_day 9 = .ok (.isub, 1) := by decide +kernel
theorem dX4_day_10 : decode cX4_day 10 = .ok (.invokestatic 69, 3) := by decide +kernel
theorem dX4_day_13 : decode cX4_day 13 = .ok (.aload_n 0, 1) := by decide +kernel
theorem dX4_day_14 : decode cX4_day 14 = .ok (.invokevirtual 235, 3) := by decide +kernel
theorem dX4_day_17 : decode cX4_day 17 = .ok (.iload_n 2, 1) := by decide +kernel
theorem dX4_day_18 : decode cX4_day 18 = .ok (.ifCond .eq 11, 3) := by decide +kernel
theorem dX4_day_21 : decode cX4_day 21 = .ok (.aload_n 0, 1) := by decide +kernel
theorem dX4_day_22 : decode cX4_day 22 = .ok (.iload_n 1, 1) := by decide +kernel
theorem dX4_day_23 : decode cX4_day 23 = .ok (.invokevirtual 238, 3) := by decide +kernel
theorem dX4_day_26 : decode cX4_day 26 = .ok (.goto 13, 3) := by decide +kernel
theorem dX4_day_29 : decode cX4_day 29 = .ok (.aload_n 0, 1) := by decide +kernel
theorem dX4_day_30 : decode cX4_day 30 = .ok (.getfield 62, 3) := by decide +kernel
theorem dX4_day_33 : decode cX4_day 33 = .ok (.iconst 5, 1) := by decide +kernel
theorem dX4_day_34 : decode cX4_day 34 = .ok (.iload_n 1, 1) := by decide +kernel
theorem dX4_day_35 : decode cX4_day 35 = .ok (.invokestatic 241, 3) := by decide +kernel
theorem dX4_day_38 : decode cX4_day 38 = .ok (.iaload, 1) := by decide +kernel
theorem dX4_day_39 : decode cX4_day 39 = .ok (.ireturn, 1) := by decide +kernel
set_option maxRecDepth 20000 in
theorem ggX4_reckonWashes_X4_bestNext : GoodIn wsX4_reckonWashes wsX4_bestNext := goodIn_r _ [7, 1, 8, 9, 10, 6, 11, 2, 12, 13, 14, 15, 16, 17, 18, 19, 20, 21, 22, 23, 24, 25, 26, 27, 28, 29, 30, 31, 32, 33, 34, 35, 36, 37, 38, 39, 40, 41, 42, 43, 44, 45, 46, 47, 48] (by decide +kernel) (by decide +kernel)
set_option maxRecDepth 20000 in
theorem gX4_reckonWashes_X4_bestNext : GoodIn wsX4_reckonWashes (wsV RX4 245 RX4 yX4_bestNext wsX4_bestNext) := goodIn_app (goodIn_of _ (by decide +kernel)) ggX4_reckonWashes_X4_bestNext
set_option maxRecDepth 20000 in
theorem ggX4_reckonWashes_X4_cell : GoodIn wsX4_reckonWashes wsX4_cell := goodIn_r _ [17] (by decide +kernel) (by decide +kernel)
set_option maxRecDepth 20000 in
theorem gX4_reckonWashes_X4_cell : GoodIn wsX4_reckonWashes (va_wsS RX4 241 yX4_cell wsX4_cell) := goodIn_app (goodIn_of _ (by decide +kernel)) ggX4_reckonWashes_X4_cell
set_option maxRecDepth 20000 in
theorem ggX4_reckonWashes_X4_washesBy : GoodIn wsX4_reckonWashes wsX4_washesBy := goodIn_r _ [11, 2, 12, 13, 6, 14, 15, 16, 17, 18, 19, 20, 21, 22, 23, 24, 25, 26, 27, 28, 29, 30, 31, 32, 33, 34, 35, 36, 37, 38, 39, 40, 41, 42, 43, 44, 45, 46, 47, 48] (by decide +kernel) (by decide +kernel)
set_option maxRecDepth 20000 in
theorem gX4_reckonWashes_X4_washesBy : GoodIn wsX4_reckonWashes (wsV RX4 248 RX4 yX4_washesBy wsX4_washesBy) := goodIn_app (goodIn_of _ (by decide +kernel)) ggX4_reckonWashes_X4_washesBy
theorem dX4_reckonWashes_0 : decode cX4_reckonWashes 0 = .ok (.iconst 1, 1) := by decide +kernel
theorem dX4_reckonWashes_1 : decode cX4_reckonWashes 1 = .ok (.istore_n 1, 1) := by decide +kernel
theorem dX4_reckonWashes_2 : decode cX4_reckonWashes 2 = .ok (.iload_n 1, 1) := by decide +kernel
theorem dX4_reckonWashes_3 : decode cX4_reckonWashes 3 = .ok (.iconst 1, 1) := by decide +kernel
theorem dX4_reckonWashes_4 : decode cX4_reckonWashes 4 = .ok (.aload_n 0, 1) := by decide +kernel
theorem dX4_reckonWashes_5 : decode cX4_reckonWashes 5 = .ok (.getfield 41, 3) := by decide +kernel
theorem dX4_reckonWashes_8 : decode cX4_reckonWashes 8 = .ok (.ishl, 1) := by decide +kernel
theorem dX4_reckonWashes_9 : decode cX4_reckonWashes 9 = .ok (.if_icmp .ge 55, 3) := by decide +kernel
theorem dX4_reckonWashes_12 : decode cX4_reckonWashes 12 = .ok (.iconst 0, 1) := by decide +kernel
theorem dX4_reckonWashes_13 : decode cX4_reckonWashes 13 = .ok (.istore_n 2, 1) := by decide +kernel
theorem dX4_reckonWashes_14 : decode cX4_reckonWashes 14 = .ok (.iload_n 2, 1) := by decide +kernel
theorem dX4_reckonWashes_15 : decode cX4_reckonWashes 15 = .ok (.bipush 6, 2) := by decide +kernel
theorem dX4_reckonWashes_17 : decode cX4_reckonWashes 17 = .ok (.if_icmp .ge 41, 3) := by decide +kernel
theorem dX4_reckonWashes_20 : decode cX4_reckonWashes 20 = .ok (.iload_n 1, 1) := by decide +kernel
theorem dX4_reckonWashes_21 : decode cX4_reckonWashes 21 = .ok (.iconst 1, 1) := by decide +kernel
theorem dX4_reckonWashes_22 : decode cX4_reckonWashes 22 = .ok (.iload_n 2, 1) := by decide +kernel
theorem dX4_reckonWashes_23 : decode cX4_reckonWashes 23 = .ok (.ishl, 1) := by decide +kernel
theorem dX4_reckonWashes_24 : decode cX4_reckonWashes 24 = .ok (.iand, 1) := by decide +kernel
theorem dX4_reckonWashes_25 : decode cX4_reckonWashes 25 = .ok (.ifCond .ne 27, 3) := by decide +kernel
theorem dX4_reckonWashes_28 : decode cX4_reckonWashes 28 = .ok (.aload_n 0, 1) := by decide +kernel
theorem dX4_reckonWashes_29 : decode cX4_reckonWashes 29 = .ok (.iload_n 2, 1) := by decide +kernel
theorem dX4_reckonWashes_30 : decode cX4_reckonWashes 30 = .ok (.iload_n 1, 1) := by decide +kernel
theorem dX4_reckonWashes_31 : decode cX4_reckonWashes 31 = .ok (.invokevirtual 245, 3) := by decide +kernel
theorem dX4_reckonWashes_34 : decode cX4_reckonWashes 34 = .ok (.istore_n 3, 1) := by decide +kernel
theorem dX4_reckonWashes_35 : decode cX4_reckonWashes 35 = .ok (.aload_n 0, 1) := by decide +kernel
theorem dX4_reckonWashes_36 : decode cX4_reckonWashes 36 = .ok (.getfield 62, 3) := by decide +kernel
theorem dX4_reckonWashes_39 : decode cX4_reckonWashes 39 = .ok (.iload_n 2, 1) := by decide +kernel
theorem dX4_reckonWashes_40 : decode cX4_reckonWashes 40 = .ok (.iload_n 1, 1) := by decide +kernel
theorem dX4_reckonWashes_41 : decode cX4_reckonWashes 41 = .ok (.invokestatic 241, 3) := by decide +kernel
theorem dX4_reckonWashes_44 : decode cX4_reckonWashes 44 = .ok (.aload_n 0, 1) := by decide +kernel
theorem dX4_reckonWashes_45 : decode cX4_reckonWashes 45 = .ok (.iload_n 2, 1) := by decide +kernel
theorem dX4_reckonWashes_46 : decode cX4_reckonWashes 46 = .ok (.iload_n 3, 1) := by decide +kernel
theorem dX4_reckonWashes_47 : decode cX4_reckonWashes 47 = .ok (.iload_n 1, 1) := by decide +kernel
theorem dX4_reckonWashes_48 : decode cX4_reckonWashes 48 = .ok (.invokevirtual 248, 3) := by decide +kernel
theorem dX4_reckonWashes_51 : decode cX4_reckonWashes 51 = .ok (.iastore, 1) := by decide +kernel
theorem dX4_reckonWashes_52 : decode cX4_reckonWashes 52 = .ok (.iinc 2 1, 3) := by decide +kernel
theorem dX4_reckonWashes_55 : decode cX4_reckonWashes 55 = .ok (.goto (-41), 3) := by decide +kernel
theorem dX4_reckonWashes_58 : decode cX4_reckonWashes 58 = .ok (.iinc 1 1, 3) := by decide +kernel
theorem dX4_reckonWashes_61 : decode cX4_reckonWashes 61 = .ok (.goto (-59), 3) := by decide +kernel
theorem dX4_reckonWashes_64 : decode cX4_reckonWashes 64 = .ok (.return_, 1) := by decide +kernel
set_option maxRecDepth 20000 in
theorem ggX4_bestOrder_X4_bestNext : GoodIn wsX4_bestOrder wsX4_bestNext := goodIn_r _ [5, 6, 7, 8, 9, 4, 10, 11, 12, 13, 14, 15, 16, 17, 18, 19, 20, 21, 22, 23, 24, 25, 26, 27, 28, 29, 30, 31, 32, 33, 34, 35, 36, 37, 38, 39, 40, 41, 42, 43, 44, 45, 46, 47, 48] (by decide +kernel) (by decide +kernel)
set_option maxRecDepth 20000 in
theorem gX4_bestOrder_X4_bestNext : GoodIn wsX4_bestOrder (wsV RX4 245 RX4 yX4_bestNext wsX4_bestNext) := goodIn_app (goodIn_of _ (by decide +kernel)) ggX4_bestOrder_X4_bestNext
set_option maxRecDepth 20000 in
theorem ggX4_bestOrder_X4_without : GoodIn wsX4_bestOrder wsX4_without := goodIn_r _ [14] (by decide +kernel) (by decide +kernel)
set_option maxRecDepth 20000 in
theorem gX4_bestOrder_X4_without : GoodIn wsX4_bestOrder (va_wsS RX4 252 yX4_without wsX4_without) := goodIn_app (goodIn_of _ (by decide +kernel)) ggX4_bestOrder_X4_without
theorem dX4_bestOrder_0 : decode cX4_bestOrder 0 = .ok (.iconst 0, 1) := by decide +kernel
theorem dX4_bestOrder_1 : decode cX4_bestOrder 1 = .ok (.istore_n 2, 1) := by decide +kernel
theorem dX4_bestOrder_2 : decode cX4_bestOrder 2 = .ok (.iconst 5, 1) := by decide +kernel
theorem dX4_bestOrder_3 : decode cX4_bestOrder 3 = .ok (.istore_n 3, 1) := by decide +kernel
theorem dX4_bestOrder_4 : decode cX4_bestOrder 4 = .ok (.iload_n 1, 1) := by decide +kernel
theorem dX4_bestOrder_5 : decode cX4_bestOrder 5 = .ok (.istore 4, 2) := by decide +kernel
theorem dX4_bestOrder_7 : decode cX4_bestOrder 7 = .ok (.iconst 0, 1) := by decide +kernel
theorem dX4_bestOrder_8 : decode cX4_bestOrder 8 = .ok (.istore 5, 2) := by decide +kernel
theorem dX4_bestOrder_10 : decode cX4_bestOrder 10 = .ok (.iload 5, 2) := by decide +kernel
theorem dX4_bestOrder_12 : decode cX4_bestOrder 12 = .ok (.iconst 5, 1) := by decide +kernel
theorem dX4_bestOrder_13 : decode cX4_bestOrder 13 = .ok (.if_icmp .ge 45, 3) := by decide +kernel
theorem dX4_bestOrder_16 : decode cX4_bestOrder 16 = .ok (.iload 4, 2) := by decide +kernel
theorem dX4_bestOrder_18 : decode cX4_bestOrder 18 = .ok (.ifCond .eq 40, 3) := by decide +kernel
theorem dX4_bestOrder_21 : decode cX4_bestOrder 21 = .ok (.aload_n 0, 1) := by decide +kernel
theorem dX4_bestOrder_22 : decode cX4_bestOrder 22 = .ok (.iload_n 3, 1) := by decide +kernel
theorem dX4_bestOrder_23 : decode cX4_bestOrder 23 = .ok (.iload 4, 2) := by decide +kernel
theorem dX4_bestOrder_25 : decode cX4_bestOrder 25 = .ok (.invokevirtual 245, 3) := by decide +kernel
theorem dX4_bestOrder_28 : decode cX4_bestOrder 28 = .ok (.istore 6, 2) := by decide +kernel
theorem dX4_bestOrder_30 : decode cX4_bestOrder 30 = .ok (.iload_n 2, 1) := by decide +kernel
theorem dX4_bestOrder_31 : decode cX4_bestOrder 31 = .ok (.bipush 10, 2) := by decide +kernel
theorem dX4_bestOrder_33 : decode cX4_bestOrder 33 = .ok (.imul, 1) := by decide +kernel
theorem dX4_bestOrder_34 : decode cX4_bestOrder 34 = .ok (.iload 6, 2) := by decide +kernel
theorem dX4_bestOrder_36 : decode cX4_bestOrder 36 = .ok (.iadd, 1) := by decide +kernel
theorem dX4_bestOrder_37 : decode cX4_bestOrder 37 = .ok (.iconst 1, 1) := by decide +kernel
theorem dX4_bestOrder_38 : decode cX4_bestOrder 38 = .ok (.iadd, 1) := by decide +kernel
theorem dX4_bestOrder_39 : decode cX4_bestOrder 39 = .ok (.istore_n 2, 1) := by decide +kernel
theorem dX4_bestOrder_40 : decode cX4_bestOrder 40 = .ok (.iload 6, 2) := by decide +kernel
theorem dX4_bestOrder_42 : decode cX4_bestOrder 42 = .ok (.iload 4, 2) := by decide +kernel
theorem dX4_bestOrder_44 : decode cX4_bestOrder 44 = .ok (.invokestatic 252, 3) := by decide +kernel
theorem dX4_bestOrder_47 : decode cX4_bestOrder 47 = .ok (.istore 4, 2) := by decide +kernel
theorem dX4_bestOrder_49 : decode cX4_bestOrder 49 = .ok (.iload 6, 2) := by decide +kernel
theorem dX4_bestOrder_51 : decode cX4_bestOrder 51 = .ok (.istore_n 3, 1) := by decide +kernel
theorem dX4_bestOrder_52 : decode cX4_bestOrder 52 = .ok (.iinc 5 1, 3) := by decide +kernel
theorem dX4_bestOrder_55 : decode cX4_bestOrder 55 = .ok (.goto (-45), 3) := by decide +kernel
theorem dX4_bestOrder_58 : decode cX4_bestOrder 58 = .ok (.iload_n 2, 1) := by decide +kernel
theorem dX4_bestOrder_59 : decode cX4_bestOrder 59 = .ok (.ireturn, 1) := by decide +kernel
set_option maxRecDepth 20000 in
theorem ggX4_bestNext_X4_washesBy : GoodIn wsX4_bestNext wsX4_washesBy := goodIn_r _ [6, 7, 8, 9, 5, 10, 11, 12, 13, 14, 15, 16, 17, 18, 19, 20, 21, 22, 23, 24, 25, 26, 27, 28, 29, 30, 31, 32, 33, 34, 35, 36, 37, 38, 39, 40, 41, 42, 43, 44] (by decide +kernel) (by decide +kernel)
set_option maxRecDepth 20000 in
theorem gX4_bestNext_X4_washesBy : GoodIn wsX4_bestNext (wsV RX4 248 RX4 yX4_washesBy wsX4_washesBy) := goodIn_app (goodIn_of _ (by decide +kernel)) ggX4_bestNext_X4_washesBy
theorem dX4_bestNext_0 : decode cX4_bestNext 0 = .ok (.iconst 0, 1) := by decide +kernel
theorem dX4_bestNext_1 : decode cX4_bestNext 1 = .ok (.istore_n 3, 1) := by decide +kernel
theorem dX4_bestNext_2 : decode cX4_bestNext 2 = .ok (.iconst 5, 1) := by decide +kernel
theorem dX4_bestNext_3 : decode cX4_bestNext 3 = .ok (.istore 4, 2) := by decide +kernel
theorem dX4_bestNext_5 : decode cX4_bestNext 5 = .ok (.iconst 0, 1) := by decide +kernel
theorem dX4_bestNext_6 : decode cX4_bestNext 6 = .ok (.istore 5, 2) := by decide +kernel
theorem dX4_bestNext_8 : decode cX4_bestNext 8 = .ok (.iload 5, 2) := by decide +kernel
theorem dX4_bestNext_10 : decode cX4_bestNext 10 = .ok (.aload_n 0, 1) := by decide +kernel
theorem dX4_bestNext_11 : decode cX4_bestNext 11 = .ok (.getfield 41, 3) := by decide +kernel
theorem dX4_bestNext_14 : decode cX4_bestNext 14 = .ok (.if_icmp .ge 46, 3) := by decide +kernel
theorem dX4_bestNext_17 : decode cX4_bestNext 17 = .ok (.iload_n 2, 1) := by decide +kernel
theorem dX4_bestNext_18 : decode cX4_bestNext 18 = .ok (.iconst 1, 1) := by decide +kernel
theorem dX4_bestNext_19 : decode cX4_bestNext 19 = .ok (.iload 5, 2) := by decide +kernel
theorem dX4_bestNext_21 : decode cX4_bestNext 21 = .ok (.ishl, 1) := by decide +kernel
theorem dX4_bestNext_22 : decode cX4_bestNext 22 = .ok (.iand, 1) := by decide +kernel
theorem dX4_bestNext_23 : decode cX4_bestNext 23 = .ok (.ifCond .eq 14, 3) := by decide +kernel
theorem dX4_bestNext_26 : decode cX4_bestNext 26 = .ok (.aload_n 0, 1) := by decide +kernel
theorem dX4_bestNext_27 : decode cX4_bestNext 27 = .ok (.iload_n 1, 1) := by decide +kernel
theorem dX4_bestNext_28 : decode cX4_bestNext 28 = .ok (.iload 5, 2) := by decide +kernel
theorem dX4_bestNext_30 : decode cX4_bestNext 30 = .ok (.iload_n 2, 1) := by decide +kernel
theorem dX4_bestNext_31 : decode cX4_bestNext 31 = .ok (.invokevirtual 248, 3) := by decide +kernel
theorem dX4_bestNext_34 : decode cX4_bestNext 34 = .ok (.goto 4, 3) := by decide +kernel
theorem dX4_bestNext_37 : decode cX4_bestNext 37 = .ok (.iconst 5, 1) := by decide +kernel
theorem dX4_bestNext_38 : decode cX4_bestNext 38 = .ok (.istore 6, 2) := by decide +kernel
theorem dX4_bestNext_40 : decode cX4_bestNext 40 = .ok (.iload 6, 2) := by decide +kernel
theorem dX4_bestNext_42 : decode cX4_bestNext 42 = .ok (.iload 4, 2) := by decide +kernel
theorem dX4_bestNext_44 : decode cX4_bestNext 44 = .ok (.if_icmp .ge 10, 3) := by decide +kernel
theorem dX4_bestNext_47 : decode cX4_bestNext 47 = .ok (.iload 5, 2) := by decide +kernel
theorem dX4_bestNext_49 : decode cX4_bestNext 49 = .ok (.istore_n 3, 1) := by decide +kernel
theorem dX4_bestNext_50 : decode cX4_bestNext 50 = .ok (.iload 6, 2) := by decide +kernel
theorem dX4_bestNext_52 : decode cX4_bestNext 52 = .ok (.istore 4, 2) := by decide +kernel
theorem dX4_bestNext_54 : decode cX4_bestNext 54 = .ok (.iinc 5 1, 3) := by decide +kernel
theorem dX4_bestNext_57 : decode cX4_bestNext 57 = .ok (.goto (-49), 3) := by decide +kernel
theorem dX4_bestNext_60 : decode cX4_bestNext 60 = .ok (.iload_n 3, 1) := by decide +kernel
theorem dX4_bestNext_61 : decode cX4_bestNext 61 = .ok (.ireturn, 1) := by decide +kernel
set_option maxRecDepth 20000 in
theorem ggX4_washesBy_X4_without : GoodIn wsX4_washesBy wsX4_without := goodIn_r _ [5] (by decide +kernel) (by decide +kernel)
set_option maxRecDepth 20000 in
theorem gX4_washesBy_X4_without : GoodIn wsX4_washesBy (va_wsS RX4 252 yX4_without wsX4_without) := goodIn_app (goodIn_of _ (by decide +kernel)) ggX4_washesBy_X4_without
set_option maxRecDepth 20000 in
theorem ggX4_washesBy_X4_cell : GoodIn wsX4_washesBy wsX4_cell := goodIn_r _ [8] (by decide +kernel) (by decide +kernel)
set_option maxRecDepth 20000 in
theorem gX4_washesBy_X4_cell : GoodIn wsX4_washesBy (va_wsS RX4 241 yX4_cell wsX4_cell) := goodIn_app (goodIn_of _ (by decide +kernel)) ggX4_washesBy_X4_cell
set_option maxRecDepth 20000 in
theorem ggX4_washesBy_X4_needsWash : GoodIn wsX4_washesBy wsX4_needsWash := goodIn_r _ [12, 13, 14, 15, 16, 17, 18, 19, 20, 21, 22, 23, 24, 25, 26, 27, 28, 29, 30, 31, 32, 33, 34, 35, 36, 37, 38, 39] (by decide +kernel) (by decide +kernel)
set_option maxRecDepth 20000 in
theorem gX4_washesBy_X4_needsWash : GoodIn wsX4_washesBy (wsV RX4 255 RX4 yX4_needsWash wsX4_needsWash) := goodIn_app (goodIn_of _ (by decide +kernel)) ggX4_washesBy_X4_needsWash
theorem dX4_washesBy_0 : decode cX4_washesBy 0 = .ok (.aload_n 0, 1) := by decide +kernel
theorem dX4_washesBy_1 : decode cX4_washesBy 1 = .ok (.getfield 62, 3) := by decide +kernel
theorem dX4_washesBy_4 : decode cX4_washesBy 4 = .ok (.iload_n 2, 1) := by decide +kernel
theorem dX4_washesBy_5 : decode cX4_washesBy 5 = .ok (.iload_n 2, 1) := by decide +kernel
theorem dX4_washesBy_6 : decode cX4_washesBy 6 = .ok (.iload_n 3, 1) := by decide +kernel
theorem dX4_washesBy_7 : decode cX4_washesBy 7 = .ok (.invokestatic 252, 3) := by decide +kernel
theorem dX4_washesBy_10 : decode cX4_washesBy 10 = .ok (.invokestatic 241, 3) := by decide +kernel
theorem dX4_washesBy_13 : decode cX4_washesBy 13 = .ok (.iaload, 1) := by decide +kernel
theorem dX4_washesBy_14 : decode cX4_washesBy 14 = .ok (.istore 4, 2) := by decide +kernel
theorem dX4_washesBy_16 : decode cX4_washesBy 16 = .ok (.aload_n 0, 1) := by decide +kernel
theorem dX4_washesBy_17 : decode cX4_washesBy 17 = .ok (.iload_n 1, 1) := by decide +kernel
theorem dX4_washesBy_18 : decode cX4_washesBy 18 = .ok (.iload_n 2, 1) := by decide +kernel
theorem dX4_washesBy_19 : decode cX4_washesBy 19 = .ok (.invokevirtual 255, 3) := by decide +kernel
theorem dX4_washesBy_22 : decode cX4_washesBy 22 = .ok (.ifCond .eq 10, 3) := by decide +kernel
theorem dX4_washesBy_25 : decode cX4_washesBy 25 = .ok (.iload 4, 2) := by decide +kernel
theorem dX4_washesBy_27 : decode cX4_washesBy 27 = .ok (.iconst 1, 1) := by decide +kernel
theorem dX4_washesBy_28 : decode cX4_washesBy 28 = .ok (.iadd, 1) := by decide +kernel
theorem dX4_washesBy_29 : decode cX4_washesBy 29 = .ok (.goto 5, 3) := by decide +kernel
theorem dX4_washesBy_32 : decode cX4_washesBy 32 = .ok (.iload 4, 2) := by decide +kernel
theorem dX4_washesBy_34 : decode cX4_washesBy 34 = .ok (.ireturn, 1) := by decide +kernel
theorem dX4_needsWash_0 : decode cX4_needsWash 0 = .ok (.iload_n 1, 1) := by decide +kernel
theorem dX4_needsWash_1 : decode cX4_needsWash 1 = .ok (.iconst 5, 1) := by decide +kernel
theorem dX4_needsWash_2 : decode cX4_needsWash 2 = .ok (.if_icmp .eq 31, 3) := by decide +kernel
theorem dX4_needsWash_5 : decode cX4_needsWash 5 = .ok (.aload_n 0, 1) := by decide +kernel
theorem dX4_needsWash_6 : decode cX4_needsWash 6 = .ok (.getfield 17, 3) := by decide +kernel
theorem dX4_needsWash_9 : decode cX4_needsWash 9 = .ok (.iload_n 1, 1) := by decide +kernel
theorem dX4_needsWash_10 : decode cX4_needsWash 10 = .ok (.aaload, 1) := by decide +kernel
theorem dX4_needsWash_11 : decode cX4_needsWash 11 = .ok (.getfield 130, 3) := by decide +kernel
theorem dX4_needsWash_14 : decode cX4_needsWash 14 = .ok (.aload_n 0, 1) := by decide +kernel
theorem dX4_needsWash_15 : decode cX4_needsWash 15 = .ok (.getfield 17, 3) := by decide +kernel
theorem dX4_needsWash_18 : decode cX4_needsWash 18 = .ok (.iload_n 2, 1) := by decide +kernel
theorem dX4_needsWash_19 : decode cX4_needsWash 19 = .ok (.aaload, 1) := by decide +kernel
theorem dX4_needsWash_20 : decode cX4_needsWash 20 = .ok (.getfield 130, 3) := by decide +kernel
theorem dX4_needsWash_23 : decode cX4_needsWash 23 = .ok (.iconst (-1), 1) := by decide +kernel
theorem dX4_needsWash_24 : decode cX4_needsWash 24 = .ok (.ixor, 1) := by decide +kernel
theorem dX4_needsWash_25 : decode cX4_needsWash 25 = .ok (.iand, 1) := by decide +kernel
theorem dX4_needsWash_26 : decode cX4_needsWash 26 = .ok (.ifCond .eq 7, 3) := by decide +kernel
theorem dX4_needsWash_29 : decode cX4_needsWash 29 = .ok (.iconst 1, 1) := by decide +kernel
theorem dX4_needsWash_30 : decode cX4_needsWash 30 = .ok (.goto 4, 3) := by decide +kernel
theorem dX4_needsWash_33 : decode cX4_needsWash 33 = .ok (.iconst 0, 1) := by decide +kernel
theorem dX4_needsWash_34 : decode cX4_needsWash 34 = .ok (.ireturn, 1) := by decide +kernel
theorem dX4_without_0 : decode cX4_without 0 = .ok (.iload_n 1, 1) := by decide +kernel
theorem dX4_without_1 : decode cX4_without 1 = .ok (.iconst 1, 1) := by decide +kernel
theorem dX4_without_2 : decode cX4_without 2 = .ok (.iload_n 0, 1) := by decide +kernel
theorem dX4_without_3 : decode cX4_without 3 = .ok (.ishl, 1) := by decide +kernel
theorem dX4_without_4 : decode cX4_without 4 = .ok (.iconst (-1), 1) := by decide +kernel
theorem dX4_without_5 : decode cX4_without 5 = .ok (.ixor, 1) := by decide +kernel
theorem dX4_without_6 : decode cX4_without 6 = .ok (.iand, 1) := by decide +kernel
theorem dX4_without_7 : decode cX4_without 7 = .ok (.ireturn, 1) := by decide +kernel
theorem dX4_cell_0 : decode cX4_cell 0 = .ok (.iload_n 1, 1) := by decide +kernel
theorem dX4_cell_1 : decode cX4_cell 1 = .ok (.bipush 6, 2) := by decide +kernel
theorem dX4_cell_3 : decode cX4_cell 3 = .ok (.imul, 1) := by decide +kernel
theorem dX4_cell_4 : decode cX4_cell 4 = .ok (.iload_n 0, 1) := by decide +kernel
theorem dX4_cell_5 : decode cX4_cell 5 = .ok (.iadd, 1) := by decide +kernel
theorem dX4_cell_6 : decode cX4_cell 6 = .ok (.ireturn, 1) := by decide +kernel
set_option maxRecDepth 20000 in
theorem ggX4_wouldBe_X4_checkNumber : GoodIn wsX4_wouldBe wsX4_checkNumber := goodIn_ca (goodIn_r _ [8, 9, 10] (by decide +kernel) (by decide +kernel)) (goodIn_sub (fun _ h => List.mem_cons_of_mem _ (List.mem_append_left _ (List.mem_append_right _ h))) (by decide +kernel))
set_option maxRecDepth 20000 in
theorem gX4_wouldBe_X4_checkNumber : GoodIn wsX4_wouldBe (va_wsS RX4 92 yX4_checkNumber wsX4_checkNumber) := goodIn_app (goodIn_of _ (by decide +kernel)) ggX4_wouldBe_X4_checkNumber
set_option maxRecDepth 20000 in
theorem ggX4_wouldBe_X4_checkRange : GoodIn wsX4_wouldBe wsX4_checkRange := goodIn_ca (goodIn_r _ [13, 14, 15] (by decide +kernel) (by decide +kernel)) (goodIn_sub (fun _ h => List.mem_cons_of_mem _ (List.mem_append_right _ h)) (by decide +kernel))
set_option maxRecDepth 20000 in
theorem gX4_wouldBe_X4_checkRange : GoodIn wsX4_wouldBe (va_wsS RX4 69 yX4_checkRange wsX4_checkRange) := goodIn_app (goodIn_of _ (by decide +kernel)) ggX4_wouldBe_X4_checkRange
set_option maxRecDepth 20000 in
theorem ggX4_wouldBe_X0_isStored : GoodIn wsX4_wouldBe wsX0_isStored := goodIn_r _ [19, 20, 59, 60, 61, 62, 63] (by decide +kernel) (by decide +kernel)
set_option maxRecDepth 20000 in
theorem gX4_wouldBe_X0_isStored_n192 : GoodIn wsX4_wouldBe (wsX0_isStored) := ggX4_wouldBe_X0_isStored
set_option maxRecDepth 20000 in
theorem ggX4_wouldBe_X4_crystalLater : GoodIn wsX4_wouldBe wsX4_crystalLater := goodIn_r _ [24, 25, 3, 4, 26, 27, 28, 29, 30, 31, 32, 33, 34, 35, 36, 37, 38, 39, 40, 41, 42, 43, 44, 45, 46, 47, 48, 49, 50, 51, 52, 53, 54, 55, 56, 57, 58, 59, 60, 61, 62, 63, 66, 67, 68, 69, 70, 71, 72, 73, 74, 75, 76, 77, 64, 65] (by decide +kernel) (by decide +kernel)
set_option maxRecDepth 20000 in
theorem gX4_wouldBe_X4_crystalLater : GoodIn wsX4_wouldBe (wsV RX4 258 RX4 yX4_crystalLater wsX4_crystalLater) := goodIn_app (goodIn_of _ (by decide +kernel)) ggX4_wouldBe_X4_crystalLater
theorem dX4_wouldBe_0 : decode cX4_wouldBe 0 = .ok (.iload_n 1, 1) := by decide +kernel
theorem dX4_wouldBe_1 : decode cX4_wouldBe 1 = .ok (.aload_n 0, 1) := by decide +kernel
theorem dX4_wouldBe_2 : decode cX4_wouldBe 2 = .ok (.getfield 44, 3) := by decide +kernel
theorem dX4_wouldBe_5 : decode cX4_wouldBe 5 = .ok (.invokestatic 92, 3) := by decide +kernel
theorem dX4_wouldBe_8 : decode cX4_wouldBe 8 = .ok (.iload_n 2, 1) := by decide +kernel
theorem dX4_wouldBe_9 : decode cX4_wouldBe 9 = .ok (.iconst 1, 1) := by decide +kernel
theorem dX4_wouldBe_10 : decode cX4_wouldBe 10 = .ok (.bipush 48, 2) := by decide +kernel
theorem dX4_wouldBe_12 : decode cX4_wouldBe 12 = .ok (.invokestatic 69, 3) := by decide +kernel
theorem dX4_wouldBe_15 : decode cX4_wouldBe 15 = .ok (.aload_n 0, 1) := by decide +kernel
theorem dX4_wouldBe_16 : decode cX4_wouldBe 16 = .ok (.getfield 23, 3) := by decide +kernel
theorem dX4_wouldBe_19 : decode cX4_wouldBe 19 = .ok (.iload_n 1, 1) := by decide +kernel
theorem dX4_wouldBe_20 : decode cX4_wouldBe 20 = .ok (.aaload, 1) := by decide +kernel
theorem dX4_wouldBe_21 : decode cX4_wouldBe 21 = .ok (.astore_n 3, 1) := by decide +kernel
theorem dX4_wouldBe_22 : decode cX4_wouldBe 22 = .ok (.aload_n 3, 1) := by decide +kernel
theorem dX4_wouldBe_23 : decode cX4_wouldBe 23 = .ok (.invokevirtual 192, 3) := by decide +kernel
theorem dX4_wouldBe_26 : decode cX4_wouldBe 26 = .ok (.ifCond .eq 22, 3) := by decide +kernel
theorem dX4_wouldBe_29 : decode cX4_wouldBe 29 = .ok (.aload_n 0, 1) := by decide +kernel
theorem dX4_wouldBe_30 : decode cX4_wouldBe 30 = .ok (.aload_n 3, 1) := by decide +kernel
theorem dX4_wouldBe_31 : decode cX4_wouldBe 31 = .ok (.aload_n 0, 1) := by decide +kernel
theorem dX4_wouldBe_32 : decode cX4_wouldBe 32 = .ok (.getfield 29, 3) := by decide +kernel
theorem dX4_wouldBe_35 : decode cX4_wouldBe 35 = .ok (.aload_n 3, 1) := by decide +kernel
theorem dX4_wouldBe_36 : decode cX4_wouldBe 36 = .ok (.getfield 143, 3) := by decide +kernel
theorem dX4_wouldBe_39 : decode cX4_wouldBe 39 = .ok (.aaload, 1) := by decide +kernel
theorem dX4_wouldBe_40 : decode cX4_wouldBe 40 = .ok (.getfield 156, 3) := by decide +kernel
theorem dX4_wouldBe_43 : decode cX4_wouldBe 43 = .ok (.iload_n 2, 1) := by decide +kernel
theorem dX4_wouldBe_44 : decode cX4_wouldBe 44 = .ok (.invokevirtual 258, 3) := by decide +kernel
theorem dX4_wouldBe_47 : decode cX4_wouldBe 47 = .ok (.dreturn, 1) := by decide +kernel
theorem dX4_wouldBe_48 : decode cX4_wouldBe 48 = .ok (.aload_n 3, 1) := by decide +kernel
theorem dX4_wouldBe_49 : decode cX4_wouldBe 49 = .ok (.getfield 143, 3) := by decide +kernel
theorem dX4_wouldBe_52 : decode cX4_wouldBe 52 = .ok (.iconst (-1), 1) := by decide +kernel
theorem dX4_wouldBe_53 : decode cX4_wouldBe 53 = .ok (.if_icmp .ne 17, 3) := by decide +kernel
theorem dX4_wouldBe_56 : decode cX4_wouldBe 56 = .ok (.aload_n 3, 1) := by decide +kernel
theorem dX4_wouldBe_57 : decode cX4_wouldBe 57 = .ok (.getfield 146, 3) := by decide +kernel
theorem dX4_wouldBe_60 : decode cX4_wouldBe 60 = .ok (.ifCond .eq 10, 3) := by decide +kernel
theorem dX4_wouldBe_63 : decode cX4_wouldBe 63 = .ok (.aload_n 3, 1) := by decide +kernel
theorem dX4_wouldBe_64 : decode cX4_wouldBe 64 = .ok (.getfield 139, 3) := by decide +kernel
theorem dX4_wouldBe_67 : decode cX4_wouldBe 67 = .ok (.goto 6, 3) := by decide +kernel
theorem dX4_wouldBe_70 : decode cX4_wouldBe 70 = .ok (.ldc2_w 262, 3) := by decide +kernel
theorem dX4_wouldBe_73 : decode cX4_wouldBe 73 = .ok (.dreturn, 1) := by decide +kernel
set_option maxRecDepth 20000 in
theorem ggX4_wouldSpoil_X4_checkNumber : GoodIn wsX4_wouldSpoil wsX4_checkNumber := goodIn_ca (goodIn_r _ [9, 10, 11] (by decide +kernel) (by decide +kernel)) (goodIn_sub (fun _ h => List.mem_cons_of_mem _ (List.mem_append_left _ (List.mem_append_right _ h))) (by decide +kernel))
set_option maxRecDepth 20000 in
theorem gX4_wouldSpoil_X4_checkNumber : GoodIn wsX4_wouldSpoil (va_wsS RX4 92 yX4_checkNumber wsX4_checkNumber) := goodIn_app (goodIn_of _ (by decide +kernel)) ggX4_wouldSpoil_X4_checkNumber
set_option maxRecDepth 20000 in
theorem ggX4_wouldSpoil_X4_checkRange : GoodIn wsX4_wouldSpoil wsX4_checkRange := goodIn_ca (goodIn_r _ [14, 15, 16] (by decide +kernel) (by decide +kernel)) (goodIn_sub (fun _ h => List.mem_cons_of_mem _ (List.mem_append_right _ h)) (by decide +kernel))
set_option maxRecDepth 20000 in
theorem gX4_wouldSpoil_X4_checkRange : GoodIn wsX4_wouldSpoil (va_wsS RX4 69 yX4_checkRange wsX4_checkRange) := goodIn_app (goodIn_of _ (by decide +kernel)) ggX4_wouldSpoil_X4_checkRange
set_option maxRecDepth 20000 in
theorem ggX4_wouldSpoil_X4_opened : GoodIn wsX4_wouldSpoil wsX4_opened := goodIn_r _ [19, 20, 21] (by decide +kernel) (by decide +kernel)
set_option maxRecDepth 20000 in
theorem gX4_wouldSpoil_X4_opened : GoodIn wsX4_wouldSpoil (va_wsS RX4 165 yX4_opened wsX4_opened) := goodIn_app (goodIn_of _ (by decide +kernel)) ggX4_wouldSpoil_X4_opened
set_option maxRecDepth 20000 in
theorem ggX4_wouldSpoil_X0_isCoarse : GoodIn wsX4_wouldSpoil wsX0_isCoarse := goodIn_r _ [25, 26, 27, 69, 70, 71, 72, 73] (by decide +kernel) (by decide +kernel)
set_option maxRecDepth 20000 in
theorem gX4_wouldSpoil_X0_isCoarse_n196 : GoodIn wsX4_wouldSpoil (wsX0_isCoarse) := ggX4_wouldSpoil_X0_isCoarse
set_option maxRecDepth 20000 in
theorem ggX4_wouldSpoil_X4_crystalLater : GoodIn wsX4_wouldSpoil wsX4_crystalLater := goodIn_r _ [31, 32, 2, 33, 34, 35, 36, 37, 38, 39, 40, 41, 42, 43, 44, 45, 46, 47, 48, 49, 50, 51, 52, 53, 54, 55, 56, 57, 58, 59, 60, 61, 62, 63, 64, 65, 66, 69, 70, 71, 72, 73, 74, 75, 76, 77, 78, 79, 80, 81, 82, 83, 84, 85, 67, 68] (by decide +kernel) (by decide +kernel)
set_option maxRecDepth 20000 in
theorem gX4_wouldSpoil_X4_crystalLater : GoodIn wsX4_wouldSpoil (wsV RX4 258 RX4 yX4_crystalLater wsX4_crystalLater) := goodIn_app (goodIn_of _ (by decide +kernel)) ggX4_wouldSpoil_X4_crystalLater
theorem dX4_wouldSpoil_0 : decode cX4_wouldSpoil 0 = .ok (.iload_n 1, 1) := by decide +kernel
theorem dX4_wouldSpoil_1 : decode cX4_wouldSpoil 1 = .ok (.aload_n 0, 1) := by decide +kernel
theorem dX4_wouldSpoil_2 : decode cX4_wouldSpoil 2 = .ok (.getfield 47, 3) := by decide +kernel
theorem dX4_wouldSpoil_5 : decode cX4_wouldSpoil 5 = .ok (.invokestatic 92, 3) := by decide +kernel
theorem dX4_wouldSpoil_8 : decode cX4_wouldSpoil 8 = .ok (.iload_n 2, 1) := by decide +kernel
theorem dX4_wouldSpoil_9 : decode cX4_wouldSpoil 9 = .ok (.iconst 0, 1) := by decide +kernel
theorem dX4_wouldSpoil_10 : decode cX4_wouldSpoil 10 = .ok (.bipush 20, 2) := by decide +kernel
theorem dX4_wouldSpoil_12 : decode cX4_wouldSpoil 12 = .ok (.invokestatic 69, 3) := by decide +kernel
theorem dX4_wouldSpoil_15 : decode cX4_wouldSpoil 15 = .ok (.aload_n 0, 1) := by decide +kernel
theorem dX4_wouldSpoil_16 : decode cX4_wouldSpoil 16 = .ok (.getfield 29, 3) := by decide +kernel
theorem dX4_wouldSpoil_19 : decode cX4_wouldSpoil 19 = .ok (.iload_n 1, 1) := by decide +kernel
theorem dX4_wouldSpoil_20 : decode cX4_wouldSpoil 20 = .ok (.aaload, 1) := by decide +kernel
theorem dX4_wouldSpoil_21 : decode cX4_wouldSpoil 21 = .ok (.getfield 156, 3) := by decide +kernel
theorem dX4_wouldSpoil_24 : decode cX4_wouldSpoil 24 = .ok (.iload_n 2, 1) := by decide +kernel
theorem dX4_wouldSpoil_25 : decode cX4_wouldSpoil 25 = .ok (.invokestatic 165, 3) := by decide +kernel
theorem dX4_wouldSpoil_28 : decode cX4_wouldSpoil 28 = .ok (.dstore_n 3, 1) := by decide +kernel
theorem dX4_wouldSpoil_29 : decode cX4_wouldSpoil 29 = .ok (.iconst 0, 1) := by decide +kernel
theorem dX4_wouldSpoil_30 : decode cX4_wouldSpoil 30 = .ok (.istore 5, 2) := by decide +kernel
theorem dX4_wouldSpoil_32 : decode cX4_wouldSpoil 32 = .ok (.iconst 0, 1) := by decide +kernel
theorem dX4_wouldSpoil_33 : decode cX4_wouldSpoil 33 = .ok (.istore 6, 2) := by decide +kernel
theorem dX4_wouldSpoil_35 : decode cX4_wouldSpoil 35 = .ok (.iload 6, 2) := by decide +kernel
theorem dX4_wouldSpoil_37 : decode cX4_wouldSpoil 37 = .ok (.aload_n 0, 1) := by decide +kernel
theorem dX4_wouldSpoil_38 : decode cX4_wouldSpoil 38 = .ok (.getfield 44, 3) := by decide +kernel
theorem dX4_wouldSpoil_41 : decode cX4_wouldSpoil 41 = .ok (.if_icmp .ge 71, 3) := by decide +kernel
theorem dX4_wouldSpoil_44 : decode cX4_wouldSpoil 44 = .ok (.aload_n 0, 1) := by decide +kernel
theorem dX4_wouldSpoil_45 : decode cX4_wouldSpoil 45 = .ok (.getfield 23, 3) := by decide +kernel
theorem dX4_wouldSpoil_48 : decode cX4_wouldSpoil 48 = .ok (.iload 6, 2) := by decide +kernel
theorem dX4_wouldSpoil_50 : decode cX4_wouldSpoil 50 = .ok (.aaload, 1) := by decide +kernel
theorem dX4_wouldSpoil_51 : decode cX4_wouldSpoil 51 = .ok (.getfield 143, 3) := by decide +kernel
theorem dX4_wouldSpoil_54 : decode cX4_wouldSpoil 54 = .ok (.iload_n 1, 1) := by decide +kernel
theorem dX4_wouldSpoil_55 : decode cX4_wouldSpoil 55 = .ok (.if_icmp .ne 51, 3) := by decide +kernel
theorem dX4_wouldSpoil_58 : decode cX4_wouldSpoil 58 = .ok (.aload_n 0, 1) := by decide +kernel
theorem dX4_wouldSpoil_59 : decode cX4_wouldSpoil 59 = .ok (.getfield 23, 3) := by decide +kernel
theorem dX4_wouldSpoil_62 : decode cX4_wouldSpoil 62 = .ok (.iload 6, 2) := by decide +kernel
theorem dX4_wouldSpoil_64 : decode cX4_wouldSpoil 64 = .ok (.aaload, 1) := by decide +kernel
theorem dX4_wouldSpoil_65 : decode cX4_wouldSpoil 65 = .ok (.invokevirtual 196, 3) := by decide +kernel
theorem dX4_wouldSpoil_68 : decode cX4_wouldSpoil 68 = .ok (.ifCond .ne 38, 3) := by decide +kernel
theorem dX4_wouldSpoil_71 : decode cX4_wouldSpoil 71 = .ok (.aload_n 0, 1) := by decide +kernel
theorem dX4_wouldSpoil_72 : decode cX4_wouldSpoil 72 = .ok (.aload_n 0, 1) := by decide +kernel
theorem dX4_wouldSpoil_73 : decode cX4_wouldSpoil 73 = .ok (.getfield 23, 3) := by decide +kernel
theorem dX4_wouldSpoil_76 : decode cX4_wouldSpoil 76 = .ok (.iload 6, 2) := by decide +kernel
theorem dX4_wouldSpoil_78 : decode cX4_wouldSpoil 78 = .ok (.aaload, 1) := by decide +kernel
theorem dX4_wouldSpoil_79 : decode cX4_wouldSpoil 79 = .ok (.dload_n 3, 1) := by decide +kernel
theorem dX4_wouldSpoil_80 : decode cX4_wouldSpoil 80 = .ok (.bipush 24, 2) := by decide +kernel
theorem dX4_wouldSpoil_82 : decode cX4_wouldSpoil 82 = .ok (.invokevirtual 258, 3) := by decide +kernel
theorem dX4_wouldSpoil_85 : decode cX4_wouldSpoil 85 = .ok (.dstore 7, 2) := by decide +kernel
theorem dX4_wouldSpoil_87 : decode cX4_wouldSpoil 87 = .ok (.dload 7, 2) := by decide +kernel
theorem dX4_wouldSpoil_89 : decode cX4_wouldSpoil 89 = .ok (.dconst 0, 1) := by decide +kernel
theorem dX4_wouldSpoil_90 : decode cX4_wouldSpoil 90 = .ok (.dcmp .g, 1) := by decide +kernel
theorem dX4_wouldSpoil_91 : decode cX4_wouldSpoil 91 = .ok (.ifCond .lt 12, 3) := by decide +kernel
theorem dX4_wouldSpoil_94 : decode cX4_wouldSpoil 94 = .ok (.dload 7, 2) := by decide +kernel
theorem dX4_wouldSpoil_96 : decode cX4_wouldSpoil 96 = .ok (.ldc2_w 264, 3) := by decide +kernel
theorem dX4_wouldSpoil_99 : decode cX4_wouldSpoil 99 = .ok (.dcmp .l, 1) := by decide +kernel
theorem dX4_wouldSpoil_100 : decode cX4_wouldSpoil 100 = .ok (.ifCond .le 6, 3) := by decide +kernel
theorem dX4_wouldSpoil_103 : decode cX4_wouldSpoil 103 = .ok (.iinc 5 1, 3) := by decide +kernel
theorem dX4_wouldSpoil_106 : decode cX4_wouldSpoil 106 = .ok (.iinc 6 1, 3) := by decide +kernel
theorem dX4_wouldSpoil_109 : decode cX4_wouldSpoil 109 = .ok (.goto (-74), 3) := by decide +kernel
theorem dX4_wouldSpoil_112 : decode cX4_wouldSpoil 112 = .ok (.iload 5, 2) := by decide +kernel
theorem dX4_wouldSpoil_114 : decode cX4_wouldSpoil 114 = .ok (.ireturn, 1) := by decide +kernel
set_option maxRecDepth 20000 in
theorem ggX4_crystalLater_X2_meltsAt : GoodIn wsX4_crystalLater wsX2_meltsAt := goodIn_r _ [7, 8, 42, 43, 44, 45, 46, 47, 48, 49, 50, 51, 52, 53] (by decide +kernel) (by decide +kernel)
set_option maxRecDepth 20000 in
theorem gX4_crystalLater_X2_meltsAt_n188 : GoodIn wsX4_crystalLater (wsX2_meltsAt) := ggX4_crystalLater_X2_meltsAt
set_option maxRecDepth 20000 in
theorem ggX4_crystalLater_X3_hourLater : GoodIn wsX4_crystalLater wsX3_hourLater := goodIn_r _ [12, 13, 14, 54, 55] (by decide +kernel) (by decide +kernel)
set_option maxRecDepth 20000 in
theorem gX4_crystalLater_X3_hourLater_n180 : GoodIn wsX4_crystalLater (wsX3_hourLater) := ggX4_crystalLater_X3_hourLater
set_option maxRecDepth 20000 in
theorem ggX4_crystalLater_X2_coarsening : GoodIn wsX4_crystalLater wsX2_coarsening := goodIn_r _ [17, 18, 19, 20, 21, 5, 22, 8, 42, 43, 44, 45, 46, 47, 48, 49, 50, 51, 52, 53] (by decide +kernel) (by decide +kernel)
set_option maxRecDepth 20000 in
theorem gX4_crystalLater_X2_coarsening_n184 : GoodIn wsX4_crystalLater (wsX2_coarsening) := ggX4_crystalLater_X2_coarsening
theorem dX4_crystalLater_0 : decode cX4_crystalLater 0 = .ok (.aload_n 0, 1) := by decide +kernel
theorem dX4_crystalLater_1 : decode cX4_crystalLater 1 = .ok (.getfield 17, 3) := by decide +kernel
theorem dX4_crystalLater_4 : decode cX4_crystalLater 4 = .ok (.aload_n 1, 1) := by decide +kernel
theorem dX4_crystalLater_5 : decode cX4_crystalLater 5 = .ok (.getfield 131, 3) := by decide +kernel
theorem dX4_crystalLater_8 : decode cX4_crystalLater 8 = .ok (.aaload, 1) := by decide +kernel
theorem dX4_crystalLater_9 : decode cX4_crystalLater 9 = .ok (.astore 5, 2) := by decide +kernel
theorem dX4_crystalLater_11 : decode cX4_crystalLater 11 = .ok (.aload_n 0, 1) := by decide +kernel
theorem dX4_crystalLater_12 : decode cX4_crystalLater 12 = .ok (.getfield 29, 3) := by decide +kernel
theorem dX4_crystalLater_15 : decode cX4_crystalLater 15 = .ok (.aload_n 1, 1) := by decide +kernel
theorem dX4_crystalLater_16 : decode cX4_crystalLater 16 = .ok (.getfield 143, 3) := by decide +kernel
theorem dX4_crystalLater_19 : decode cX4_crystalLater 19 = .ok (.aaload, 1) := by decide +kernel
theorem dX4_crystalLater_20 : decode cX4_crystalLater 20 = .ok (.astore 6, 2) := by decide +kernel
theorem dX4_crystalLater_22 : decode cX4_crystalLater 22 = .ok (.aload_n 1, 1) := by decide +kernel
theorem dX4_crystalLater_23 : decode cX4_crystalLater 23 = .ok (.getfield 139, 3) := by decide +kernel
theorem dX4_crystalLater_26 : decode cX4_crystalLater 26 = .ok (.dstore 7, 2) := by decide +kernel
theorem dX4_crystalLater_28 : decode cX4_crystalLater 28 = .ok (.dload_n 2, 1) := by decide +kernel
theorem dX4_crystalLater_29 : decode cX4_crystalLater 29 = .ok (.dstore 9, 2) := by decide +kernel
theorem dX4_crystalLater_31 : decode cX4_crystalLater 31 = .ok (.iconst 0, 1) := by decide +kernel
theorem dX4_crystalLater_32 : decode cX4_crystalLater 32 = .ok (.istore 11, 2) := by decide +kernel
theorem dX4_crystalLater_34 : decode cX4_crystalLater 34 = .ok (.iload 11, 2) := by decide +kernel
theorem dX4_crystalLater_36 : decode cX4_crystalLater 36 = .ok (.iload 4, 2) := by decide +kernel
theorem dX4_crystalLater_38 : decode cX4_crystalLater 38 = .ok (.if_icmp .ge 50, 3) := by decide +kernel
theorem dX4_crystalLater_41 : decode cX4_crystalLater 41 = .ok (.aload 5, 2) := by decide +kernel
theorem dX4_crystalLater_43 : decode cX4_crystalLater 43 = .ok (.dload 9, 2) := by decide +kernel
theorem dX4_crystalLater_45 : decode cX4_crystalLater 45 = .ok (.invokevirtual 188, 3) := by decide +kernel
theorem dX4_crystalLater_48 : decode cX4_crystalLater 48 = .ok (.ifCond .eq 7, 3) := by decide +kernel
theorem dX4_crystalLater_51 : decode cX4_crystalLater 51 = .ok (.ldc2_w 262, 3) := by decide +kernel
theorem dX4_crystalLater_54 : decode cX4_crystalLater 54 = .ok (.dreturn, 1) := by decide +kernel
theorem dX4_crystalLater_55 : decode cX4_crystalLater 55 = .ok (.aload 6, 2) := by decide +kernel
theorem dX4_crystalLater_57 : decode cX4_crystalLater 57 = .ok (.dload 9, 2) := by decide +kernel
theorem dX4_crystalLater_59 : decode cX4_crystalLater 59 = .ok (.invokevirtual 180, 3) := by decide +kernel
theorem dX4_crystalLater_62 : decode cX4_crystalLater 62 = .ok (.dstore 12, 2) := by decide +kernel
theorem dX4_crystalLater_64 : decode cX4_crystalLater 64 = .ok (.dload 7, 2) := by decide +kernel
theorem dX4_crystalLater_66 : decode cX4_crystalLater 66 = .ok (.aload 5, 2) := by decide +kernel
theorem dX4_crystalLater_68 : decode cX4_crystalLater 68 = .ok (.dload 9, 2) := by decide +kernel
theorem dX4_crystalLater_70 : decode cX4_crystalLater 70 = .ok (.dload 12, 2) := by decide +kernel
theorem dX4_crystalLater_72 : decode cX4_crystalLater 72 = .ok (.invokevirtual 184, 3) := by decide +kernel
theorem dX4_crystalLater_75 : decode cX4_crystalLater 75 = .ok (.dadd, 1) := by decide +kernel
theorem dX4_crystalLater_76 : decode cX4_crystalLater 76 = .ok (.dstore 7, 2) := by decide +kernel
theorem dX4_crystalLater_78 : decode cX4_crystalLater 78 = .ok (.dload 12, 2) := by decide +kernel
theorem dX4_crystalLater_80 : decode cX4_crystalLater 80 = .ok (.dstore 9, 2) := by decide +kernel
theorem dX4_crystalLater_82 : decode cX4_crystalLater 82 = .ok (.iinc 11 1, 3) := by decide +kernel
theorem dX4_crystalLater_85 : decode cX4_crystalLater 85 = .ok (.goto (-51), 3) := by decide +kernel
theorem dX4_crystalLater_88 : decode cX4_crystalLater 88 = .ok (.dload 7, 2) := by decide +kernel
theorem dX4_crystalLater_90 : decode cX4_crystalLater 90 = .ok (.dreturn, 1) := by decide +kernel
set_option maxRecDepth 20000 in
theorem ggX4_digest_X4_many : GoodIn wsX4_digest wsX4_many := goodIn_ca (goodIn_r _ [13, 14, 3, 4, 7, 15, 16, 17, 18, 19, 20, 21, 12, 22, 23, 24, 25, 26, 27, 28, 5, 137, 138, 139, 140, 141, 142, 143, 144, 145, 146, 147, 148, 149, 150, 151, 152, 153, 154, 155] (by decide +kernel) (by decide +kernel)) (goodIn_sub (fun _ h => List.mem_cons_of_mem _ (List.mem_append_left _ (List.mem_append_right _ h))) (by decide +kernel))
set_option maxRecDepth 20000 in
theorem gX4_digest_X4_many : GoodIn wsX4_digest (wsV RX4 270 RX4 yX4_many wsX4_many) := goodIn_app (goodIn_of _ (by decide +kernel)) ggX4_digest_X4_many
set_option maxRecDepth 20000 in
theorem ggX4_digest_X4_ofMix : GoodIn wsX4_digest wsX4_ofMix := goodIn_ca (goodIn_ca (goodIn_r _ [32, 3, 33, 34, 35, 12, 36, 37, 38, 20, 21, 22, 23, 24, 39, 40, 41, 42, 43, 44, 45, 46, 47, 48, 49, 50, 51, 137, 138, 139, 140, 141, 142, 143, 144, 145, 146, 147, 148, 149, 150, 158, 159, 160, 161, 162, 163, 164, 165, 166, 167, 168, 169] (by decide +kernel) (by decide +kernel)) (goodIn_sub (fun _ h => List.mem_cons_of_mem _ (List.mem_append_right _ h)) (by decide +kernel))) (goodIn_sub (fun _ h => List.mem_cons_of_mem _ (List.mem_append_left _ (List.mem_append_right _ h))) (by decide +kernel))
set_option maxRecDepth 20000 in
theorem gX4_digest_X4_ofMix : GoodIn wsX4_digest (wsV RX4 273 RX4 yX4_ofMix wsX4_ofMix) := goodIn_app (goodIn_of _ (by decide +kernel)) ggX4_digest_X4_ofMix
set_option maxRecDepth 20000 in
theorem ggX4_digest_X4_bars : GoodIn wsX4_digest wsX4_bars := goodIn_ca (goodIn_ca (goodIn_r _ [55, 3, 33, 17, 4, 34, 35, 12, 36, 37, 38, 20, 21, 22, 23, 24, 39, 40, 41, 42, 43, 44, 45, 46, 47, 48, 49, 50, 51, 137, 138, 139, 140, 141, 142, 143, 144, 145, 146, 147, 148, 149, 150, 158, 159, 160, 161, 162, 163, 164, 165, 166, 167, 168, 169] (by decide +kernel) (by decide +kernel)) (goodIn_sub (fun _ h => List.mem_cons_of_mem _ (List.mem_append_right _ h)) (by decide +kernel))) (goodIn_sub (fun _ h => List.mem_cons_of_mem _ (List.mem_append_left _ (List.mem_append_right _ h))) (by decide +kernel))
set_option maxRecDepth 20000 in
theorem gX4_digest_X4_bars : GoodIn wsX4_digest (wsV RX4 123 RX4 yX4_bars wsX4_bars) := goodIn_app (goodIn_of _ (by decide +kernel)) ggX4_digest_X4_bars
set_option maxRecDepth 20000 in
theorem ggX4_digest_X4_ofBatch : GoodIn wsX4_digest wsX4_ofBatch := goodIn_ca (goodIn_ca (goodIn_r _ [59, 4, 5, 34, 35, 12, 36, 37, 38, 20, 21, 22, 23, 24, 60, 61, 62, 63, 64, 65, 66, 67, 68, 69, 19, 70, 71, 72, 73, 33, 137, 138, 139, 140, 141, 142, 143, 144, 145, 146, 147, 148, 149, 150, 151, 152, 153, 154, 155, 158, 159, 160, 161, 162, 163, 164, 165, 166, 167, 168, 169] (by decide +kernel) (by decide +kernel)) (goodIn_sub (fun _ h => List.mem_cons_of_mem _ (List.mem_append_right _ h)) (by decide +kernel))) (goodIn_sub (fun _ h => List.mem_cons_of_mem _ (List.mem_append_left _ (List.mem_append_right _ h))) (by decide +kernel))
set_option maxRecDepth 20000 in
theorem gX4_digest_X4_ofBatch : GoodIn wsX4_digest (wsV RX4 276 RX4 yX4_ofBatch wsX4_ofBatch) := goodIn_app (goodIn_of _ (by decide +kernel)) ggX4_digest_X4_ofBatch
set_option maxRecDepth 20000 in
theorem ggX4_digest_X4_wouldSpoil : GoodIn wsX4_digest wsX4_wouldSpoil := goodIn_ca (goodIn_ca (goodIn_r _ [77, 7, 8, 4, 5, 78, 34, 35, 12, 36, 37, 38, 20, 21, 22, 23, 24, 79, 80, 81, 82, 6, 60, 61, 62, 63, 64, 65, 83, 84, 85, 86, 33, 87, 88, 40, 89, 90, 91, 92, 93, 94, 95, 96, 97, 98, 99, 100, 101, 102, 103, 104, 105, 137, 138, 139, 140, 141, 142, 143, 144, 145, 146, 147, 148, 149, 150, 156, 157, 151, 152, 153, 154, 155, 158, 159, 160, 161, 162, 163, 164, 165, 166, 167, 168, 169] (by decide +kernel) (by decide +kernel)) (goodIn_sub (fun _ h => List.mem_cons_of_mem _ (List.mem_append_right _ h)) (by decide +kernel))) (goodIn_sub (fun _ h => List.mem_cons_of_mem _ (List.mem_append_left _ (List.mem_append_right _ h))) (by decide +kernel))
set_option maxRecDepth 20000 in
theorem gX4_digest_X4_wouldSpoil : GoodIn wsX4_digest (wsV RX4 279 RX4 yX4_wouldSpoil wsX4_wouldSpoil) := goodIn_app (goodIn_of _ (by decide +kernel)) ggX4_digest_X4_wouldSpoil
set_option maxRecDepth 20000 in
theorem ggX4_digest_X4_day : GoodIn wsX4_digest wsX4_day := goodIn_ca (goodIn_r _ [109, 3, 110, 20, 21, 12, 22, 23, 24, 111, 112, 113, 114, 115, 116, 117, 118, 119, 120, 121, 122, 123, 124, 125, 126, 127, 128, 129, 130, 131, 132, 33, 133, 134, 135, 136, 137, 138, 139, 140, 141, 142, 143, 144, 145, 146, 147, 148, 149, 150, 158, 159, 160, 161, 162, 163, 164, 165, 166, 167, 168, 169] (by decide +kernel) (by decide +kernel)) (goodIn_sub (fun _ h => List.mem_cons_of_mem _ (List.mem_append_left _ (List.mem_append_right _ h))) (by decide +kernel))
set_option maxRecDepth 20000 in
theorem gX4_digest_X4_day : GoodIn wsX4_digest (wsV RX4 282 RX4 yX4_day wsX4_day) := goodIn_app (goodIn_of _ (by decide +kernel)) ggX4_digest_X4_day
theorem dX4_digest_0 : decode cX4_digest 0 = .ok (.ldc2_w 266, 3) := by decide +kernel
theorem dX4_digest_3 : decode cX4_digest 3 = .ok (.lstore_n 1, 1) := by decide +kernel
theorem dX4_digest_4 : decode cX4_digest 4 = .ok (.iconst 0, 1) := by decide +kernel
theorem dX4_digest_5 : decode cX4_digest 5 = .ok (.istore_n 3, 1) := by decide +kernel
theorem dX4_digest_6 : decode cX4_digest 6 = .ok (.iload_n 3, 1) := by decide +kernel
theorem dX4_digest_7 : decode cX4_digest 7 = .ok (.bipush 11, 2) := by decide +kernel
theorem dX4_digest_9 : decode cX4_digest 9 = .ok (.if_icmp .gt 22, 3) := by decide +kernel
theorem dX4_digest_12 : decode cX4_digest 12 = .ok (.lload_n 1, 1) := by decide +kernel
theorem dX4_digest_13 : decode cX4_digest 13 = .ok (.ldc2_w 268, 3) := by decide +kernel
theorem dX4_digest_16 : decode cX4_digest 16 = .ok (.lmul, 1) := by decide +kernel
theorem dX4_digest_17 : decode cX4_digest 17 = .ok (.aload_n 0, 1) := by decide +kernel
theorem dX4_digest_18 : decode cX4_digest 18 = .ok (.iload_n 3, 1) := by decide +kernel
theorem dX4_digest_19 : decode cX4_digest 19 = .ok (.invokevirtual 270, 3) := by decide +kernel
theorem dX4_digest_22 : decode cX4_digest 22 = .ok (.i2l, 1) := by decide +kernel
theorem dX4_digest_23 : decode cX4_digest 23 = .ok (.ladd, 1) := by decide +kernel
theorem dX4_digest_24 : decode cX4_digest 24 = .ok (.lstore_n 1, 1) := by decide +kernel
theorem dX4_digest_25 : decode cX4_digest 25 = .ok (.iinc 3 1, 3) := by decide +kernel
theorem dX4_digest_28 : decode cX4_digest 28 = .ok (.goto (-22), 3) := by decide +kernel
theorem dX4_digest_31 : decode cX4_digest 31 = .ok (.iconst 0, 1) := by decide +kernel
theorem dX4_digest_32 : decode cX4_digest 32 = .ok (.istore_n 3, 1) := by decide +kernel
theorem dX4_digest_33 : decode cX4_digest 33 = .ok (.iload_n 3, 1) := by decide +kernel
theorem dX4_digest_34 : decode cX4_digest 34 = .ok (.aload_n 0, 1) := by decide +kernel
theorem dX4_digest_35 : decode cX4_digest 35 = .ok (.getfield 41, 3) := by decide +kernel
theorem dX4_digest_38 : decode cX4_digest 38 = .ok (.if_icmp .ge 58, 3) := by decide +kernel
theorem dX4_digest_41 : decode cX4_digest 41 = .ok (.iconst 0, 1) := by decide +kernel
theorem dX4_digest_42 : decode cX4_digest 42 = .ok (.istore 4, 2) := by decide +kernel
theorem dX4_digest_44 : decode cX4_digest 44 = .ok (.iload 4, 2) := by decide +kernel
theorem dX4_digest_46 : decode cX4_digest 46 = .ok (.bipush 8, 2) := by decide +kernel
theorem dX4_digest_48 : decode cX4_digest 48 = .ok (.if_icmp .gt 24, 3) := by decide +kernel
theorem dX4_digest_51 : decode cX4_digest 51 = .ok (.lload_n 1, 1) := by decide +kernel
theorem dX4_digest_52 : decode cX4_digest 52 = .ok (.ldc2_w 268, 3) := by decide +kernel
theorem dX4_digest_55 : decode cX4_digest 55 = .ok (.lmul, 1) := by decide +kernel
theorem dX4_digest_56 : decode cX4_digest 56 = .ok (.aload_n 0, 1) := by decide +kernel
theorem dX4_digest_57 : decode cX4_digest 57 = .ok (.iload_n 3, 1) := by decide +kernel
theorem dX4_digest_58 : decode cX4_digest 58 = .ok (.iload 4, 2) := by decide +kernel
theorem dX4_digest_60 : decode cX4_digest 60 = .ok (.invokevirtual 273, 3) := by decide +kernel
theorem dX4_digest_63 : decode cX4_digest 63 = .ok (.i2l, 1) := by decide +kernel
theorem dX4_digest_64 : decode cX4_digest 64 = .ok (.ladd, 1) := by decide +kernel
theorem dX4_digest_65 : decode cX4_digest 65 = .ok (.lstore_n 1, 1) := by decide +kernel
theorem dX4_digest_66 : decode cX4_digest 66 = .ok (.iinc 4 1, 3) := by decide +kernel
theorem dX4_digest_69 : decode cX4_digest 69 = .ok (.goto (-25), 3) := by decide +kernel
theorem dX4_digest_72 : decode cX4_digest 72 = .ok (.lload_n 1, 1) := by decide +kernel
theorem dX4_digest_73 : decode cX4_digest 73 = .ok (.ldc2_w 268, 3) := by decide +kernel
theorem dX4_digest_76 : decode cX4_digest 76 = .ok (.lmul, 1) := by decide +kernel
theorem dX4_digest_77 : decode cX4_digest 77 = .ok (.aload_n 0, 1) := by decide +kernel
theorem dX4_digest_78 : decode cX4_digest 78 = .ok (.iconst 0, 1) := by decide +kernel
theorem dX4_digest_79 : decode cX4_digest 79 = .ok (.iload_n 3, 1) := by decide +kernel
theorem dX4_digest_80 : decode cX4_digest 80 = .ok (.bipush 20, 2) := by decide +kernel
theorem dX4_digest_82 : decode cX4_digest 82 = .ok (.bipush 80, 2) := by decide +kernel
theorem dX4_digest_84 : decode cX4_digest 84 = .ok (.invokevirtual 123, 3) := by decide +kernel
theorem dX4_digest_87 : decode cX4_digest 87 = .ok (.i2l, 1) := by decide +kernel
theorem dX4_digest_88 : decode cX4_digest 88 = .ok (.ladd, 1) := by decide +kernel
theorem dX4_digest_89 : decode cX4_digest 89 = .ok (.lstore_n 1, 1) := by decide +kernel
theorem dX4_digest_90 : decode cX4_digest 90 = .ok (.iinc 3 1, 3) := by decide +kernel
theorem dX4_digest_93 : decode cX4_digest 93 = .ok (.goto (-60), 3) := by decide +kernel
theorem dX4_digest_96 : decode cX4_digest 96 = .ok (.iconst 0, 1) := by decide +kernel
theorem dX4_digest_97 : decode cX4_digest 97 = .ok (.istore_n 3, 1) := by decide +kernel
theorem dX4_digest_98 : decode cX4_digest 98 = .ok (.iload_n 3, 1) := by decide +kernel
theorem dX4_digest_99 : decode cX4_digest 99 = .ok (.aload_n 0, 1) := by decide +kernel
theorem dX4_digest_100 : decode cX4_digest 100 = .ok (.getfield 44, 3) := by decide +kernel
theorem dX4_digest_103 : decode cX4_digest 103 = .ok (.if_icmp .ge 60, 3) := by decide +kernel
theorem dX4_digest_106 : decode cX4_digest 106 = .ok (.iconst 0, 1) := by decide +kernel
theorem dX4_digest_107 : decode cX4_digest 107 = .ok (.istore 4, 2) := by decide +kernel
theorem dX4_digest_109 : decode cX4_digest 109 = .ok (.iload 4, 2) := by decide +kernel
theorem dX4_digest_111 : decode cX4_digest 111 = .ok (.iconst 5, 1) := by decide +kernel
theorem dX4_digest_112 : decode cX4_digest 112 = .ok (.if_icmp .gt 24, 3) := by decide +kernel
theorem dX4_digest_115 : decode cX4_digest 115 = .ok (.lload_n 1, 1) := by decide +kernel
theorem dX4_digest_116 : decode cX4_digest 116 = .ok (.ldc2_w 268, 3) := by decide +kernel
theorem dX4_digest_119 : decode cX4_digest 119 = .ok (.lmul, 1) := by decide +kernel
theorem dX4_digest_120 : decode cX4_digest 120 = .ok (.aload_n 0, 1) := by decide +kernel
theorem dX4_digest_121 : decode cX4_digest 121 = .ok (.iload_n 3, 1) := by decide +kernel
theorem dX4_digest_122 : decode cX4_digest 122 = .ok (.iload 4, 2) := by decide +kernel
theorem dX4_digest_124 : decode cX4_digest 124 = .ok (.invokevirtual 276, 3) := by decide +kernel
theorem dX4_digest_127 : decode cX4_digest 127 = .ok (.i2l, 1) := by decide +kernel
theorem dX4_digest_128 : decode cX4_digest 128 = .ok (.ladd, 1) := by decide +kernel
theorem dX4_digest_129 : decode cX4_digest 129 = .ok (.lstore_n 1, 1) := by decide +kernel
theorem dX4_digest_130 : decode cX4_digest 130 = .ok (.iinc 4 1, 3) := by decide +kernel
theorem dX4_digest_133 : decode cX4_digest 133 = .ok (.goto (-24), 3) := by decide +kernel
theorem dX4_digest_136 : decode cX4_digest 136 = .ok (.lload_n 1, 1) := by decide +kernel
theorem dX4_digest_137 : decode cX4_digest 137 = .ok (.ldc2_w 268, 3) := by decide +kernel
theorem dX4_digest_140 : decode cX4_digest 140 = .ok (.lmul, 1) := by decide +kernel
theorem dX4_digest_141 : decode cX4_digest 141 = .ok (.aload_n 0, 1) := by decide +kernel
theorem dX4_digest_142 : decode cX4_digest 142 = .ok (.getfield 23, 3) := by decide +kernel
theorem dX4_digest_145 : decode cX4_digest 145 = .ok (.iload_n 3, 1) := by decide +kernel
theorem dX4_digest_146 : decode cX4_digest 146 = .ok (.aaload, 1) := by decide +kernel
theorem dX4_digest_147 : decode cX4_digest 147 = .ok (.getfield 139, 3) := by decide +kernel
theorem dX4_digest_150 : decode cX4_digest 150 = .ok (.ldc2_w 171, 3) := by decide +kernel
theorem dX4_digest_153 : decode cX4_digest 153 = .ok (.dmul, 1) := by decide +kernel
theorem dX4_digest_154 : decode cX4_digest 154 = .ok (.d2l, 1) := by decide +kernel
theorem dX4_digest_155 : decode cX4_digest 155 = .ok (.ladd, 1) := by decide +kernel
theorem dX4_digest_156 : decode cX4_digest 156 = .ok (.lstore_n 1, 1) := by decide +kernel
theorem dX4_digest_157 : decode cX4_digest 157 = .ok (.iinc 3 1, 3) := by decide +kernel
theorem dX4_digest_160 : decode cX4_digest 160 = .ok (.goto (-62), 3) := by decide +kernel
theorem dX4_digest_163 : decode cX4_digest 163 = .ok (.iconst 0, 1) := by decide +kernel
theorem dX4_digest_164 : decode cX4_digest 164 = .ok (.istore_n 3, 1) := by decide +kernel
theorem dX4_digest_165 : decode cX4_digest 165 = .ok (.iload_n 3, 1) := by decide +kernel
theorem dX4_digest_166 : decode cX4_digest 166 = .ok (.aload_n 0, 1) := by decide +kernel
theorem dX4_digest_167 : decode cX4_digest 167 = .ok (.getfield 47, 3) := by decide +kernel
theorem dX4_digest_170 : decode cX4_digest 170 = .ok (.if_icmp .ge 44, 3) := by decide +kernel
theorem dX4_digest_173 : decode cX4_digest 173 = .ok (.lload_n 1, 1) := by decide +kernel
theorem dX4_digest_174 : decode cX4_digest 174 = .ok (.ldc2_w 268, 3) := by decide +kernel
theorem dX4_digest_177 : decode cX4_digest 177 = .ok (.lmul, 1) := by decide +kernel
theorem dX4_digest_178 : decode cX4_digest 178 = .ok (.aload_n 0, 1) := by decide +kernel
theorem dX4_digest_179 : decode cX4_digest 179 = .ok (.getfield 29, 3) := by decide +kernel
theorem dX4_digest_182 : decode cX4_digest 182 = .ok (.iload_n 3, 1) := by decide +kernel
theorem dX4_digest_183 : decode cX4_digest 183 = .ok (.aaload, 1) := by decide +kernel
theorem dX4_digest_184 : decode cX4_digest 184 = .ok (.getfield 156, 3) := by decide +kernel
theorem dX4_digest_187 : decode cX4_digest 187 = .ok (.ldc2_w 171, 3) := by decide +kernel
theorem dX4_digest_190 : decode cX4_digest 190 = .ok (.dmul, 1) := by decide +kernel
theorem dX4_digest_191 : decode cX4_digest 191 = .ok (.d2l, 1) := by decide +kernel
theorem dX4_digest_192 : decode cX4_digest 192 = .ok (.ladd, 1) := by decide +kernel
theorem dX4_digest_193 : decode cX4_digest 193 = .ok (.lstore_n 1, 1) := by decide +kernel
theorem dX4_digest_194 : decode cX4_digest 194 = .ok (.lload_n 1, 1) := by decide +kernel
theorem dX4_digest_195 : decode cX4_digest 195 = .ok (.ldc2_w 268, 3) := by decide +kernel
theorem dX4_digest_198 : decode cX4_digest 198 = .ok (.lmul, 1) := by decide +kernel
theorem dX4_digest_199 : decode cX4_digest 199 = .ok (.aload_n 0, 1) := by decide +kernel
theorem dX4_digest_200 : decode cX4_digest 200 = .ok (.iload_n 3, 1) := by decide +kernel
theorem dX4_digest_201 : decode cX4_digest 201 = .ok (.iconst 0, 1) := by decide +kernel
theorem dX4_digest_202 : decode cX4_digest 202 = .ok (.invokevirtual 279, 3) := by decide +kernel
theorem dX4_digest_205 : decode cX4_digest 205 = .ok (.i2l, 1) := by decide +kernel
theorem dX4_digest_206 : decode cX4_digest 206 = .ok (.ladd, 1) := by decide +kernel
theorem dX4_digest_207 : decode cX4_digest 207 = .ok (.lstore_n 1, 1) := by decide +kernel
theorem dX4_digest_208 : decode cX4_digest 208 = .ok (.iinc 3 1, 3) := by decide +kernel
theorem dX4_digest_211 : decode cX4_digest 211 = .ok (.goto (-46), 3) := by decide +kernel
theorem dX4_digest_214 : decode cX4_digest 214 = .ok (.iconst 1, 1) := by decide +kernel
theorem dX4_digest_215 : decode cX4_digest 215 = .ok (.aload_n 0, 1) := by decide +kernel
theorem dX4_digest_216 : decode cX4_digest 216 = .ok (.getfield 41, 3) := by decide +kernel
theorem dX4_digest_219 : decode cX4_digest 219 = .ok (.ishl, 1) := by decide +kernel
theorem dX4_digest_220 : decode cX4_digest 220 = .ok (.iconst 1, 1) := by decide +kernel
theorem dX4_digest_221 : decode cX4_digest 221 = .ok (.isub, 1) := by decide +kernel
theorem dX4_digest_222 : decode cX4_digest 222 = .ok (.istore_n 3, 1) := by decide +kernel
theorem dX4_digest_223 : decode cX4_digest 223 = .ok (.lload_n 1, 1) := by decide +kernel
theorem dX4_digest_224 : decode cX4_digest 224 = .ok (.ldc2_w 268, 3) := by decide +kernel
theorem dX4_digest_227 : decode cX4_digest 227 = .ok (.lmul, 1) := by decide +kernel
theorem dX4_digest_228 : decode cX4_digest 228 = .ok (.aload_n 0, 1) := by decide +kernel
theorem dX4_digest_229 : decode cX4_digest 229 = .ok (.iload_n 3, 1) := by decide +kernel
theorem dX4_digest_230 : decode cX4_digest 230 = .ok (.iconst 1, 1) := by decide +kernel
theorem dX4_digest_231 : decode cX4_digest 231 = .ok (.invokevirtual 282, 3) := by decide +kernel
theorem dX4_digest_234 : decode cX4_digest 234 = .ok (.i2l, 1) := by decide +kernel
theorem dX4_digest_235 : decode cX4_digest 235 = .ok (.ladd, 1) := by decide +kernel
theorem dX4_digest_236 : decode cX4_digest 236 = .ok (.lstore_n 1, 1) := by decide +kernel
theorem dX4_digest_237 : decode cX4_digest 237 = .ok (.lload_n 1, 1) := by decide +kernel
theorem dX4_digest_238 : decode cX4_digest 238 = .ok (.ldc2_w 268, 3) := by decide +kernel
theorem dX4_digest_241 : decode cX4_digest 241 = .ok (.lmul, 1) := by decide +kernel
theorem dX4_digest_242 : decode cX4_digest 242 = .ok (.aload_n 0, 1) := by decide +kernel
theorem dX4_digest_243 : decode cX4_digest 243 = .ok (.iload_n 3, 1) := by decide +kernel
theorem dX4_digest_244 : decode cX4_digest 244 = .ok (.iconst 0, 1) := by decide +kernel
theorem dX4_digest_245 : decode cX4_digest 245 = .ok (.invokevirtual 282, 3) := by decide +kernel
theorem dX4_digest_248 : decode cX4_digest 248 = .ok (.i2l, 1) := by decide +kernel
theorem dX4_digest_249 : decode cX4_digest 249 = .ok (.ladd, 1) := by decide +kernel
theorem dX4_digest_250 : decode cX4_digest 250 = .ok (.lreturn, 1) := by decide +kernel
theorem dX4_countAt_0 : decode cX4_countAt 0 = .ok (.iconst 0, 1) := by decide +kernel
theorem dX4_countAt_1 : decode cX4_countAt 1 = .ok (.istore_n 2, 1) := by decide +kernel
theorem dX4_countAt_2 : decode cX4_countAt 2 = .ok (.iconst 0, 1) := by decide +kernel
theorem dX4_countAt_3 : decode cX4_countAt 3 = .ok (.istore_n 3, 1) := by decide +kernel
theorem dX4_countAt_4 : decode cX4_countAt 4 = .ok (.iload_n 3, 1) := by decide +kernel
theorem dX4_countAt_5 : decode cX4_countAt 5 = .ok (.aload_n 0, 1) := by decide +kernel
theorem dX4_countAt_6 : decode cX4_countAt 6 = .ok (.getfield 44, 3) := by decide +kernel
theorem dX4_countAt_9 : decode cX4_countAt 9 = .ok (.if_icmp .ge 25, 3) := by decide +kernel
theorem dX4_countAt_12 : decode cX4_countAt 12 = .ok (.aload_n 0, 1) := by decide +kernel
theorem dX4_countAt_13 : decode cX4_countAt 13 = .ok (.getfield 23, 3) := by decide +kernel
theorem dX4_countAt_16 : decode cX4_countAt 16 = .ok (.iload_n 3, 1) := by decide +kernel
theorem dX4_countAt_17 : decode cX4_countAt 17 = .ok (.aaload, 1) := by decide +kernel
theorem dX4_countAt_18 : decode cX4_countAt 18 = .ok (.getfield 143, 3) := by decide +kernel
theorem dX4_countAt_21 : decode cX4_countAt 21 = .ok (.iload_n 1, 1) := by decide +kernel
theorem dX4_countAt_22 : decode cX4_countAt 22 = .ok (.if_icmp .ne 6, 3) := by decide +kernel
theorem dX4_countAt_25 : decode cX4_countAt 25 = .ok (.iinc 2 1, 3) := by decide +kernel
theorem dX4_countAt_28 : decode cX4_countAt 28 = .ok (.iinc 3 1, 3) := by decide +kernel
theorem dX4_countAt_31 : decode cX4_countAt 31 = .ok (.goto (-27), 3) := by decide +kernel
theorem dX4_countAt_34 : decode cX4_countAt 34 = .ok (.iload_n 2, 1) := by decide +kernel
theorem dX4_countAt_35 : decode cX4_countAt 35 = .ok (.ireturn, 1) := by decide +kernel
theorem dX4_checkNumber_0 : decode cX4_checkNumber 0 = .ok (.iload_n 0, 1) := by decide +kernel
theorem dX4_checkNumber_1 : decode cX4_checkNumber 1 = .ok (.ifCond .lt 8, 3) := by decide +kernel
theorem dX4_checkNumber_4 : decode cX4_checkNumber 4 = .ok (.iload_n 0, 1) := by decide +kernel
theorem dX4_checkNumber_5 : decode cX4_checkNumber 5 = .ok (.iload_n 1, 1) := by decide +kernel
theorem dX4_checkNumber_6 : decode cX4_checkNumber 6 = .ok (.if_icmp .lt 14, 3) := by decide +kernel
theorem dX4_checkNumber_9 : decode cX4_checkNumber 9 = .ok (.new 286, 3) := by decide +kernel
theorem dX4_checkNumber_12 : decode cX4_checkNumber 12 = .ok (.dup, 1) := by decide +kernel
theorem dX4_checkNumber_13 : decode cX4_checkNumber 13 = .ok (.ldc_w 288, 3) := by decide +kernel
theorem dX4_checkNumber_16 : decode cX4_checkNumber 16 = .ok (.invokespecial 290, 3) := by decide +kernel
theorem dX4_checkNumber_19 : decode cX4_checkNumber 19 = .ok (.athrow, 1) := by decide +kernel
theorem dX4_checkNumber_20 : decode cX4_checkNumber 20 = .ok (.return_, 1) := by decide +kernel
theorem dX4_checkRange_0 : decode cX4_checkRange 0 = .ok (.iload_n 0, 1) := by decide +kernel
theorem dX4_checkRange_1 : decode cX4_checkRange 1 = .ok (.iload_n 1, 1) := by decide +kernel
theorem dX4_checkRange_2 : decode cX4_checkRange 2 = .ok (.if_icmp .lt 8, 3) := by decide +kernel
theorem dX4_checkRange_5 : decode cX4_checkRange 5 = .ok (.iload_n 0, 1) := by decide +kernel
theorem dX4_checkRange_6 : decode cX4_checkRange 6 = .ok (.iload_n 2, 1) := by decide +kernel
theorem dX4_checkRange_7 : decode cX4_checkRange 7 = .ok (.if_icmp .le 14, 3) := by decide +kernel
theorem dX4_checkRange_10 : decode cX4_checkRange 10 = .ok (.new 291, 3) := by decide +kernel
theorem dX4_checkRange_13 : decode cX4_checkRange 13 = .ok (.dup, 1) := by decide +kernel
theorem dX4_checkRange_14 : decode cX4_checkRange 14 = .ok (.ldc_w 293, 3) := by decide +kernel
theorem dX4_checkRange_17 : decode cX4_checkRange 17 = .ok (.invokespecial 295, 3) := by decide +kernel
theorem dX4_checkRange_20 : decode cX4_checkRange 20 = .ok (.athrow, 1) := by decide +kernel
theorem dX4_checkRange_21 : decode cX4_checkRange 21 = .ok (.return_, 1) := by decide +kernel
theorem dX4_checkRoom_0 : decode cX4_checkRoom 0 = .ok (.iload_n 0, 1) := by decide +kernel
theorem dX4_checkRoom_1 : decode cX4_checkRoom 1 = .ok (.iload_n 1, 1) := by decide +kernel
theorem dX4_checkRoom_2 : decode cX4_checkRoom 2 = .ok (.if_icmp .lt 14, 3) := by decide +kernel
theorem dX4_checkRoom_5 : decode cX4_checkRoom 5 = .ok (.new 105, 3) := by decide +kernel
theorem dX4_checkRoom_8 : decode cX4_checkRoom 8 = .ok (.dup, 1) := by decide +kernel
theorem dX4_checkRoom_9 : decode cX4_checkRoom 9 = .ok (.ldc_w 296, 3) := by decide +kernel
theorem dX4_checkRoom_12 : decode cX4_checkRoom 12 = .ok (.invokespecial 109, 3) := by decide +kernel
theorem dX4_checkRoom_15 : decode cX4_checkRoom 15 = .ok (.athrow, 1) := by decide +kernel
theorem dX4_checkRoom_16 : decode cX4_checkRoom 16 = .ok (.return_, 1) := by decide +kernel
