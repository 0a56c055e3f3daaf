set_option maxRecDepth 20000 in
theorem ggX5_init_X4_init : GoodIn wsX5_init wsX4_init := goodIn_r _ [23, 24, 2, 3, 25, 26, 27, 28, 29, 30, 31, 32, 14, 33, 34, 35, 36, 37, 38, 39, 40, 41, 42, 43, 44, 45, 46, 47, 48, 49, 50, 51, 52, 53, 54, 55, 56, 57, 58, 59, 60, 61, 62, 63, 64, 65, 66, 67, 68, 69, 70, 71, 72, 73, 74, 75, 76, 77, 78, 79, 80, 81, 82, 83, 84, 85, 86, 87, 88, 89, 90, 91, 92, 93, 94, 95, 96, 97, 98, 99, 100, 112, 113, 114, 115, 116, 117, 118, 119, 120, 121, 122, 123, 124, 125, 126, 127, 128, 129, 130, 131, 132, 133, 134, 135] (by decide +kernel) (by decide +kernel)
set_option maxRecDepth 20000 in
theorem gX5_init_X4_init : GoodIn wsX5_init (wsX4_init) := ggX5_init_X4_init
theorem dX5_init_0 : decode cX5_init 0 = .ok (.aload_n 0, 1) := by decide +kernel
theorem dX5_init_1 : decode cX5_init 1 = .ok (.invokespecial 1, 3) := by decide +kernel
theorem dX5_init_4 : decode cX5_init 4 = .ok (.aload_n 0, 1) := by decide +kernel
theorem dX5_init_5 : decode cX5_init 5 = .ok (.new 7, 3) := by decide +kernel
theorem dX5_init_8 : decode cX5_init 8 = .ok (.dup, 1) := by decide +kernel
theorem dX5_init_9 : decode cX5_init 9 = .ok (.invokespecial 9, 3) := by decide +kernel
theorem dX5_init_12 : decode cX5_init 12 = .ok (.putfield 10, 3) := by decide +kernel
theorem dX5_init_15 : decode cX5_init 15 = .ok (.aload_n 0, 1) := by decide +kernel
theorem dX5_init_16 : decode cX5_init 16 = .ok (.iconst 0, 1) := by decide +kernel
theorem dX5_init_17 : decode cX5_init 17 = .ok (.anewarray 16, 3) := by decide +kernel
theorem dX5_init_20 : decode cX5_init 20 = .ok (.putfield 18, 3) := by decide +kernel
theorem dX5_init_23 : decode cX5_init 23 = .ok (.aload_n 0, 1) := by decide +kernel
theorem dX5_init_24 : decode cX5_init 24 = .ok (.iconst 0, 1) := by decide +kernel
theorem dX5_init_25 : decode cX5_init 25 = .ok (.anewarray 16, 3) := by decide +kernel
theorem dX5_init_28 : decode cX5_init 28 = .ok (.putfield 22, 3) := by decide +kernel
theorem dX5_init_31 : decode cX5_init 31 = .ok (.aload_n 0, 1) := by decide +kernel
theorem dX5_init_32 : decode cX5_init 32 = .ok (.iconst 0, 1) := by decide +kernel
theorem dX5_init_33 : decode cX5_init 33 = .ok (.anewarray 16, 3) := by decide +kernel
theorem dX5_init_36 : decode cX5_init 36 = .ok (.putfield 25, 3) := by decide +kernel
theorem dX5_init_39 : decode cX5_init 39 = .ok (.aload_n 0, 1) := by decide +kernel
theorem dX5_init_40 : decode cX5_init 40 = .ok (.bipush 12, 2) := by decide +kernel
theorem dX5_init_42 : decode cX5_init 42 = .ok (.newarray .double, 2) := by decide +kernel
theorem dX5_init_44 : decode cX5_init 44 = .ok (.putfield 28, 3) := by decide +kernel
theorem dX5_init_47 : decode cX5_init 47 = .ok (.aload_n 0, 1) := by decide +kernel
theorem dX5_init_48 : decode cX5_init 48 = .ok (.iconst 0, 1) := by decide +kernel
theorem dX5_init_49 : decode cX5_init 49 = .ok (.newarray .int, 2) := by decide +kernel
theorem dX5_init_51 : decode cX5_init 51 = .ok (.putfield 32, 3) := by decide +kernel
theorem dX5_init_54 : decode cX5_init 54 = .ok (.aload_n 0, 1) := by decide +kernel
theorem dX5_init_55 : decode cX5_init 55 = .ok (.iconst 3, 1) := by decide +kernel
theorem dX5_init_56 : decode cX5_init 56 = .ok (.newarray .double, 2) := by decide +kernel
theorem dX5_init_58 : decode cX5_init 58 = .ok (.putfield 35, 3) := by decide +kernel
theorem dX5_init_61 : decode cX5_init 61 = .ok (.aload_n 0, 1) := by decide +kernel
theorem dX5_init_62 : decode cX5_init 62 = .ok (.iconst 2, 1) := by decide +kernel
theorem dX5_init_63 : decode cX5_init 63 = .ok (.newarray .int, 2) := by decide +kernel
theorem dX5_init_65 : decode cX5_init 65 = .ok (.putfield 38, 3) := by decide +kernel
theorem dX5_init_68 : decode cX5_init 68 = .ok (.aload_n 0, 1) := by decide +kernel
theorem dX5_init_69 : decode cX5_init 69 = .ok (.iconst 4, 1) := by decide +kernel
theorem dX5_init_70 : decode cX5_init 70 = .ok (.newarray .int, 2) := by decide +kernel
theorem dX5_init_72 : decode cX5_init 72 = .ok (.putfield 41, 3) := by decide +kernel
theorem dX5_init_75 : decode cX5_init 75 = .ok (.aload_n 0, 1) := by decide +kernel
theorem dX5_init_76 : decode cX5_init 76 = .ok (.aload_n 1, 1) := by decide +kernel
theorem dX5_init_77 : decode cX5_init 77 = .ok (.putfield 44, 3) := by decide +kernel
theorem dX5_init_80 : decode cX5_init 80 = .ok (.aload_n 0, 1) := by decide +kernel
theorem dX5_init_81 : decode cX5_init 81 = .ok (.iload_n 2, 1) := by decide +kernel
theorem dX5_init_82 : decode cX5_init 82 = .ok (.putfield 47, 3) := by decide +kernel
theorem dX5_init_85 : decode cX5_init 85 = .ok (.return_, 1) := by decide +kernel
set_option maxRecDepth 20000 in
theorem ggX5_draw_L_cell : GoodIn wsX5_draw wsL_cell := goodIn_r _ [5, 6] (by decide +kernel) (by decide +kernel)
set_option maxRecDepth 20000 in
theorem gX5_draw_L_cell_n51 : GoodIn wsX5_draw (wsL_cell) := ggX5_draw_L_cell
set_option maxRecDepth 20000 in
theorem ggX5_draw_L_below : GoodIn wsX5_draw wsL_below := goodIn_r _ [8, 9] (by decide +kernel) (by decide +kernel)
set_option maxRecDepth 20000 in
theorem gX5_draw_L_below_n57 : GoodIn wsX5_draw (wsL_below) := ggX5_draw_L_below
theorem dX5_draw_0 : decode cX5_draw 0 = .ok (.aload_n 0, 1) := by decide +kernel
theorem dX5_draw_1 : decode cX5_draw 1 = .ok (.getfield 44, 3) := by decide +kernel
theorem dX5_draw_4 : decode cX5_draw 4 = .ok (.aload_n 0, 1) := by decide +kernel
theorem dX5_draw_5 : decode cX5_draw 5 = .ok (.getfield 47, 3) := by decide +kernel
theorem dX5_draw_8 : decode cX5_draw 8 = .ok (.bipush 24, 2) := by decide +kernel
theorem dX5_draw_10 : decode cX5_draw 10 = .ok (.irem, 1) := by decide +kernel
theorem dX5_draw_11 : decode cX5_draw 11 = .ok (.invokestatic 51, 3) := by decide +kernel
theorem dX5_draw_14 : decode cX5_draw 14 = .ok (.aload_n 0, 1) := by decide +kernel
theorem dX5_draw_15 : decode cX5_draw 15 = .ok (.getfield 47, 3) := by decide +kernel
theorem dX5_draw_18 : decode cX5_draw 18 = .ok (.bipush 24, 2) := by decide +kernel
theorem dX5_draw_20 : decode cX5_draw 20 = .ok (.idiv, 1) := by decide +kernel
theorem dX5_draw_21 : decode cX5_draw 21 = .ok (.bipush 8, 2) := by decide +kernel
theorem dX5_draw_23 : decode cX5_draw 23 = .ok (.irem, 1) := by decide +kernel
theorem dX5_draw_24 : decode cX5_draw 24 = .ok (.ishr, 1) := by decide +kernel
theorem dX5_draw_25 : decode cX5_draw 25 = .ok (.sipush 389, 3) := by decide +kernel
theorem dX5_draw_28 : decode cX5_draw 28 = .ok (.aload_n 0, 1) := by decide +kernel
theorem dX5_draw_29 : decode cX5_draw 29 = .ok (.getfield 47, 3) := by decide +kernel
theorem dX5_draw_32 : decode cX5_draw 32 = .ok (.imul, 1) := by decide +kernel
theorem dX5_draw_33 : decode cX5_draw 33 = .ok (.iadd, 1) := by decide +kernel
theorem dX5_draw_34 : decode cX5_draw 34 = .ok (.iload_n 1, 1) := by decide +kernel
theorem dX5_draw_35 : decode cX5_draw 35 = .ok (.invokestatic 57, 3) := by decide +kernel
theorem dX5_draw_38 : decode cX5_draw 38 = .ok (.istore_n 2, 1) := by decide +kernel
theorem dX5_draw_39 : decode cX5_draw 39 = .ok (.aload_n 0, 1) := by decide +kernel
theorem dX5_draw_40 : decode cX5_draw 40 = .ok (.dup, 1) := by decide +kernel
theorem dX5_draw_41 : decode cX5_draw 41 = .ok (.getfield 47, 3) := by decide +kernel
theorem dX5_draw_44 : decode cX5_draw 44 = .ok (.iconst 1, 1) := by decide +kernel
theorem dX5_draw_45 : decode cX5_draw 45 = .ok (.iadd, 1) := by decide +kernel
theorem dX5_draw_46 : decode cX5_draw 46 = .ok (.putfield 47, 3) := by decide +kernel
theorem dX5_draw_49 : decode cX5_draw 49 = .ok (.iload_n 2, 1) := by decide +kernel
theorem dX5_draw_50 : decode cX5_draw 50 = .ok (.ireturn, 1) := by decide +kernel
theorem dX5_plus_0 : decode cX5_plus 0 = .ok (.aload_n 0, 1) := by decide +kernel
theorem dX5_plus_1 : decode cX5_plus 1 = .ok (.arraylength, 1) := by decide +kernel
theorem dX5_plus_2 : decode cX5_plus 2 = .ok (.iconst 1, 1) := by decide +kernel
theorem dX5_plus_3 : decode cX5_plus 3 = .ok (.iadd, 1) := by decide +kernel
theorem dX5_plus_4 : decode cX5_plus 4 = .ok (.anewarray 16, 3) := by decide +kernel
theorem dX5_plus_7 : decode cX5_plus 7 = .ok (.astore_n 2, 1) := by decide +kernel
theorem dX5_plus_8 : decode cX5_plus 8 = .ok (.aload_n 0, 1) := by decide +kernel
theorem dX5_plus_9 : decode cX5_plus 9 = .ok (.iconst 0, 1) := by decide +kernel
theorem dX5_plus_10 : decode cX5_plus 10 = .ok (.aload_n 2, 1) := by decide +kernel
theorem dX5_plus_11 : decode cX5_plus 11 = .ok (.iconst 0, 1) := by decide +kernel
theorem dX5_plus_12 : decode cX5_plus 12 = .ok (.aload_n 0, 1) := by decide +kernel
theorem dX5_plus_13 : decode cX5_plus 13 = .ok (.arraylength, 1) := by decide +kernel
theorem dX5_plus_14 : decode cX5_plus 14 = .ok (.invokestatic 61, 3) := by decide +kernel
theorem dX5_plus_17 : decode cX5_plus 17 = .ok (.aload_n 2, 1) := by decide +kernel
theorem dX5_plus_18 : decode cX5_plus 18 = .ok (.aload_n 0, 1) := by decide +kernel
theorem dX5_plus_19 : decode cX5_plus 19 = .ok (.arraylength, 1) := by decide +kernel
theorem dX5_plus_20 : decode cX5_plus 20 = .ok (.aload_n 1, 1) := by decide +kernel
theorem dX5_plus_21 : decode cX5_plus 21 = .ok (.aastore, 1) := by decide +kernel
theorem dX5_plus_22 : decode cX5_plus 22 = .ok (.aload_n 2, 1) := by decide +kernel
theorem dX5_plus_23 : decode cX5_plus 23 = .ok (.areturn, 1) := by decide +kernel
set_option maxRecDepth 20000 in
theorem ggX5_ingredient_X5_draw : GoodIn wsX5_ingredient wsX5_draw := goodIn_r _ [8, 9, 10, 11, 12, 13, 14, 15, 16, 17, 43, 44, 45, 46, 47, 48, 49, 50, 51, 52, 53] (by decide +kernel) (by decide +kernel)
set_option maxRecDepth 20000 in
theorem gX5_ingredient_X5_draw : GoodIn wsX5_ingredient (wsV RX5 67 RX5 yX5_draw wsX5_draw) := goodIn_app (goodIn_of _ (by decide +kernel)) ggX5_ingredient_X5_draw
set_option maxRecDepth 20000 in
theorem ggX5_ingredient_X5_plus : GoodIn wsX5_ingredient wsX5_plus := goodIn_r _ [20, 21, 22, 23, 24, 25] (by decide +kernel) (by decide +kernel)
set_option maxRecDepth 20000 in
theorem gX5_ingredient_X5_plus : GoodIn wsX5_ingredient (va_wsS RX5 71 yX5_plus wsX5_plus) := goodIn_app (goodIn_of _ (by decide +kernel)) ggX5_ingredient_X5_plus
set_option maxRecDepth 20000 in
theorem ggX5_ingredient_X4_ingredient : GoodIn wsX5_ingredient wsX4_ingredient := goodIn_ca (goodIn_ca (goodIn_r _ [30, 31, 32, 33, 34, 29, 35, 36, 37, 38, 39, 40, 41, 42, 54, 55, 56, 57, 58, 59, 60, 61, 62, 63, 64, 65, 66, 67, 68, 69, 70, 71, 72] (by decide +kernel) (by decide +kernel)) (goodIn_sub (fun _ h => List.mem_cons_of_mem _ (List.mem_append_left _ (List.mem_append_right _ h))) (by decide +kernel))) (goodIn_sub (fun _ h => List.mem_cons_of_mem _ (List.mem_append_right _ h)) (by decide +kernel))
set_option maxRecDepth 20000 in
theorem gX5_ingredient_X4_ingredient : GoodIn wsX5_ingredient (wsV RX5 75 RX4 yX4_ingredient wsX4_ingredient) := goodIn_app (goodIn_of _ (by decide +kernel)) ggX5_ingredient_X4_ingredient
theorem dX5_ingredient_0 : decode cX5_ingredient 0 = .ok (.aload_n 0, 1) := by decide +kernel
theorem dX5_ingredient_1 : decode cX5_ingredient 1 = .ok (.iconst 3, 1) := by decide +kernel
theorem dX5_ingredient_2 : decode cX5_ingredient 2 = .ok (.invokevirtual 67, 3) := by decide +kernel
theorem dX5_ingredient_5 : decode cX5_ingredient 5 = .ok (.ifCond .ne 7, 3) := by decide +kernel
theorem dX5_ingredient_8 : decode cX5_ingredient 8 = .ok (.iconst 0, 1) := by decide +kernel
theorem dX5_ingredient_9 : decode cX5_ingredient 9 = .ok (.goto 10, 3) := by decide +kernel
theorem dX5_ingredient_12 : decode cX5_ingredient 12 = .ok (.aload_n 0, 1) := by decide +kernel
theorem dX5_ingredient_13 : decode cX5_ingredient 13 = .ok (.sipush 300, 3) := by decide +kernel
theorem dX5_ingredient_16 : decode cX5_ingredient 16 = .ok (.invokevirtual 67, 3) := by decide +kernel
theorem dX5_ingredient_19 : decode cX5_ingredient 19 = .ok (.istore_n 1, 1) := by decide +kernel
theorem dX5_ingredient_20 : decode cX5_ingredient 20 = .ok (.aload_n 0, 1) := by decide +kernel
theorem dX5_ingredient_21 : decode cX5_ingredient 21 = .ok (.sipush 200, 3) := by decide +kernel
theorem dX5_ingredient_24 : decode cX5_ingredient 24 = .ok (.invokevirtual 67, 3) := by decide +kernel
theorem dX5_ingredient_27 : decode cX5_ingredient 27 = .ok (.istore_n 2, 1) := by decide +kernel
theorem dX5_ingredient_28 : decode cX5_ingredient 28 = .ok (.aload_n 0, 1) := by decide +kernel
theorem dX5_ingredient_29 : decode cX5_ingredient 29 = .ok (.iconst 2, 1) := by decide +kernel
theorem dX5_ingredient_30 : decode cX5_ingredient 30 = .ok (.invokevirtual 67, 3) := by decide +kernel
theorem dX5_ingredient_33 : decode cX5_ingredient 33 = .ok (.aload_n 0, 1) := by decide +kernel
theorem dX5_ingredient_34 : decode cX5_ingredient 34 = .ok (.sipush 400, 3) := by decide +kernel
theorem dX5_ingredient_37 : decode cX5_ingredient 37 = .ok (.invokevirtual 67, 3) := by decide +kernel
theorem dX5_ingredient_40 : decode cX5_ingredient 40 = .ok (.imul, 1) := by decide +kernel
theorem dX5_ingredient_41 : decode cX5_ingredient 41 = .ok (.istore_n 3, 1) := by decide +kernel
theorem dX5_ingredient_42 : decode cX5_ingredient 42 = .ok (.iconst 1, 1) := by decide +kernel
theorem dX5_ingredient_43 : decode cX5_ingredient 43 = .ok (.aload_n 0, 1) := by decide +kernel
theorem dX5_ingredient_44 : decode cX5_ingredient 44 = .ok (.bipush 30, 2) := by decide +kernel
theorem dX5_ingredient_46 : decode cX5_ingredient 46 = .ok (.invokevirtual 67, 3) := by decide +kernel
theorem dX5_ingredient_49 : decode cX5_ingredient 49 = .ok (.iadd, 1) := by decide +kernel
theorem dX5_ingredient_50 : decode cX5_ingredient 50 = .ok (.istore 4, 2) := by decide +kernel
theorem dX5_ingredient_52 : decode cX5_ingredient 52 = .ok (.aload_n 0, 1) := by decide +kernel
theorem dX5_ingredient_53 : decode cX5_ingredient 53 = .ok (.bipush 16, 2) := by decide +kernel
theorem dX5_ingredient_55 : decode cX5_ingredient 55 = .ok (.invokevirtual 67, 3) := by decide +kernel
theorem dX5_ingredient_58 : decode cX5_ingredient 58 = .ok (.istore 5, 2) := by decide +kernel
theorem dX5_ingredient_60 : decode cX5_ingredient 60 = .ok (.aload_n 0, 1) := by decide +kernel
theorem dX5_ingredient_61 : decode cX5_ingredient 61 = .ok (.aload_n 0, 1) := by decide +kernel
theorem dX5_ingredient_62 : decode cX5_ingredient 62 = .ok (.getfield 18, 3) := by decide +kernel
theorem dX5_ingredient_65 : decode cX5_ingredient 65 = .ok (.iconst 5, 1) := by decide +kernel
theorem dX5_ingredient_66 : decode cX5_ingredient 66 = .ok (.newarray .int, 2) := by decide +kernel
theorem dX5_ingredient_68 : decode cX5_ingredient 68 = .ok (.dup, 1) := by decide +kernel
theorem dX5_ingredient_69 : decode cX5_ingredient 69 = .ok (.iconst 0, 1) := by decide +kernel
theorem dX5_ingredient_70 : decode cX5_ingredient 70 = .ok (.iload_n 1, 1) := by decide +kernel
theorem dX5_ingredient_71 : decode cX5_ingredient 71 = .ok (.iastore, 1) := by decide +kernel
theorem dX5_ingredient_72 : decode cX5_ingredient 72 = .ok (.dup, 1) := by decide +kernel
theorem dX5_ingredient_73 : decode cX5_ingredient 73 = .ok (.iconst 1, 1) := by decide +kernel
theorem dX5_ingredient_74 : decode cX5_ingredient 74 = .ok (.iload_n 2, 1) := by decide +kernel
theorem dX5_ingredient_75 : decode cX5_ingredient 75 = .ok (.iastore, 1) := by decide +kernel
theorem dX5_ingredient_76 : decode cX5_ingredient 76 = .ok (.dup, 1) := by decide +kernel
theorem dX5_ingredient_77 : decode cX5_ingredient 77 = .ok (.iconst 2, 1) := by decide +kernel
theorem dX5_ingredient_78 : decode cX5_ingredient 78 = .ok (.iload_n 3, 1) := by decide +kernel
theorem dX5_ingredient_79 : decode cX5_ingredient 79 = .ok (.iastore, 1) := by decide +kernel
theorem dX5_ingredient_80 : decode cX5_ingredient 80 = .ok (.dup, 1) := by decide +kernel
theorem dX5_ingredient_81 : decode cX5_ingredient 81 = .ok (.iconst 3, 1) := by decide +kernel
theorem dX5_ingredient_82 : decode cX5_ingredient 82 = .ok (.iload 4, 2) := by decide +kernel
theorem dX5_ingredient_84 : decode cX5_ingredient 84 = .ok (.iastore, 1) := by decide +kernel
theorem dX5_ingredient_85 : decode cX5_ingredient 85 = .ok (.dup, 1) := by decide +kernel
theorem dX5_ingredient_86 : decode cX5_ingredient 86 = .ok (.iconst 4, 1) := by decide +kernel
theorem dX5_ingredient_87 : decode cX5_ingredient 87 = .ok (.iload 5, 2) := by decide +kernel
theorem dX5_ingredient_89 : decode cX5_ingredient 89 = .ok (.iastore, 1) := by decide +kernel
theorem dX5_ingredient_90 : decode cX5_ingredient 90 = .ok (.invokestatic 71, 3) := by decide +kernel
theorem dX5_ingredient_93 : decode cX5_ingredient 93 = .ok (.putfield 18, 3) := by decide +kernel
theorem dX5_ingredient_96 : decode cX5_ingredient 96 = .ok (.aload_n 0, 1) := by decide +kernel
theorem dX5_ingredient_97 : decode cX5_ingredient 97 = .ok (.getfield 10, 3) := by decide +kernel
theorem dX5_ingredient_100 : decode cX5_ingredient 100 = .ok (.iload_n 1, 1) := by decide +kernel
theorem dX5_ingredient_101 : decode cX5_ingredient 101 = .ok (.iload_n 2, 1) := by decide +kernel
theorem dX5_ingredient_102 : decode cX5_ingredient 102 = .ok (.iload_n 3, 1) := by decide +kernel
theorem dX5_ingredient_103 : decode cX5_ingredient 103 = .ok (.iload 4, 2) := by decide +kernel
theorem dX5_ingredient_105 : decode cX5_ingredient 105 = .ok (.iload 5, 2) := by decide +kernel
theorem dX5_ingredient_107 : decode cX5_ingredient 107 = .ok (.invokevirtual 75, 3) := by decide +kernel
theorem dX5_ingredient_110 : decode cX5_ingredient 110 = .ok (.aload_n 0, 1) := by decide +kernel
theorem dX5_ingredient_111 : decode cX5_ingredient 111 = .ok (.getfield 18, 3) := by decide +kernel
theorem dX5_ingredient_114 : decode cX5_ingredient 114 = .ok (.arraylength, 1) := by decide +kernel
theorem dX5_ingredient_115 : decode cX5_ingredient 115 = .ok (.iconst 1, 1) := by decide +kernel
theorem dX5_ingredient_116 : decode cX5_ingredient 116 = .ok (.isub, 1) := by decide +kernel
theorem dX5_ingredient_117 : decode cX5_ingredient 117 = .ok (.if_icmp .ne 7, 3) := by decide +kernel
theorem dX5_ingredient_120 : decode cX5_ingredient 120 = .ok (.iconst 1, 1) := by decide +kernel
theorem dX5_ingredient_121 : decode cX5_ingredient 121 = .ok (.goto 4, 3) := by decide +kernel
theorem dX5_ingredient_124 : decode cX5_ingredient 124 = .ok (.iconst 0, 1) := by decide +kernel
theorem dX5_ingredient_125 : decode cX5_ingredient 125 = .ok (.ireturn, 1) := by decide +kernel
set_option maxRecDepth 20000 in
theorem ggX5_mix_X5_draw : GoodIn wsX5_mix wsX5_draw := goodIn_r _ [9, 10, 11, 12, 13, 14, 15, 16, 17, 18, 88, 89, 90, 91, 92, 93, 94, 95, 96, 97, 98] (by decide +kernel) (by decide +kernel)
set_option maxRecDepth 20000 in
theorem gX5_mix_X5_draw : GoodIn wsX5_mix (wsV RX5 67 RX5 yX5_draw wsX5_draw) := goodIn_app (goodIn_of _ (by decide +kernel)) ggX5_mix_X5_draw
set_option maxRecDepth 20000 in
theorem ggX5_mix_X5_plus : GoodIn wsX5_mix wsX5_plus := goodIn_r _ [21, 22, 23, 24, 25, 26] (by decide +kernel) (by decide +kernel)
set_option maxRecDepth 20000 in
theorem gX5_mix_X5_plus : GoodIn wsX5_mix (va_wsS RX5 71 yX5_plus wsX5_plus) := goodIn_app (goodIn_of _ (by decide +kernel)) ggX5_mix_X5_plus
set_option maxRecDepth 20000 in
theorem ggX5_mix_X4_mix : GoodIn wsX5_mix wsX4_mix := goodIn_ca (goodIn_ca (goodIn_ca (goodIn_r _ [31, 32, 33, 34, 35, 36, 37, 30, 38, 39, 40, 41, 42, 43, 44, 45, 46, 47, 48, 49, 50, 51, 52, 53, 54, 55, 56, 57, 58, 59, 60, 61, 62, 63, 64, 65, 66, 67, 68, 69, 70, 71, 99, 100, 101, 102, 103, 104, 105, 106, 107, 108, 109, 110, 111, 112, 113, 114, 115, 116, 117, 118, 119, 120, 121, 122, 123, 124, 125, 126, 127, 128, 129] (by decide +kernel) (by decide +kernel)) (goodIn_sub (fun _ h => List.mem_cons_of_mem _ (List.mem_append_left _ (List.mem_append_left _ (List.mem_append_right _ h)))) (by decide +kernel))) (goodIn_sub (fun _ h => List.mem_cons_of_mem _ (List.mem_append_left _ (List.mem_append_right _ h))) (by decide +kernel))) (goodIn_sub (fun _ h => List.mem_cons_of_mem _ (List.mem_append_right _ h)) (by decide +kernel))
set_option maxRecDepth 20000 in
theorem gX5_mix_X4_mix : GoodIn wsX5_mix (wsV RX5 79 RX4 yX4_mix wsX4_mix) := goodIn_app (goodIn_of _ (by decide +kernel)) ggX5_mix_X4_mix
set_option maxRecDepth 20000 in
theorem ggX5_mix_X5_put : GoodIn wsX5_mix wsX5_put := goodIn_ca (goodIn_ca (goodIn_ca (goodIn_r _ [75, 2, 3, 4, 5, 6, 7, 8, 9, 10, 11, 12, 13, 14, 15, 16, 17, 18, 76, 77, 78, 79, 80, 81, 82, 83, 84, 85, 86, 30, 87, 49, 50, 33, 32, 34, 35, 36, 37, 38, 39, 40, 41, 42, 43, 44, 45, 51, 52, 53, 54, 55, 56, 57, 58, 59, 60, 61, 62, 63, 64, 65, 66, 67, 68, 69, 70, 71, 88, 89, 90, 91, 92, 93, 94, 95, 96, 97, 98, 99, 100, 101, 102, 103, 104, 105, 106, 107, 108, 109, 110, 111, 112, 113, 114, 115, 116, 117, 118, 119, 120, 121, 122, 123, 124, 125, 126, 127, 128, 129] (by decide +kernel) (by decide +kernel)) (goodIn_sub (fun _ h => List.mem_cons_of_mem _ (List.mem_append_right _ h)) (by decide +kernel))) (goodIn_sub (fun _ h => List.mem_cons_of_mem _ (List.mem_append_left _ (List.mem_append_left _ (List.mem_append_right _ h)))) (by decide +kernel))) (goodIn_sub (fun _ h => List.mem_cons_of_mem _ (List.mem_append_left _ (List.mem_append_right _ h))) (by decide +kernel))
set_option maxRecDepth 20000 in
theorem gX5_mix_X5_put : GoodIn wsX5_mix (wsV RX5 82 RX5 yX5_put wsX5_put) := goodIn_app (goodIn_of _ (by decide +kernel)) ggX5_mix_X5_put
theorem dX5_mix_0 : decode cX5_mix 0 = .ok (.bipush 10, 2) := by decide +kernel
theorem dX5_mix_2 : decode cX5_mix 2 = .ok (.newarray .int, 2) := by decide +kernel
theorem dX5_mix_4 : decode cX5_mix 4 = .ok (.astore_n 1, 1) := by decide +kernel
theorem dX5_mix_5 : decode cX5_mix 5 = .ok (.aload_n 0, 1) := by decide +kernel
theorem dX5_mix_6 : decode cX5_mix 6 = .ok (.aload_n 0, 1) := by decide +kernel
theorem dX5_mix_7 : decode cX5_mix 7 = .ok (.getfield 18, 3) := by decide +kernel
theorem dX5_mix_10 : decode cX5_mix 10 = .ok (.arraylength, 1) := by decide +kernel
theorem dX5_mix_11 : decode cX5_mix 11 = .ok (.invokevirtual 67, 3) := by decide +kernel
theorem dX5_mix_14 : decode cX5_mix 14 = .ok (.istore_n 2, 1) := by decide +kernel
theorem dX5_mix_15 : decode cX5_mix 15 = .ok (.aload_n 1, 1) := by decide +kernel
theorem dX5_mix_16 : decode cX5_mix 16 = .ok (.iload_n 2, 1) := by decide +kernel
theorem dX5_mix_17 : decode cX5_mix 17 = .ok (.bipush 20, 2) := by decide +kernel
theorem dX5_mix_19 : decode cX5_mix 19 = .ok (.aload_n 0, 1) := by decide +kernel
theorem dX5_mix_20 : decode cX5_mix 20 = .ok (.sipush 150, 3) := by decide +kernel
theorem dX5_mix_23 : decode cX5_mix 23 = .ok (.invokevirtual 67, 3) := by decide +kernel
theorem dX5_mix_26 : decode cX5_mix 26 = .ok (.iadd, 1) := by decide +kernel
theorem dX5_mix_27 : decode cX5_mix 27 = .ok (.iastore, 1) := by decide +kernel
theorem dX5_mix_28 : decode cX5_mix 28 = .ok (.aload_n 1, 1) := by decide +kernel
theorem dX5_mix_29 : decode cX5_mix 29 = .ok (.bipush 6, 2) := by decide +kernel
theorem dX5_mix_31 : decode cX5_mix 31 = .ok (.aload_n 1, 1) := by decide +kernel
theorem dX5_mix_32 : decode cX5_mix 32 = .ok (.iload_n 2, 1) := by decide +kernel
theorem dX5_mix_33 : decode cX5_mix 33 = .ok (.iaload, 1) := by decide +kernel
theorem dX5_mix_34 : decode cX5_mix 34 = .ok (.iastore, 1) := by decide +kernel
theorem dX5_mix_35 : decode cX5_mix 35 = .ok (.aload_n 0, 1) := by decide +kernel
theorem dX5_mix_36 : decode cX5_mix 36 = .ok (.aload_n 0, 1) := by decide +kernel
theorem dX5_mix_37 : decode cX5_mix 37 = .ok (.getfield 22, 3) := by decide +kernel
theorem dX5_mix_40 : decode cX5_mix 40 = .ok (.aload_n 1, 1) := by decide +kernel
theorem dX5_mix_41 : decode cX5_mix 41 = .ok (.invokestatic 71, 3) := by decide +kernel
theorem dX5_mix_44 : decode cX5_mix 44 = .ok (.putfield 22, 3) := by decide +kernel
theorem dX5_mix_47 : decode cX5_mix 47 = .ok (.aload_n 0, 1) := by decide +kernel
theorem dX5_mix_48 : decode cX5_mix 48 = .ok (.getfield 10, 3) := by decide +kernel
theorem dX5_mix_51 : decode cX5_mix 51 = .ok (.iload_n 2, 1) := by decide +kernel
theorem dX5_mix_52 : decode cX5_mix 52 = .ok (.aload_n 1, 1) := by decide +kernel
theorem dX5_mix_53 : decode cX5_mix 53 = .ok (.iload_n 2, 1) := by decide +kernel
theorem dX5_mix_54 : decode cX5_mix 54 = .ok (.iaload, 1) := by decide +kernel
theorem dX5_mix_55 : decode cX5_mix 55 = .ok (.invokevirtual 79, 3) := by decide +kernel
theorem dX5_mix_58 : decode cX5_mix 58 = .ok (.aload_n 0, 1) := by decide +kernel
theorem dX5_mix_59 : decode cX5_mix 59 = .ok (.getfield 22, 3) := by decide +kernel
theorem dX5_mix_62 : decode cX5_mix 62 = .ok (.arraylength, 1) := by decide +kernel
theorem dX5_mix_63 : decode cX5_mix 63 = .ok (.iconst 1, 1) := by decide +kernel
theorem dX5_mix_64 : decode cX5_mix 64 = .ok (.isub, 1) := by decide +kernel
theorem dX5_mix_65 : decode cX5_mix 65 = .ok (.if_icmp .eq 5, 3) := by decide +kernel
theorem dX5_mix_68 : decode cX5_mix 68 = .ok (.iconst 0, 1) := by decide +kernel
theorem dX5_mix_69 : decode cX5_mix 69 = .ok (.ireturn, 1) := by decide +kernel
theorem dX5_mix_70 : decode cX5_mix 70 = .ok (.aload_n 0, 1) := by decide +kernel
theorem dX5_mix_71 : decode cX5_mix 71 = .ok (.iconst 3, 1) := by decide +kernel
theorem dX5_mix_72 : decode cX5_mix 72 = .ok (.invokevirtual 67, 3) := by decide +kernel
theorem dX5_mix_75 : decode cX5_mix 75 = .ok (.istore_n 3, 1) := by decide +kernel
theorem dX5_mix_76 : decode cX5_mix 76 = .ok (.iload_n 3, 1) := by decide +kernel
theorem dX5_mix_77 : decode cX5_mix 77 = .ok (.ifCond .le 25, 3) := by decide +kernel
theorem dX5_mix_80 : decode cX5_mix 80 = .ok (.aload_n 0, 1) := by decide +kernel
theorem dX5_mix_81 : decode cX5_mix 81 = .ok (.aload_n 0, 1) := by decide +kernel
theorem dX5_mix_82 : decode cX5_mix 82 = .ok (.getfield 22, 3) := by decide +kernel
theorem dX5_mix_85 : decode cX5_mix 85 = .ok (.arraylength, 1) := by decide +kernel
theorem dX5_mix_86 : decode cX5_mix 86 = .ok (.iconst 1, 1) := by decide +kernel
theorem dX5_mix_87 : decode cX5_mix 87 = .ok (.isub, 1) := by decide +kernel
theorem dX5_mix_88 : decode cX5_mix 88 = .ok (.invokevirtual 82, 3) := by decide +kernel
theorem dX5_mix_91 : decode cX5_mix 91 = .ok (.ifCond .ne 5, 3) := by decide +kernel
theorem dX5_mix_94 : decode cX5_mix 94 = .ok (.iconst 0, 1) := by decide +kernel
theorem dX5_mix_95 : decode cX5_mix 95 = .ok (.ireturn, 1) := by decide +kernel
theorem dX5_mix_96 : decode cX5_mix 96 = .ok (.iinc 3 (-1), 3) := by decide +kernel
theorem dX5_mix_99 : decode cX5_mix 99 = .ok (.goto (-23), 3) := by decide +kernel
theorem dX5_mix_102 : decode cX5_mix 102 = .ok (.iconst 1, 1) := by decide +kernel
theorem dX5_mix_103 : decode cX5_mix 103 = .ok (.ireturn, 1) := by decide +kernel
set_option maxRecDepth 20000 in
theorem ggX5_put_X5_draw : GoodIn wsX5_put wsX5_draw := goodIn_r _ [8, 9, 10, 11, 12, 13, 14, 15, 16, 17, 68, 69, 70, 71, 72, 73, 74, 75, 76, 77, 78] (by decide +kernel) (by decide +kernel)
set_option maxRecDepth 20000 in
theorem gX5_put_X5_draw : GoodIn wsX5_put (wsV RX5 67 RX5 yX5_draw wsX5_draw) := goodIn_app (goodIn_of _ (by decide +kernel)) ggX5_put_X5_draw
set_option maxRecDepth 20000 in
theorem ggX5_put_X5_all : GoodIn wsX5_put wsX5_all := goodIn_r _ [21, 22, 23, 24, 7, 25, 1, 2, 68, 69, 70, 71, 72, 73, 74, 75, 76, 77, 78] (by decide +kernel) (by decide +kernel)
set_option maxRecDepth 20000 in
theorem gX5_put_X5_all : GoodIn wsX5_put (wsV RX5 86 RX5 yX5_all wsX5_all) := goodIn_app (goodIn_of _ (by decide +kernel)) ggX5_put_X5_all
set_option maxRecDepth 20000 in
theorem ggX5_put_X4_put : GoodIn wsX5_put wsX4_put := goodIn_ca (goodIn_ca (goodIn_ca (goodIn_r _ [30, 31, 32, 33, 34, 35, 36, 37, 38, 29, 39, 40, 41, 42, 43, 44, 45, 46, 47, 48, 49, 50, 51, 52, 53, 54, 55, 56, 57, 58, 59, 60, 61, 62, 63, 64, 65, 66, 67, 79, 80, 81, 82, 83, 84, 85, 86, 87, 88, 89, 90, 91, 92, 93, 94, 95, 96, 97, 98, 99, 100, 101, 102, 103, 104, 105, 106, 107, 108, 109] (by decide +kernel) (by decide +kernel)) (goodIn_sub (fun _ h => List.mem_cons_of_mem _ (List.mem_append_left _ (List.mem_append_left _ (List.mem_append_right _ h)))) (by decide +kernel))) (goodIn_sub (fun _ h => List.mem_cons_of_mem _ (List.mem_append_left _ (List.mem_append_right _ h))) (by decide +kernel))) (goodIn_sub (fun _ h => List.mem_cons_of_mem _ (List.mem_append_right _ h)) (by decide +kernel))
set_option maxRecDepth 20000 in
theorem gX5_put_X4_put : GoodIn wsX5_put (wsV RX5 89 RX4 yX4_put wsX4_put) := goodIn_app (goodIn_of _ (by decide +kernel)) ggX5_put_X4_put
theorem dX5_put_0 : decode cX5_put 0 = .ok (.aload_n 0, 1) := by decide +kernel
theorem dX5_put_1 : decode cX5_put 1 = .ok (.aload_n 0, 1) := by decide +kernel
theorem dX5_put_2 : decode cX5_put 2 = .ok (.getfield 18, 3) := by decide +kernel
theorem dX5_put_5 : decode cX5_put 5 = .ok (.arraylength, 1) := by decide +kernel
theorem dX5_put_6 : decode cX5_put 6 = .ok (.invokevirtual 67, 3) := by decide +kernel
theorem dX5_put_9 : decode cX5_put 9 = .ok (.istore_n 2, 1) := by decide +kernel
theorem dX5_put_10 : decode cX5_put 10 = .ok (.iconst 1, 1) := by decide +kernel
theorem dX5_put_11 : decode cX5_put 11 = .ok (.aload_n 0, 1) := by decide +kernel
theorem dX5_put_12 : decode cX5_put 12 = .ok (.bipush 80, 2) := by decide +kernel
theorem dX5_put_14 : decode cX5_put 14 = .ok (.invokevirtual 67, 3) := by decide +kernel
theorem dX5_put_17 : decode cX5_put 17 = .ok (.iadd, 1) := by decide +kernel
theorem dX5_put_18 : decode cX5_put 18 = .ok (.istore_n 3, 1) := by decide +kernel
theorem dX5_put_19 : decode cX5_put 19 = .ok (.aload_n 0, 1) := by decide +kernel
theorem dX5_put_20 : decode cX5_put 20 = .ok (.getfield 22, 3) := by decide +kernel
theorem dX5_put_23 : decode cX5_put 23 = .ok (.iload_n 1, 1) := by decide +kernel
theorem dX5_put_24 : decode cX5_put 24 = .ok (.aaload, 1) := by decide +kernel
theorem dX5_put_25 : decode cX5_put 25 = .ok (.astore 4, 2) := by decide +kernel
theorem dX5_put_27 : decode cX5_put 27 = .ok (.aload_n 0, 1) := by decide +kernel
theorem dX5_put_28 : decode cX5_put 28 = .ok (.iload_n 1, 1) := by decide +kernel
theorem dX5_put_29 : decode cX5_put 29 = .ok (.invokevirtual 86, 3) := by decide +kernel
theorem dX5_put_32 : decode cX5_put 32 = .ok (.iload_n 3, 1) := by decide +kernel
theorem dX5_put_33 : decode cX5_put 33 = .ok (.iadd, 1) := by decide +kernel
theorem dX5_put_34 : decode cX5_put 34 = .ok (.sipush 500, 3) := by decide +kernel
theorem dX5_put_37 : decode cX5_put 37 = .ok (.if_icmp .gt 11, 3) := by decide +kernel
theorem dX5_put_40 : decode cX5_put 40 = .ok (.aload 4, 2) := by decide +kernel
theorem dX5_put_42 : decode cX5_put 42 = .ok (.bipush 9, 2) := by decide +kernel
theorem dX5_put_44 : decode cX5_put 44 = .ok (.iaload, 1) := by decide +kernel
theorem dX5_put_45 : decode cX5_put 45 = .ok (.ifCond .le 5, 3) := by decide +kernel
theorem dX5_put_48 : decode cX5_put 48 = .ok (.iconst 1, 1) := by decide +kernel
theorem dX5_put_49 : decode cX5_put 49 = .ok (.ireturn, 1) := by decide +kernel
theorem dX5_put_50 : decode cX5_put 50 = .ok (.aload 4, 2) := by decide +kernel
theorem dX5_put_52 : decode cX5_put 52 = .ok (.iload_n 2, 1) := by decide +kernel
theorem dX5_put_53 : decode cX5_put 53 = .ok (.dup2, 1) := by decide +kernel
theorem dX5_put_54 : decode cX5_put 54 = .ok (.iaload, 1) := by decide +kernel
theorem dX5_put_55 : decode cX5_put 55 = .ok (.iload_n 3, 1) := by decide +kernel
theorem dX5_put_56 : decode cX5_put 56 = .ok (.iadd, 1) := by decide +kernel
theorem dX5_put_57 : decode cX5_put 57 = .ok (.iastore, 1) := by decide +kernel
theorem dX5_put_58 : decode cX5_put 58 = .ok (.aload 4, 2) := by decide +kernel
theorem dX5_put_60 : decode cX5_put 60 = .ok (.bipush 6, 2) := by decide +kernel
theorem dX5_put_62 : decode cX5_put 62 = .ok (.dup2, 1) := by decide +kernel
theorem dX5_put_63 : decode cX5_put 63 = .ok (.iaload, 1) := by decide +kernel
theorem dX5_put_64 : decode cX5_put 64 = .ok (.iload_n 3, 1) := by decide +kernel
theorem dX5_put_65 : decode cX5_put 65 = .ok (.iadd, 1) := by decide +kernel
theorem dX5_put_66 : decode cX5_put 66 = .ok (.iastore, 1) := by decide +kernel
theorem dX5_put_67 : decode cX5_put 67 = .ok (.aload 4, 2) := by decide +kernel
theorem dX5_put_69 : decode cX5_put 69 = .ok (.bipush 7, 2) := by decide +kernel
theorem dX5_put_71 : decode cX5_put 71 = .ok (.iconst 0, 1) := by decide +kernel
theorem dX5_put_72 : decode cX5_put 72 = .ok (.iastore, 1) := by decide +kernel
theorem dX5_put_73 : decode cX5_put 73 = .ok (.aload_n 0, 1) := by decide +kernel
theorem dX5_put_74 : decode cX5_put 74 = .ok (.getfield 10, 3) := by decide +kernel
theorem dX5_put_77 : decode cX5_put 77 = .ok (.iload_n 1, 1) := by decide +kernel
theorem dX5_put_78 : decode cX5_put 78 = .ok (.iload_n 2, 1) := by decide +kernel
theorem dX5_put_79 : decode cX5_put 79 = .ok (.iload_n 3, 1) := by decide +kernel
theorem dX5_put_80 : decode cX5_put 80 = .ok (.invokevirtual 89, 3) := by decide +kernel
theorem dX5_put_83 : decode cX5_put 83 = .ok (.aload_n 0, 1) := by decide +kernel
theorem dX5_put_84 : decode cX5_put 84 = .ok (.iload_n 1, 1) := by decide +kernel
theorem dX5_put_85 : decode cX5_put 85 = .ok (.invokevirtual 86, 3) := by decide +kernel
theorem dX5_put_88 : decode cX5_put 88 = .ok (.if_icmp .ne 7, 3) := by decide +kernel
theorem dX5_put_91 : decode cX5_put 91 = .ok (.iconst 1, 1) := by decide +kernel
theorem dX5_put_92 : decode cX5_put 92 = .ok (.goto 4, 3) := by decide +kernel
theorem dX5_put_95 : decode cX5_put 95 = .ok (.iconst 0, 1) := by decide +kernel
theorem dX5_put_96 : decode cX5_put 96 = .ok (.ireturn, 1) := by decide +kernel
set_option maxRecDepth 20000 in
theorem ggX5_all_X5_sum : GoodIn wsX5_all wsX5_sum := goodIn_r _ [5, 6, 7, 8, 9, 10, 11, 12, 13, 14, 15, 16, 17, 18] (by decide +kernel) (by decide +kernel)
set_option maxRecDepth 20000 in
theorem gX5_all_X5_sum : GoodIn wsX5_all (wsV RX5 92 RX5 yX5_sum wsX5_sum) := goodIn_app (goodIn_of _ (by decide +kernel)) ggX5_all_X5_sum
theorem dX5_all_0 : decode cX5_all 0 = .ok (.aload_n 0, 1) := by decide +kernel
theorem dX5_all_1 : decode cX5_all 1 = .ok (.iload_n 1, 1) := by decide +kernel
theorem dX5_all_2 : decode cX5_all 2 = .ok (.iconst (-1), 1) := by decide +kernel
theorem dX5_all_3 : decode cX5_all 3 = .ok (.invokevirtual 92, 3) := by decide +kernel
theorem dX5_all_6 : decode cX5_all 6 = .ok (.ireturn, 1) := by decide +kernel
theorem dX5_sum_0 : decode cX5_sum 0 = .ok (.iconst 0, 1) := by decide +kernel
theorem dX5_sum_1 : decode cX5_sum 1 = .ok (.istore_n 3, 1) := by decide +kernel
theorem dX5_sum_2 : decode cX5_sum 2 = .ok (.iconst 0, 1) := by decide +kernel
theorem dX5_sum_3 : decode cX5_sum 3 = .ok (.istore 4, 2) := by decide +kernel
theorem dX5_sum_5 : decode cX5_sum 5 = .ok (.iload 4, 2) := by decide +kernel
theorem dX5_sum_7 : decode cX5_sum 7 = .ok (.aload_n 0, 1) := by decide +kernel
theorem dX5_sum_8 : decode cX5_sum 8 = .ok (.getfield 18, 3) := by decide +kernel
theorem dX5_sum_11 : decode cX5_sum 11 = .ok (.arraylength, 1) := by decide +kernel
theorem dX5_sum_12 : decode cX5_sum 12 = .ok (.if_icmp .ge 39, 3) := by decide +kernel
theorem dX5_sum_15 : decode cX5_sum 15 = .ok (.iload_n 3, 1) := by decide +kernel
theorem dX5_sum_16 : decode cX5_sum 16 = .ok (.aload_n 0, 1) := by decide +kernel
theorem dX5_sum_17 : decode cX5_sum 17 = .ok (.getfield 22, 3) := by decide +kernel
theorem dX5_sum_20 : decode cX5_sum 20 = .ok (.iload_n 1, 1) := by decide +kernel
theorem dX5_sum_21 : decode cX5_sum 21 = .ok (.aaload, 1) := by decide +kernel
theorem dX5_sum_22 : decode cX5_sum 22 = .ok (.iload 4, 2) := by decide +kernel
theorem dX5_sum_24 : decode cX5_sum 24 = .ok (.iaload, 1) := by decide +kernel
theorem dX5_sum_25 : decode cX5_sum 25 = .ok (.iload_n 2, 1) := by decide +kernel
theorem dX5_sum_26 : decode cX5_sum 26 = .ok (.ifCond .ge 7, 3) := by decide +kernel
theorem dX5_sum_29 : decode cX5_sum 29 = .ok (.iconst 1, 1) := by decide +kernel
theorem dX5_sum_30 : decode cX5_sum 30 = .ok (.goto 12, 3) := by decide +kernel
theorem dX5_sum_33 : decode cX5_sum 33 = .ok (.aload_n 0, 1) := by decide +kernel
theorem dX5_sum_34 : decode cX5_sum 34 = .ok (.getfield 18, 3) := by decide +kernel
theorem dX5_sum_37 : decode cX5_sum 37 = .ok (.iload 4, 2) := by decide +kernel
theorem dX5_sum_39 : decode cX5_sum 39 = .ok (.aaload, 1) := by decide +kernel
theorem dX5_sum_40 : decode cX5_sum 40 = .ok (.iload_n 2, 1) := by decide +kernel
theorem dX5_sum_41 : decode cX5_sum 41 = .ok (.iaload, 1) := by decide +kernel
theorem dX5_sum_42 : decode cX5_sum 42 = .ok (.imul, 1) := by decide +kernel
theorem dX5_sum_43 : decode cX5_sum 43 = .ok (.iadd, 1) := by decide +kernel
theorem dX5_sum_44 : decode cX5_sum 44 = .ok (.istore_n 3, 1) := by decide +kernel
theorem dX5_sum_45 : decode cX5_sum 45 = .ok (.iinc 4 1, 3) := by decide +kernel
theorem dX5_sum_48 : decode cX5_sum 48 = .ok (.goto (-43), 3) := by decide +kernel
theorem dX5_sum_51 : decode cX5_sum 51 = .ok (.iload_n 3, 1) := by decide +kernel
theorem dX5_sum_52 : decode cX5_sum 52 = .ok (.ireturn, 1) := by decide +kernel
theorem dX5_harms_0 : decode cX5_harms 0 = .ok (.iconst 0, 1) := by decide +kernel
theorem dX5_harms_1 : decode cX5_harms 1 = .ok (.istore_n 2, 1) := by decide +kernel
theorem dX5_harms_2 : decode cX5_harms 2 = .ok (.iconst 0, 1) := by decide +kernel
theorem dX5_harms_3 : decode cX5_harms 3 = .ok (.istore_n 3, 1) := by decide +kernel
theorem dX5_harms_4 : decode cX5_harms 4 = .ok (.iload_n 3, 1) := by decide +kernel
theorem dX5_harms_5 : decode cX5_harms 5 = .ok (.aload_n 0, 1) := by decide +kernel
theorem dX5_harms_6 : decode cX5_harms 6 = .ok (.getfield 18, 3) := by decide +kernel
theorem dX5_harms_9 : decode cX5_harms 9 = .ok (.arraylength, 1) := by decide +kernel
theorem dX5_harms_10 : decode cX5_harms 10 = .ok (.if_icmp .ge 31, 3) := by decide +kernel
theorem dX5_harms_13 : decode cX5_harms 13 = .ok (.aload_n 0, 1) := by decide +kernel
theorem dX5_harms_14 : decode cX5_harms 14 = .ok (.getfield 22, 3) := by decide +kernel
theorem dX5_harms_17 : decode cX5_harms 17 = .ok (.iload_n 1, 1) := by decide +kernel
theorem dX5_harms_18 : decode cX5_harms 18 = .ok (.aaload, 1) := by decide +kernel
theorem dX5_harms_19 : decode cX5_harms 19 = .ok (.iload_n 3, 1) := by decide +kernel
theorem dX5_harms_20 : decode cX5_harms 20 = .ok (.iaload, 1) := by decide +kernel
theorem dX5_harms_21 : decode cX5_harms 21 = .ok (.ifCond .le 14, 3) := by decide +kernel
theorem dX5_harms_24 : decode cX5_harms 24 = .ok (.iload_n 2, 1) := by decide +kernel
theorem dX5_harms_25 : decode cX5_harms 25 = .ok (.aload_n 0, 1) := by decide +kernel
theorem dX5_harms_26 : decode cX5_harms 26 = .ok (.getfield 18, 3) := by decide +kernel
theorem dX5_harms_29 : decode cX5_harms 29 = .ok (.iload_n 3, 1) := by decide +kernel
theorem dX5_harms_30 : decode cX5_harms 30 = .ok (.aaload, 1) := by decide +kernel
theorem dX5_harms_31 : decode cX5_harms 31 = .ok (.iconst 4, 1) := by decide +kernel
theorem dX5_harms_32 : decode cX5_harms 32 = .ok (.iaload, 1) := by decide +kernel
theorem dX5_harms_33 : decode cX5_harms 33 = .ok (.ior, 1) := by decide +kernel
theorem dX5_harms_34 : decode cX5_harms 34 = .ok (.istore_n 2, 1) := by decide +kernel
theorem dX5_harms_35 : decode cX5_harms 35 = .ok (.iinc 3 1, 3) := by decide +kernel
theorem dX5_harms_38 : decode cX5_harms 38 = .ok (.goto (-34), 3) := by decide +kernel
theorem dX5_harms_41 : decode cX5_harms 41 = .ok (.iload_n 2, 1) := by decide +kernel
theorem dX5_harms_42 : decode cX5_harms 42 = .ok (.ireturn, 1) := by decide +kernel
set_option maxRecDepth 20000 in
theorem ggX5_part_X5_sum : GoodIn wsX5_part wsX5_sum := goodIn_r _ [6, 7, 8, 13, 14, 15, 16, 17, 18, 19, 20, 21, 22, 23] (by decide +kernel) (by decide +kernel)
set_option maxRecDepth 20000 in
theorem gX5_part_X5_sum : GoodIn wsX5_part (wsV RX5 92 RX5 yX5_sum wsX5_sum) := goodIn_app (goodIn_of _ (by decide +kernel)) ggX5_part_X5_sum
set_option maxRecDepth 20000 in
theorem ggX5_part_X5_all : GoodIn wsX5_part wsX5_all := goodIn_r _ [12, 2, 3, 4, 5, 6, 7, 8, 13, 14, 15, 16, 17, 18, 19, 20, 21, 22, 23] (by decide +kernel) (by decide +kernel)
set_option maxRecDepth 20000 in
theorem gX5_part_X5_all : GoodIn wsX5_part (wsV RX5 86 RX5 yX5_all wsX5_all) := goodIn_app (goodIn_of _ (by decide +kernel)) ggX5_part_X5_all
theorem dX5_part_0 : decode cX5_part 0 = .ok (.aload_n 0, 1) := by decide +kernel
theorem dX5_part_1 : decode cX5_part 1 = .ok (.iload_n 1, 1) := by decide +kernel
theorem dX5_part_2 : decode cX5_part 2 = .ok (.iload_n 2, 1) := by decide +kernel
theorem dX5_part_3 : decode cX5_part 3 = .ok (.invokevirtual 92, 3) := by decide +kernel
theorem dX5_part_6 : decode cX5_part 6 = .ok (.i2d, 1) := by decide +kernel
theorem dX5_part_7 : decode cX5_part 7 = .ok (.dstore_n 3, 1) := by decide +kernel
theorem dX5_part_8 : decode cX5_part 8 = .ok (.dload_n 3, 1) := by decide +kernel
theorem dX5_part_9 : decode cX5_part 9 = .ok (.aload_n 0, 1) := by decide +kernel
theorem dX5_part_10 : decode cX5_part 10 = .ok (.iload_n 1, 1) := by decide +kernel
theorem dX5_part_11 : decode cX5_part 11 = .ok (.invokevirtual 86, 3) := by decide +kernel
theorem dX5_part_14 : decode cX5_part 14 = .ok (.i2d, 1) := by decide +kernel
theorem dX5_part_15 : decode cX5_part 15 = .ok (.ddiv, 1) := by decide +kernel
theorem dX5_part_16 : decode cX5_part 16 = .ok (.ldc2_w 95, 3) := by decide +kernel
theorem dX5_part_19 : decode cX5_part 19 = .ok (.ddiv, 1) := by decide +kernel
theorem dX5_part_20 : decode cX5_part 20 = .ok (.dreturn, 1) := by decide +kernel
set_option maxRecDepth 20000 in
theorem ggX5_freezes_X5_part : GoodIn wsX5_freezes wsX5_part := goodIn_r _ [7, 8, 9, 10, 11, 6, 12, 13, 14, 15, 16, 17, 18, 19, 20, 21, 22, 23, 24, 25, 26, 27, 28, 29] (by decide +kernel) (by decide +kernel)
set_option maxRecDepth 20000 in
theorem gX5_freezes_X5_part : GoodIn wsX5_freezes (wsV RX5 97 RX5 yX5_part wsX5_part) := goodIn_app (goodIn_of _ (by decide +kernel)) ggX5_freezes_X5_part
theorem dX5_freezes_0 : decode cX5_freezes 0 = .ok (.aload_n 0, 1) := by decide +kernel
theorem dX5_freezes_1 : decode cX5_freezes 1 = .ok (.iload_n 1, 1) := by decide +kernel
theorem dX5_freezes_2 : decode cX5_freezes 2 = .ok (.iconst 2, 1) := by decide +kernel
theorem dX5_freezes_3 : decode cX5_freezes 3 = .ok (.invokevirtual 97, 3) := by decide +kernel
theorem dX5_freezes_6 : decode cX5_freezes 6 = .ok (.ldc2_w 101, 3) := by decide +kernel
theorem dX5_freezes_9 : decode cX5_freezes 9 = .ok (.dmul, 1) := by decide +kernel
theorem dX5_freezes_10 : decode cX5_freezes 10 = .ok (.dstore_n 2, 1) := by decide +kernel
theorem dX5_freezes_11 : decode cX5_freezes 11 = .ok (.dload_n 2, 1) := by decide +kernel
theorem dX5_freezes_12 : decode cX5_freezes 12 = .ok (.aload_n 0, 1) := by decide +kernel
theorem dX5_freezes_13 : decode cX5_freezes 13 = .ok (.iload_n 1, 1) := by decide +kernel
theorem dX5_freezes_14 : decode cX5_freezes 14 = .ok (.iconst 1, 1) := by decide +kernel
theorem dX5_freezes_15 : decode cX5_freezes 15 = .ok (.invokevirtual 97, 3) := by decide +kernel
theorem dX5_freezes_18 : decode cX5_freezes 18 = .ok (.ldc2_w 103, 3) := by decide +kernel
theorem dX5_freezes_21 : decode cX5_freezes 21 = .ok (.dmul, 1) := by decide +kernel
theorem dX5_freezes_22 : decode cX5_freezes 22 = .ok (.dadd, 1) := by decide +kernel
theorem dX5_freezes_23 : decode cX5_freezes 23 = .ok (.dneg, 1) := by decide +kernel
theorem dX5_freezes_24 : decode cX5_freezes 24 = .ok (.dreturn, 1) := by decide +kernel
set_option maxRecDepth 20000 in
theorem ggX5_ice_X5_freezes : GoodIn wsX5_ice wsX5_freezes := goodIn_r _ [5, 6, 7, 8, 9, 10, 4, 11, 12, 13, 14, 15, 16, 17, 18, 19, 20, 21, 22, 23, 24, 25, 26, 27, 28, 29, 30, 31, 32, 33] (by decide +kernel) (by decide +kernel)
set_option maxRecDepth 20000 in
theorem gX5_ice_X5_freezes : GoodIn wsX5_ice (wsV RX5 105 RX5 yX5_freezes wsX5_freezes) := goodIn_app (goodIn_of _ (by decide +kernel)) ggX5_ice_X5_freezes
theorem dX5_ice_0 : decode cX5_ice 0 = .ok (.aload_n 0, 1) := by decide +kernel
theorem dX5_ice_1 : decode cX5_ice 1 = .ok (.iload_n 1, 1) := by decide +kernel
theorem dX5_ice_2 : decode cX5_ice 2 = .ok (.invokevirtual 105, 3) := by decide +kernel
theorem dX5_ice_5 : decode cX5_ice 5 = .ok (.dstore 4, 2) := by decide +kernel
theorem dX5_ice_7 : decode cX5_ice 7 = .ok (.dload_n 2, 1) := by decide +kernel
theorem dX5_ice_8 : decode cX5_ice 8 = .ok (.dload 4, 2) := by decide +kernel
theorem dX5_ice_10 : decode cX5_ice 10 = .ok (.dcmp .l, 1) := by decide +kernel
theorem dX5_ice_11 : decode cX5_ice 11 = .ok (.ifCond .lt 5, 3) := by decide +kernel
theorem dX5_ice_14 : decode cX5_ice 14 = .ok (.dconst 0, 1) := by decide +kernel
theorem dX5_ice_15 : decode cX5_ice 15 = .ok (.dreturn, 1) := by decide +kernel
theorem dX5_ice_16 : decode cX5_ice 16 = .ok (.dconst 1, 1) := by decide +kernel
theorem dX5_ice_17 : decode cX5_ice 17 = .ok (.dload 4, 2) := by decide +kernel
theorem dX5_ice_19 : decode cX5_ice 19 = .ok (.dload_n 2, 1) := by decide +kernel
theorem dX5_ice_20 : decode cX5_ice 20 = .ok (.ddiv, 1) := by decide +kernel
theorem dX5_ice_21 : decode cX5_ice 21 = .ok (.dsub, 1) := by decide +kernel
theorem dX5_ice_22 : decode cX5_ice 22 = .ok (.dreturn, 1) := by decide +kernel
set_option maxRecDepth 20000 in
theorem ggX5_isCream_X5_sum : GoodIn wsX5_isCream wsX5_sum := goodIn_r _ [5, 6, 7, 12, 13, 14, 15, 16, 17, 18, 19, 20, 21, 22] (by decide +kernel) (by decide +kernel)
set_option maxRecDepth 20000 in
theorem gX5_isCream_X5_sum : GoodIn wsX5_isCream (wsV RX5 92 RX5 yX5_sum wsX5_sum) := goodIn_app (goodIn_of _ (by decide +kernel)) ggX5_isCream_X5_sum
set_option maxRecDepth 20000 in
theorem ggX5_isCream_X5_all : GoodIn wsX5_isCream wsX5_all := goodIn_r _ [11, 1, 2, 3, 4, 5, 6, 7, 12, 13, 14, 15, 16, 17, 18, 19, 20, 21, 22] (by decide +kernel) (by decide +kernel)
set_option maxRecDepth 20000 in
theorem gX5_isCream_X5_all : GoodIn wsX5_isCream (wsV RX5 86 RX5 yX5_all wsX5_all) := goodIn_app (goodIn_of _ (by decide +kernel)) ggX5_isCream_X5_all
theorem dX5_isCream_0 : decode cX5_isCream 0 = .ok (.aload_n 0, 1) := by decide +kernel
theorem dX5_isCream_1 : decode cX5_isCream 1 = .ok (.iload_n 1, 1) := by decide +kernel
theorem dX5_isCream_2 : decode cX5_isCream 2 = .ok (.iconst 0, 1) := by decide +kernel
theorem dX5_isCream_3 : decode cX5_isCream 3 = .ok (.invokevirtual 92, 3) := by decide +kernel
theorem dX5_isCream_6 : decode cX5_isCream 6 = .ok (.bipush 100, 2) := by decide +kernel
theorem dX5_isCream_8 : decode cX5_isCream 8 = .ok (.aload_n 0, 1) := by decide +kernel
theorem dX5_isCream_9 : decode cX5_isCream 9 = .ok (.iload_n 1, 1) := by decide +kernel
theorem dX5_isCream_10 : decode cX5_isCream 10 = .ok (.invokevirtual 86, 3) := by decide +kernel
theorem dX5_isCream_13 : decode cX5_isCream 13 = .ok (.imul, 1) := by decide +kernel
theorem dX5_isCream_14 : decode cX5_isCream 14 = .ok (.if_icmp .lt 24, 3) := by decide +kernel
theorem dX5_isCream_17 : decode cX5_isCream 17 = .ok (.aload_n 0, 1) := by decide +kernel
theorem dX5_isCream_18 : decode cX5_isCream 18 = .ok (.iload_n 1, 1) := by decide +kernel
theorem dX5_isCream_19 : decode cX5_isCream 19 = .ok (.iconst 1, 1) := by decide +kernel
theorem dX5_isCream_20 : decode cX5_isCream 20 = .ok (.invokevirtual 92, 3) := by decide +kernel
theorem dX5_isCream_23 : decode cX5_isCream 23 = .ok (.bipush 80, 2) := by decide +kernel
theorem dX5_isCream_25 : decode cX5_isCream 25 = .ok (.aload_n 0, 1) := by decide +kernel
theorem dX5_isCream_26 : decode cX5_isCream 26 = .ok (.iload_n 1, 1) := by decide +kernel
theorem dX5_isCream_27 : decode cX5_isCream 27 = .ok (.invokevirtual 86, 3) := by decide +kernel
theorem dX5_isCream_30 : decode cX5_isCream 30 = .ok (.imul, 1) := by decide +kernel
theorem dX5_isCream_31 : decode cX5_isCream 31 = .ok (.if_icmp .lt 7, 3) := by decide +kernel
theorem dX5_isCream_34 : decode cX5_isCream 34 = .ok (.iconst 1, 1) := by decide +kernel
theorem dX5_isCream_35 : decode cX5_isCream 35 = .ok (.goto 4, 3) := by decide +kernel
theorem dX5_isCream_38 : decode cX5_isCream 38 = .ok (.iconst 0, 1) := by decide +kernel
theorem dX5_isCream_39 : decode cX5_isCream 39 = .ok (.ireturn, 1) := by decide +kernel
set_option maxRecDepth 20000 in
theorem ggX5_heat_X5_draw : GoodIn wsX5_heat wsX5_draw := goodIn_r _ [7, 8, 9, 10, 11, 12, 13, 14, 15, 16, 37, 38, 39, 40, 41, 42, 43, 44, 45, 46, 47] (by decide +kernel) (by decide +kernel)
set_option maxRecDepth 20000 in
theorem gX5_heat_X5_draw : GoodIn wsX5_heat (wsV RX5 67 RX5 yX5_draw wsX5_draw) := goodIn_app (goodIn_of _ (by decide +kernel)) ggX5_heat_X5_draw
set_option maxRecDepth 20000 in
theorem ggX5_heat_X4_heat : GoodIn wsX5_heat wsX4_heat := goodIn_ca (goodIn_ca (goodIn_r _ [21, 22, 23, 24, 25, 20, 26, 27, 28, 29, 30, 31, 32, 33, 34, 35, 36, 48, 49, 50, 51, 52, 53, 54, 55, 56, 57, 58, 59, 60, 61, 62, 63, 64, 65, 66, 67, 68, 69, 70, 71, 72, 73] (by decide +kernel) (by decide +kernel)) (goodIn_sub (fun _ h => List.mem_cons_of_mem _ (List.mem_append_left _ (List.mem_append_right _ h))) (by decide +kernel))) (goodIn_sub (fun _ h => List.mem_cons_of_mem _ (List.mem_append_right _ h)) (by decide +kernel))
set_option maxRecDepth 20000 in
theorem gX5_heat_X4_heat : GoodIn wsX5_heat (wsV RX5 109 RX4 yX4_heat wsX4_heat) := goodIn_app (goodIn_of _ (by decide +kernel)) ggX5_heat_X4_heat
theorem dX5_heat_0 : decode cX5_heat 0 = .ok (.bipush 60, 2) := by decide +kernel
theorem dX5_heat_2 : decode cX5_heat 2 = .ok (.aload_n 0, 1) := by decide +kernel
theorem dX5_heat_3 : decode cX5_heat 3 = .ok (.bipush 30, 2) := by decide +kernel
theorem dX5_heat_5 : decode cX5_heat 5 = .ok (.invokevirtual 67, 3) := by decide +kernel
theorem dX5_heat_8 : decode cX5_heat 8 = .ok (.iadd, 1) := by decide +kernel
theorem dX5_heat_9 : decode cX5_heat 9 = .ok (.istore_n 2, 1) := by decide +kernel
theorem dX5_heat_10 : decode cX5_heat 10 = .ok (.aload_n 0, 1) := by decide +kernel
theorem dX5_heat_11 : decode cX5_heat 11 = .ok (.iconst 2, 1) := by decide +kernel
theorem dX5_heat_12 : decode cX5_heat 12 = .ok (.invokevirtual 67, 3) := by decide +kernel
theorem dX5_heat_15 : decode cX5_heat 15 = .ok (.ifCond .ne 9, 3) := by decide +kernel
theorem dX5_heat_18 : decode cX5_heat 18 = .ok (.sipush 2000, 3) := by decide +kernel
theorem dX5_heat_21 : decode cX5_heat 21 = .ok (.goto 12, 3) := by decide +kernel
theorem dX5_heat_24 : decode cX5_heat 24 = .ok (.iconst 1, 1) := by decide +kernel
theorem dX5_heat_25 : decode cX5_heat 25 = .ok (.aload_n 0, 1) := by decide +kernel
theorem dX5_heat_26 : decode cX5_heat 26 = .ok (.sipush 400, 3) := by decide +kernel
theorem dX5_heat_29 : decode cX5_heat 29 = .ok (.invokevirtual 67, 3) := by decide +kernel
theorem dX5_heat_32 : decode cX5_heat 32 = .ok (.iadd, 1) := by decide +kernel
theorem dX5_heat_33 : decode cX5_heat 33 = .ok (.istore_n 3, 1) := by decide +kernel
theorem dX5_heat_34 : decode cX5_heat 34 = .ok (.iload_n 2, 1) := by decide +kernel
theorem dX5_heat_35 : decode cX5_heat 35 = .ok (.bipush 65, 2) := by decide +kernel
theorem dX5_heat_37 : decode cX5_heat 37 = .ok (.if_icmp .lt 10, 3) := by decide +kernel
theorem dX5_heat_40 : decode cX5_heat 40 = .ok (.iload_n 3, 1) := by decide +kernel
theorem dX5_heat_41 : decode cX5_heat 41 = .ok (.sipush 1800, 3) := by decide +kernel
theorem dX5_heat_44 : decode cX5_heat 44 = .ok (.if_icmp .ge 40, 3) := by decide +kernel
theorem dX5_heat_47 : decode cX5_heat 47 = .ok (.iload_n 2, 1) := by decide +kernel
theorem dX5_heat_48 : decode cX5_heat 48 = .ok (.bipush 70, 2) := by decide +kernel
theorem dX5_heat_50 : decode cX5_heat 50 = .ok (.if_icmp .lt 10, 3) := by decide +kernel
theorem dX5_heat_53 : decode cX5_heat 53 = .ok (.iload_n 3, 1) := by decide +kernel
theorem dX5_heat_54 : decode cX5_heat 54 = .ok (.sipush 300, 3) := by decide +kernel
theorem dX5_heat_57 : decode cX5_heat 57 = .ok (.if_icmp .ge 27, 3) := by decide +kernel
theorem dX5_heat_60 : decode cX5_heat 60 = .ok (.iload_n 2, 1) := by decide +kernel
theorem dX5_heat_61 : decode cX5_heat 61 = .ok (.bipush 75, 2) := by decide +kernel
theorem dX5_heat_63 : decode cX5_heat 63 = .ok (.if_icmp .lt 9, 3) := by decide +kernel
theorem dX5_heat_66 : decode cX5_heat 66 = .ok (.iload_n 3, 1) := by decide +kernel
theorem dX5_heat_67 : decode cX5_heat 67 = .ok (.bipush 60, 2) := by decide +kernel
theorem dX5_heat_69 : decode cX5_heat 69 = .ok (.if_icmp .ge 15, 3) := by decide +kernel
theorem dX5_heat_72 : decode cX5_heat 72 = .ok (.iload_n 2, 1) := by decide +kernel
theorem dX5_heat_73 : decode cX5_heat 73 = .ok (.bipush 80, 2) := by decide +kernel
theorem dX5_heat_75 : decode cX5_heat 75 = .ok (.if_icmp .lt 13, 3) := by decide +kernel
theorem dX5_heat_78 : decode cX5_heat 78 = .ok (.iload_n 3, 1) := by decide +kernel
theorem dX5_heat_79 : decode cX5_heat 79 = .ok (.bipush 15, 2) := by decide +kernel
theorem dX5_heat_81 : decode cX5_heat 81 = .ok (.if_icmp .lt 7, 3) := by decide +kernel
theorem dX5_heat_84 : decode cX5_heat 84 = .ok (.iconst 1, 1) := by decide +kernel
theorem dX5_heat_85 : decode cX5_heat 85 = .ok (.goto 4, 3) := by decide +kernel
theorem dX5_heat_88 : decode cX5_heat 88 = .ok (.iconst 0, 1) := by decide +kernel
theorem dX5_heat_89 : decode cX5_heat 89 = .ok (.istore 4, 2) := by decide +kernel
theorem dX5_heat_91 : decode cX5_heat 91 = .ok (.aload_n 0, 1) := by decide +kernel
theorem dX5_heat_92 : decode cX5_heat 92 = .ok (.getfield 22, 3) := by decide +kernel
theorem dX5_heat_95 : decode cX5_heat 95 = .ok (.iload_n 1, 1) := by decide +kernel
theorem dX5_heat_96 : decode cX5_heat 96 = .ok (.aaload, 1) := by decide +kernel
theorem dX5_heat_97 : decode cX5_heat 97 = .ok (.bipush 7, 2) := by decide +kernel
theorem dX5_heat_99 : decode cX5_heat 99 = .ok (.dup2, 1) := by decide +kernel
theorem dX5_heat_100 : decode cX5_heat 100 = .ok (.iaload, 1) := by decide +kernel
theorem dX5_heat_101 : decode cX5_heat 101 = .ok (.iload 4, 2) := by decide +kernel
theorem dX5_heat_103 : decode cX5_heat 103 = .ok (.ifCond .eq 7, 3) := by decide +kernel
theorem dX5_heat_106 : decode cX5_heat 106 = .ok (.iconst 1, 1) := by decide +kernel
theorem dX5_heat_107 : decode cX5_heat 107 = .ok (.goto 4, 3) := by decide +kernel
theorem dX5_heat_110 : decode cX5_heat 110 = .ok (.iconst 0, 1) := by decide +kernel
theorem dX5_heat_111 : decode cX5_heat 111 = .ok (.ior, 1) := by decide +kernel
theorem dX5_heat_112 : decode cX5_heat 112 = .ok (.iastore, 1) := by decide +kernel
theorem dX5_heat_113 : decode cX5_heat 113 = .ok (.aload_n 0, 1) := by decide +kernel
theorem dX5_heat_114 : decode cX5_heat 114 = .ok (.getfield 22, 3) := by decide +kernel
theorem dX5_heat_117 : decode cX5_heat 117 = .ok (.iload_n 1, 1) := by decide +kernel
theorem dX5_heat_118 : decode cX5_heat 118 = .ok (.aaload, 1) := by decide +kernel
theorem dX5_heat_119 : decode cX5_heat 119 = .ok (.bipush 8, 2) := by decide +kernel
theorem dX5_heat_121 : decode cX5_heat 121 = .ok (.iconst 0, 1) := by decide +kernel
theorem dX5_heat_122 : decode cX5_heat 122 = .ok (.iastore, 1) := by decide +kernel
theorem dX5_heat_123 : decode cX5_heat 123 = .ok (.aload_n 0, 1) := by decide +kernel
theorem dX5_heat_124 : decode cX5_heat 124 = .ok (.getfield 10, 3) := by decide +kernel
theorem dX5_heat_127 : decode cX5_heat 127 = .ok (.iload_n 1, 1) := by decide +kernel
theorem dX5_heat_128 : decode cX5_heat 128 = .ok (.iload_n 2, 1) := by decide +kernel
theorem dX5_heat_129 : decode cX5_heat 129 = .ok (.iload_n 3, 1) := by decide +kernel
theorem dX5_heat_130 : decode cX5_heat 130 = .ok (.invokevirtual 109, 3) := by decide +kernel
theorem dX5_heat_133 : decode cX5_heat 133 = .ok (.aload_n 0, 1) := by decide +kernel
theorem dX5_heat_134 : decode cX5_heat 134 = .ok (.getfield 22, 3) := by decide +kernel
theorem dX5_heat_137 : decode cX5_heat 137 = .ok (.iload_n 1, 1) := by decide +kernel
theorem dX5_heat_138 : decode cX5_heat 138 = .ok (.aaload, 1) := by decide +kernel
theorem dX5_heat_139 : decode cX5_heat 139 = .ok (.bipush 7, 2) := by decide +kernel
theorem dX5_heat_141 : decode cX5_heat 141 = .ok (.iaload, 1) := by decide +kernel
theorem dX5_heat_142 : decode cX5_heat 142 = .ok (.iconst 1, 1) := by decide +kernel
theorem dX5_heat_143 : decode cX5_heat 143 = .ok (.if_icmp .ne 7, 3) := by decide +kernel
theorem dX5_heat_146 : decode cX5_heat 146 = .ok (.iconst 1, 1) := by decide +kernel
theorem dX5_heat_147 : decode cX5_heat 147 = .ok (.goto 4, 3) := by decide +kernel
theorem dX5_heat_150 : decode cX5_heat 150 = .ok (.iconst 0, 1) := by decide +kernel
theorem dX5_heat_151 : decode cX5_heat 151 = .ok (.if_icmp .ne 7, 3) := by decide +kernel
theorem dX5_heat_154 : decode cX5_heat 154 = .ok (.iconst 1, 1) := by decide +kernel
theorem dX5_heat_155 : decode cX5_heat 155 = .ok (.goto 4, 3) := by decide +kernel
theorem dX5_heat_158 : decode cX5_heat 158 = .ok (.iconst 0, 1) := by decide +kernel
theorem dX5_heat_159 : decode cX5_heat 159 = .ok (.ireturn, 1) := by decide +kernel
set_option maxRecDepth 20000 in
theorem ggX5_bars_X5_harms : GoodIn wsX5_bars wsX5_harms := goodIn_r _ [8, 9, 1, 22, 23, 24, 25, 26, 27, 28, 29, 30, 31, 32] (by decide +kernel) (by decide +kernel)
set_option maxRecDepth 20000 in
theorem gX5_bars_X5_harms : GoodIn wsX5_bars (wsV RX5 113 RX5 yX5_harms wsX5_harms) := goodIn_app (goodIn_of _ (by decide +kernel)) ggX5_bars_X5_harms
set_option maxRecDepth 20000 in
theorem ggX5_bars_X5_isCream : GoodIn wsX5_bars wsX5_isCream := goodIn_r _ [13, 14, 15, 16, 7, 17, 9, 1, 18, 19, 20, 21, 22, 23, 24, 25, 26, 27, 28, 29, 30, 31, 32] (by decide +kernel) (by decide +kernel)
set_option maxRecDepth 20000 in
theorem gX5_bars_X5_isCream : GoodIn wsX5_bars (wsV RX5 116 RX5 yX5_isCream wsX5_isCream) := goodIn_app (goodIn_of _ (by decide +kernel)) ggX5_bars_X5_isCream
theorem dX5_bars_0 : decode cX5_bars 0 = .ok (.aload_n 0, 1) := by decide +kernel
theorem dX5_bars_1 : decode cX5_bars 1 = .ok (.getfield 22, 3) := by decide +kernel
theorem dX5_bars_4 : decode cX5_bars 4 = .ok (.iload_n 2, 1) := by decide +kernel
theorem dX5_bars_5 : decode cX5_bars 5 = .ok (.aaload, 1) := by decide +kernel
theorem dX5_bars_6 : decode cX5_bars 6 = .ok (.astore 5, 2) := by decide +kernel
theorem dX5_bars_8 : decode cX5_bars 8 = .ok (.aload 5, 2) := by decide +kernel
theorem dX5_bars_10 : decode cX5_bars 10 = .ok (.bipush 7, 2) := by decide +kernel
theorem dX5_bars_12 : decode cX5_bars 12 = .ok (.iaload, 1) := by decide +kernel
theorem dX5_bars_13 : decode cX5_bars 13 = .ok (.ifCond .ne 5, 3) := by decide +kernel
theorem dX5_bars_16 : decode cX5_bars 16 = .ok (.iconst 1, 1) := by decide +kernel
theorem dX5_bars_17 : decode cX5_bars 17 = .ok (.ireturn, 1) := by decide +kernel
theorem dX5_bars_18 : decode cX5_bars 18 = .ok (.aload 5, 2) := by decide +kernel
theorem dX5_bars_20 : decode cX5_bars 20 = .ok (.bipush 8, 2) := by decide +kernel
theorem dX5_bars_22 : decode cX5_bars 22 = .ok (.iaload, 1) := by decide +kernel
theorem dX5_bars_23 : decode cX5_bars 23 = .ok (.iconst 4, 1) := by decide +kernel
theorem dX5_bars_24 : decode cX5_bars 24 = .ok (.if_icmp .ge 5, 3) := by decide +kernel
theorem dX5_bars_27 : decode cX5_bars 27 = .ok (.iconst 2, 1) := by decide +kernel
theorem dX5_bars_28 : decode cX5_bars 28 = .ok (.ireturn, 1) := by decide +kernel
theorem dX5_bars_29 : decode cX5_bars 29 = .ok (.aload 5, 2) := by decide +kernel
theorem dX5_bars_31 : decode cX5_bars 31 = .ok (.bipush 8, 2) := by decide +kernel
theorem dX5_bars_33 : decode cX5_bars 33 = .ok (.iaload, 1) := by decide +kernel
theorem dX5_bars_34 : decode cX5_bars 34 = .ok (.bipush 72, 2) := by decide +kernel
theorem dX5_bars_36 : decode cX5_bars 36 = .ok (.if_icmp .le 5, 3) := by decide +kernel
theorem dX5_bars_39 : decode cX5_bars 39 = .ok (.iconst 3, 1) := by decide +kernel
theorem dX5_bars_40 : decode cX5_bars 40 = .ok (.ireturn, 1) := by decide +kernel
theorem dX5_bars_41 : decode cX5_bars 41 = .ok (.iload_n 3, 1) := by decide +kernel
theorem dX5_bars_42 : decode cX5_bars 42 = .ok (.aload 5, 2) := by decide +kernel
theorem dX5_bars_44 : decode cX5_bars 44 = .ok (.bipush 6, 2) := by decide +kernel
theorem dX5_bars_46 : decode cX5_bars 46 = .ok (.iaload, 1) := by decide +kernel
theorem dX5_bars_47 : decode cX5_bars 47 = .ok (.if_icmp .le 5, 3) := by decide +kernel
theorem dX5_bars_50 : decode cX5_bars 50 = .ok (.iconst 4, 1) := by decide +kernel
theorem dX5_bars_51 : decode cX5_bars 51 = .ok (.ireturn, 1) := by decide +kernel
theorem dX5_bars_52 : decode cX5_bars 52 = .ok (.aload_n 0, 1) := by decide +kernel
theorem dX5_bars_53 : decode cX5_bars 53 = .ok (.getfield 38, 3) := by decide +kernel
theorem dX5_bars_56 : decode cX5_bars 56 = .ok (.iload_n 1, 1) := by decide +kernel
theorem dX5_bars_57 : decode cX5_bars 57 = .ok (.iaload, 1) := by decide +kernel
theorem dX5_bars_58 : decode cX5_bars 58 = .ok (.aload_n 0, 1) := by decide +kernel
theorem dX5_bars_59 : decode cX5_bars 59 = .ok (.iload_n 2, 1) := by decide +kernel
theorem dX5_bars_60 : decode cX5_bars 60 = .ok (.invokevirtual 113, 3) := by decide +kernel
theorem dX5_bars_63 : decode cX5_bars 63 = .ok (.ior, 1) := by decide +kernel
theorem dX5_bars_64 : decode cX5_bars 64 = .ok (.aload_n 0, 1) := by decide +kernel
theorem dX5_bars_65 : decode cX5_bars 65 = .ok (.iload_n 2, 1) := by decide +kernel
theorem dX5_bars_66 : decode cX5_bars 66 = .ok (.invokevirtual 113, 3) := by decide +kernel
theorem dX5_bars_69 : decode cX5_bars 69 = .ok (.if_icmp .eq 5, 3) := by decide +kernel
theorem dX5_bars_72 : decode cX5_bars 72 = .ok (.iconst 5, 1) := by decide +kernel
theorem dX5_bars_73 : decode cX5_bars 73 = .ok (.ireturn, 1) := by decide +kernel
theorem dX5_bars_74 : decode cX5_bars 74 = .ok (.iload 4, 2) := by decide +kernel
theorem dX5_bars_76 : decode cX5_bars 76 = .ok (.bipush 100, 2) := by decide +kernel
theorem dX5_bars_78 : decode cX5_bars 78 = .ok (.if_icmp .le 14, 3) := by decide +kernel
theorem dX5_bars_81 : decode cX5_bars 81 = .ok (.aload_n 0, 1) := by decide +kernel
theorem dX5_bars_82 : decode cX5_bars 82 = .ok (.iload_n 2, 1) := by decide +kernel
theorem dX5_bars_83 : decode cX5_bars 83 = .ok (.invokevirtual 116, 3) := by decide +kernel
theorem dX5_bars_86 : decode cX5_bars 86 = .ok (.ifCond .eq 6, 3) := by decide +kernel
theorem dX5_bars_89 : decode cX5_bars 89 = .ok (.bipush 6, 2) := by decide +kernel
theorem dX5_bars_91 : decode cX5_bars 91 = .ok (.ireturn, 1) := by decide +kernel
theorem dX5_bars_92 : decode cX5_bars 92 = .ok (.aload_n 0, 1) := by decide +kernel
theorem dX5_bars_93 : decode cX5_bars 93 = .ok (.getfield 25, 3) := by decide +kernel
theorem dX5_bars_96 : decode cX5_bars 96 = .ok (.arraylength, 1) := by decide +kernel
theorem dX5_bars_97 : decode cX5_bars 97 = .ok (.bipush 11, 2) := by decide +kernel
theorem dX5_bars_99 : decode cX5_bars 99 = .ok (.if_icmp .le 8, 3) := by decide +kernel
theorem dX5_bars_102 : decode cX5_bars 102 = .ok (.bipush 7, 2) := by decide +kernel
theorem dX5_bars_104 : decode cX5_bars 104 = .ok (.goto 4, 3) := by decide +kernel
theorem dX5_bars_107 : decode cX5_bars 107 = .ok (.iconst 0, 1) := by decide +kernel
theorem dX5_bars_108 : decode cX5_bars 108 = .ok (.ireturn, 1) := by decide +kernel
set_option maxRecDepth 20000 in
theorem ggX5_run_X5_draw : GoodIn wsX5_run wsX5_draw := goodIn_r _ [12, 13, 14, 15, 16, 17, 18, 19, 20, 21, 90, 91, 92, 93, 94, 95, 96, 97, 98, 99, 100] (by decide +kernel) (by decide +kernel)
set_option maxRecDepth 20000 in
theorem gX5_run_X5_draw : GoodIn wsX5_run (wsV RX5 67 RX5 yX5_draw wsX5_draw) := goodIn_app (goodIn_of _ (by decide +kernel)) ggX5_run_X5_draw
set_option maxRecDepth 20000 in
theorem ggX5_run_X5_bars : GoodIn wsX5_run wsX5_bars := goodIn_r _ [25, 1, 3, 5, 26, 27, 28, 11, 29, 30, 31, 32, 33, 34, 35, 36, 37, 38, 39, 40, 41, 42, 90, 91, 92, 93, 94, 95, 96, 97, 98, 99, 100] (by decide +kernel) (by decide +kernel)
set_option maxRecDepth 20000 in
theorem gX5_run_X5_bars : GoodIn wsX5_run (wsV RX5 119 RX5 yX5_bars wsX5_bars) := goodIn_app (goodIn_of _ (by decide +kernel)) ggX5_run_X5_bars
set_option maxRecDepth 20000 in
theorem ggX5_run_X4_bars : GoodIn wsX5_run wsX4_bars := goodIn_ca (goodIn_ca (goodIn_r _ [47, 48, 49, 50, 51, 52, 53, 46, 54, 55, 56, 57, 58, 59, 60, 61, 62, 63, 64, 65, 66, 67, 68, 69, 70, 71, 72, 73, 74, 101, 102, 103, 104, 105, 106, 107, 108, 109, 110, 111, 112, 113, 114, 115, 116, 117, 118, 119, 120, 121, 122, 123, 124, 125, 126] (by decide +kernel) (by decide +kernel)) (goodIn_sub (fun _ h => List.mem_cons_of_mem _ (List.mem_append_left _ (List.mem_append_right _ h))) (by decide +kernel))) (goodIn_sub (fun _ h => List.mem_cons_of_mem _ (List.mem_append_right _ h)) (by decide +kernel))
set_option maxRecDepth 20000 in
theorem gX5_run_X4_bars : GoodIn wsX5_run (wsV RX5 123 RX4 yX4_bars wsX4_bars) := goodIn_app (goodIn_of _ (by decide +kernel)) ggX5_run_X4_bars
set_option maxRecDepth 20000 in
theorem ggX5_run_X4_run : GoodIn wsX5_run wsX4_run := goodIn_ca (goodIn_ca (goodIn_r _ [78, 49, 50, 79, 51, 80, 81, 44, 45, 46, 47, 48, 52, 53, 54, 55, 56, 57, 58, 59, 60, 61, 62, 63, 64, 65, 66, 67, 68, 69, 70, 71, 72, 73, 74, 101, 102, 103, 104, 105, 106, 107, 108, 109, 110, 111, 112, 113, 114, 115, 116, 117, 118, 119, 120, 121, 122, 123, 124, 125, 126, 127, 128, 129, 130, 131] (by decide +kernel) (by decide +kernel)) (goodIn_sub (fun _ h => List.mem_cons_of_mem _ (List.mem_append_left _ (List.mem_append_right _ h))) (by decide +kernel))) (goodIn_sub (fun _ h => List.mem_cons_of_mem _ (List.mem_append_right _ h)) (by decide +kernel))
set_option maxRecDepth 20000 in
theorem gX5_run_X4_run : GoodIn wsX5_run (wsV RX5 124 RX4 yX4_run wsX4_run) := goodIn_app (goodIn_of _ (by decide +kernel)) ggX5_run_X4_run
set_option maxRecDepth 20000 in
theorem ggX5_run_X5_harms : GoodIn wsX5_run wsX5_harms := goodIn_r _ [29, 30, 1, 90, 91, 92, 93, 94, 95, 96, 97, 98, 99, 100] (by decide +kernel) (by decide +kernel)
set_option maxRecDepth 20000 in
theorem gX5_run_X5_harms : GoodIn wsX5_run (wsV RX5 113 RX5 yX5_harms wsX5_harms) := goodIn_app (goodIn_of _ (by decide +kernel)) ggX5_run_X5_harms
set_option maxRecDepth 20000 in
theorem ggX5_run_X5_plus : GoodIn wsX5_run wsX5_plus := goodIn_r _ [84, 85, 86, 87, 88, 89] (by decide +kernel) (by decide +kernel)
set_option maxRecDepth 20000 in
theorem gX5_run_X5_plus : GoodIn wsX5_run (va_wsS RX5 71 yX5_plus wsX5_plus) := goodIn_app (goodIn_of _ (by decide +kernel)) ggX5_run_X5_plus
theorem dX5_run_0 : decode cX5_run 0 = .ok (.aload_n 0, 1) := by decide +kernel
theorem dX5_run_1 : decode cX5_run 1 = .ok (.iconst 2, 1) := by decide +kernel
theorem dX5_run_2 : decode cX5_run 2 = .ok (.invokevirtual 67, 3) := by decide +kernel
theorem dX5_run_5 : decode cX5_run 5 = .ok (.istore_n 1, 1) := by decide +kernel
theorem dX5_run_6 : decode cX5_run 6 = .ok (.aload_n 0, 1) := by decide +kernel
theorem dX5_run_7 : decode cX5_run 7 = .ok (.aload_n 0, 1) := by decide +kernel
theorem dX5_run_8 : decode cX5_run 8 = .ok (.getfield 22, 3) := by decide +kernel
theorem dX5_run_11 : decode cX5_run 11 = .ok (.arraylength, 1) := by decide +kernel
theorem dX5_run_12 : decode cX5_run 12 = .ok (.invokevirtual 67, 3) := by decide +kernel
theorem dX5_run_15 : decode cX5_run 15 = .ok (.istore_n 2, 1) := by decide +kernel
theorem dX5_run_16 : decode cX5_run 16 = .ok (.iconst 5, 1) := by decide +kernel
theorem dX5_run_17 : decode cX5_run 17 = .ok (.aload_n 0, 1) := by decide +kernel
theorem dX5_run_18 : decode cX5_run 18 = .ok (.bipush 30, 2) := by decide +kernel
theorem dX5_run_20 : decode cX5_run 20 = .ok (.invokevirtual 67, 3) := by decide +kernel
theorem dX5_run_23 : decode cX5_run 23 = .ok (.iadd, 1) := by decide +kernel
theorem dX5_run_24 : decode cX5_run 24 = .ok (.istore_n 3, 1) := by decide +kernel
theorem dX5_run_25 : decode cX5_run 25 = .ok (.bipush 20, 2) := by decide +kernel
theorem dX5_run_27 : decode cX5_run 27 = .ok (.aload_n 0, 1) := by decide +kernel
theorem dX5_run_28 : decode cX5_run 28 = .ok (.bipush 121, 2) := by decide +kernel
theorem dX5_run_30 : decode cX5_run 30 = .ok (.invokevirtual 67, 3) := by decide +kernel
theorem dX5_run_33 : decode cX5_run 33 = .ok (.iadd, 1) := by decide +kernel
theorem dX5_run_34 : decode cX5_run 34 = .ok (.istore 4, 2) := by decide +kernel
theorem dX5_run_36 : decode cX5_run 36 = .ok (.aload_n 0, 1) := by decide +kernel
theorem dX5_run_37 : decode cX5_run 37 = .ok (.iload_n 1, 1) := by decide +kernel
theorem dX5_run_38 : decode cX5_run 38 = .ok (.iload_n 2, 1) := by decide +kernel
theorem dX5_run_39 : decode cX5_run 39 = .ok (.iload_n 3, 1) := by decide +kernel
theorem dX5_run_40 : decode cX5_run 40 = .ok (.iload 4, 2) := by decide +kernel
theorem dX5_run_42 : decode cX5_run 42 = .ok (.invokevirtual 119, 3) := by decide +kernel
theorem dX5_run_45 : decode cX5_run 45 = .ok (.istore 5, 2) := by decide +kernel
theorem dX5_run_47 : decode cX5_run 47 = .ok (.aload_n 0, 1) := by decide +kernel
theorem dX5_run_48 : decode cX5_run 48 = .ok (.getfield 10, 3) := by decide +kernel
theorem dX5_run_51 : decode cX5_run 51 = .ok (.iload_n 1, 1) := by decide +kernel
theorem dX5_run_52 : decode cX5_run 52 = .ok (.iload_n 2, 1) := by decide +kernel
theorem dX5_run_53 : decode cX5_run 53 = .ok (.iload_n 3, 1) := by decide +kernel
theorem dX5_run_54 : decode cX5_run 54 = .ok (.iload 4, 2) := by decide +kernel
theorem dX5_run_56 : decode cX5_run 56 = .ok (.invokevirtual 123, 3) := by decide +kernel
theorem dX5_run_59 : decode cX5_run 59 = .ok (.iload 5, 2) := by decide +kernel
theorem dX5_run_61 : decode cX5_run 61 = .ok (.if_icmp .eq 5, 3) := by decide +kernel
theorem dX5_run_64 : decode cX5_run 64 = .ok (.iconst 0, 1) := by decide +kernel
theorem dX5_run_65 : decode cX5_run 65 = .ok (.ireturn, 1) := by decide +kernel
theorem dX5_run_66 : decode cX5_run 66 = .ok (.iload 5, 2) := by decide +kernel
theorem dX5_run_68 : decode cX5_run 68 = .ok (.ifCond .le 29, 3) := by decide +kernel
theorem dX5_run_71 : decode cX5_run 71 = .ok (.aload_n 0, 1) := by decide +kernel
theorem dX5_run_72 : decode cX5_run 72 = .ok (.getfield 10, 3) := by decide +kernel
theorem dX5_run_75 : decode cX5_run 75 = .ok (.iload_n 1, 1) := by decide +kernel
theorem dX5_run_76 : decode cX5_run 76 = .ok (.iload_n 2, 1) := by decide +kernel
theorem dX5_run_77 : decode cX5_run 77 = .ok (.iload_n 3, 1) := by decide +kernel
theorem dX5_run_78 : decode cX5_run 78 = .ok (.iload 4, 2) := by decide +kernel
theorem dX5_run_80 : decode cX5_run 80 = .ok (.invokevirtual 124, 3) := by decide +kernel
theorem dX5_run_83 : decode cX5_run 83 = .ok (.bipush (-10), 2) := by decide +kernel
theorem dX5_run_85 : decode cX5_run 85 = .ok (.iload 5, 2) := by decide +kernel
theorem dX5_run_87 : decode cX5_run 87 = .ok (.isub, 1) := by decide +kernel
theorem dX5_run_88 : decode cX5_run 88 = .ok (.if_icmp .ne 7, 3) := by decide +kernel
theorem dX5_run_91 : decode cX5_run 91 = .ok (.iconst 1, 1) := by decide +kernel
theorem dX5_run_92 : decode cX5_run 92 = .ok (.goto 4, 3) := by decide +kernel
theorem dX5_run_95 : decode cX5_run 95 = .ok (.iconst 0, 1) := by decide +kernel
theorem dX5_run_96 : decode cX5_run 96 = .ok (.ireturn, 1) := by decide +kernel
theorem dX5_run_97 : decode cX5_run 97 = .ok (.aload_n 0, 1) := by decide +kernel
theorem dX5_run_98 : decode cX5_run 98 = .ok (.getfield 22, 3) := by decide +kernel
theorem dX5_run_101 : decode cX5_run 101 = .ok (.iload_n 2, 1) := by decide +kernel
theorem dX5_run_102 : decode cX5_run 102 = .ok (.aaload, 1) := by decide +kernel
theorem dX5_run_103 : decode cX5_run 103 = .ok (.bipush 6, 2) := by decide +kernel
theorem dX5_run_105 : decode cX5_run 105 = .ok (.dup2, 1) := by decide +kernel
theorem dX5_run_106 : decode cX5_run 106 = .ok (.iaload, 1) := by decide +kernel
theorem dX5_run_107 : decode cX5_run 107 = .ok (.iload_n 3, 1) := by decide +kernel
theorem dX5_run_108 : decode cX5_run 108 = .ok (.isub, 1) := by decide +kernel
theorem dX5_run_109 : decode cX5_run 109 = .ok (.iastore, 1) := by decide +kernel
theorem dX5_run_110 : decode cX5_run 110 = .ok (.aload_n 0, 1) := by decide +kernel
theorem dX5_run_111 : decode cX5_run 111 = .ok (.getfield 22, 3) := by decide +kernel
theorem dX5_run_114 : decode cX5_run 114 = .ok (.iload_n 2, 1) := by decide +kernel
theorem dX5_run_115 : decode cX5_run 115 = .ok (.aaload, 1) := by decide +kernel
theorem dX5_run_116 : decode cX5_run 116 = .ok (.bipush 9, 2) := by decide +kernel
theorem dX5_run_118 : decode cX5_run 118 = .ok (.dup2, 1) := by decide +kernel
theorem dX5_run_119 : decode cX5_run 119 = .ok (.iaload, 1) := by decide +kernel
theorem dX5_run_120 : decode cX5_run 120 = .ok (.iconst 1, 1) := by decide +kernel
theorem dX5_run_121 : decode cX5_run 121 = .ok (.iadd, 1) := by decide +kernel
theorem dX5_run_122 : decode cX5_run 122 = .ok (.iastore, 1) := by decide +kernel
theorem dX5_run_123 : decode cX5_run 123 = .ok (.aload_n 0, 1) := by decide +kernel
theorem dX5_run_124 : decode cX5_run 124 = .ok (.getfield 38, 3) := by decide +kernel
theorem dX5_run_127 : decode cX5_run 127 = .ok (.iload_n 1, 1) := by decide +kernel
theorem dX5_run_128 : decode cX5_run 128 = .ok (.aload_n 0, 1) := by decide +kernel
theorem dX5_run_129 : decode cX5_run 129 = .ok (.iload_n 2, 1) := by decide +kernel
theorem dX5_run_130 : decode cX5_run 130 = .ok (.invokevirtual 113, 3) := by decide +kernel
theorem dX5_run_133 : decode cX5_run 133 = .ok (.iastore, 1) := by decide +kernel
theorem dX5_run_134 : decode cX5_run 134 = .ok (.aload_n 0, 1) := by decide +kernel
theorem dX5_run_135 : decode cX5_run 135 = .ok (.getfield 28, 3) := by decide +kernel
theorem dX5_run_138 : decode cX5_run 138 = .ok (.aload_n 0, 1) := by decide +kernel
theorem dX5_run_139 : decode cX5_run 139 = .ok (.getfield 25, 3) := by decide +kernel
theorem dX5_run_142 : decode cX5_run 142 = .ok (.arraylength, 1) := by decide +kernel
theorem dX5_run_143 : decode cX5_run 143 = .ok (.ldc2_w 127, 3) := by decide +kernel
theorem dX5_run_146 : decode cX5_run 146 = .ok (.dastore, 1) := by decide +kernel
theorem dX5_run_147 : decode cX5_run 147 = .ok (.aload_n 0, 1) := by decide +kernel
theorem dX5_run_148 : decode cX5_run 148 = .ok (.aload_n 0, 1) := by decide +kernel
theorem dX5_run_149 : decode cX5_run 149 = .ok (.getfield 25, 3) := by decide +kernel
theorem dX5_run_152 : decode cX5_run 152 = .ok (.iconst 4, 1) := by decide +kernel
theorem dX5_run_153 : decode cX5_run 153 = .ok (.newarray .int, 2) := by decide +kernel
theorem dX5_run_155 : decode cX5_run 155 = .ok (.dup, 1) := by decide +kernel
theorem dX5_run_156 : decode cX5_run 156 = .ok (.iconst 0, 1) := by decide +kernel
theorem dX5_run_157 : decode cX5_run 157 = .ok (.iload_n 2, 1) := by decide +kernel
theorem dX5_run_158 : decode cX5_run 158 = .ok (.iastore, 1) := by decide +kernel
theorem dX5_run_159 : decode cX5_run 159 = .ok (.dup, 1) := by decide +kernel
theorem dX5_run_160 : decode cX5_run 160 = .ok (.iconst 1, 1) := by decide +kernel
theorem dX5_run_161 : decode cX5_run 161 = .ok (.iload_n 3, 1) := by decide +kernel
theorem dX5_run_162 : decode cX5_run 162 = .ok (.iconst 2, 1) := by decide +kernel
theorem dX5_run_163 : decode cX5_run 163 = .ok (.isub, 1) := by decide +kernel
theorem dX5_run_164 : decode cX5_run 164 = .ok (.bipush 100, 2) := by decide +kernel
theorem dX5_run_166 : decode cX5_run 166 = .ok (.iload 4, 2) := by decide +kernel
theorem dX5_run_168 : decode cX5_run 168 = .ok (.iadd, 1) := by decide +kernel
theorem dX5_run_169 : decode cX5_run 169 = .ok (.imul, 1) := by decide +kernel
theorem dX5_run_170 : decode cX5_run 170 = .ok (.bipush 100, 2) := by decide +kernel
theorem dX5_run_172 : decode cX5_run 172 = .ok (.idiv, 1) := by decide +kernel
theorem dX5_run_173 : decode cX5_run 173 = .ok (.iastore, 1) := by decide +kernel
theorem dX5_run_174 : decode cX5_run 174 = .ok (.dup, 1) := by decide +kernel
theorem dX5_run_175 : decode cX5_run 175 = .ok (.iconst 2, 1) := by decide +kernel
theorem dX5_run_176 : decode cX5_run 176 = .ok (.iconst 0, 1) := by decide +kernel
theorem dX5_run_177 : decode cX5_run 177 = .ok (.iastore, 1) := by decide +kernel
theorem dX5_run_178 : decode cX5_run 178 = .ok (.dup, 1) := by decide +kernel
theorem dX5_run_179 : decode cX5_run 179 = .ok (.iconst 3, 1) := by decide +kernel
theorem dX5_run_180 : decode cX5_run 180 = .ok (.iconst (-1), 1) := by decide +kernel
theorem dX5_run_181 : decode cX5_run 181 = .ok (.iastore, 1) := by decide +kernel
theorem dX5_run_182 : decode cX5_run 182 = .ok (.invokestatic 71, 3) := by decide +kernel
theorem dX5_run_185 : decode cX5_run 185 = .ok (.putfield 25, 3) := by decide +kernel
theorem dX5_run_188 : decode cX5_run 188 = .ok (.aload_n 0, 1) := by decide +kernel
theorem dX5_run_189 : decode cX5_run 189 = .ok (.getfield 10, 3) := by decide +kernel
theorem dX5_run_192 : decode cX5_run 192 = .ok (.iload_n 1, 1) := by decide +kernel
theorem dX5_run_193 : decode cX5_run 193 = .ok (.iload_n 2, 1) := by decide +kernel
theorem dX5_run_194 : decode cX5_run 194 = .ok (.iload_n 3, 1) := by decide +kernel
theorem dX5_run_195 : decode cX5_run 195 = .ok (.iload 4, 2) := by decide +kernel
theorem dX5_run_197 : decode cX5_run 197 = .ok (.invokevirtual 124, 3) := by decide +kernel
theorem dX5_run_200 : decode cX5_run 200 = .ok (.aload_n 0, 1) := by decide +kernel
theorem dX5_run_201 : decode cX5_run 201 = .ok (.getfield 25, 3) := by decide +kernel
theorem dX5_run_204 : decode cX5_run 204 = .ok (.arraylength, 1) := by decide +kernel
theorem dX5_run_205 : decode cX5_run 205 = .ok (.iconst 1, 1) := by decide +kernel
theorem dX5_run_206 : decode cX5_run 206 = .ok (.isub, 1) := by decide +kernel
theorem dX5_run_207 : decode cX5_run 207 = .ok (.if_icmp .ne 7, 3) := by decide +kernel
theorem dX5_run_210 : decode cX5_run 210 = .ok (.iconst 1, 1) := by decide +kernel
theorem dX5_run_211 : decode cX5_run 211 = .ok (.goto 4, 3) := by decide +kernel
theorem dX5_run_214 : decode cX5_run 214 = .ok (.iconst 0, 1) := by decide +kernel
theorem dX5_run_215 : decode cX5_run 215 = .ok (.ireturn, 1) := by decide +kernel
set_option maxRecDepth 20000 in
theorem ggX5_harden_X5_draw : GoodIn wsX5_harden wsX5_draw := goodIn_r _ [9, 10, 11, 12, 13, 14, 15, 16, 17, 18, 39, 40, 41, 42, 43, 44, 45, 46, 47, 48, 49] (by decide +kernel) (by decide +kernel)
set_option maxRecDepth 20000 in
theorem gX5_harden_X5_draw : GoodIn wsX5_harden (wsV RX5 67 RX5 yX5_draw wsX5_draw) := goodIn_app (goodIn_of _ (by decide +kernel)) ggX5_harden_X5_draw
set_option maxRecDepth 20000 in
theorem ggX5_harden_X4_harden : GoodIn wsX5_harden wsX4_harden := goodIn_ca (goodIn_ca (goodIn_ca (goodIn_r _ [23, 24, 25, 26, 27, 28, 29, 30, 22, 31, 32, 33, 34, 35, 36, 37, 38, 50, 51, 52, 53, 54, 55, 56, 57, 58, 59, 60, 61, 62, 63, 64, 65, 66, 67, 68] (by decide +kernel) (by decide +kernel)) (goodIn_sub (fun _ h => List.mem_cons_of_mem _ (List.mem_append_left _ (List.mem_append_left _ (List.mem_append_right _ h)))) (by decide +kernel))) (goodIn_sub (fun _ h => List.mem_cons_of_mem _ (List.mem_append_left _ (List.mem_append_right _ h))) (by decide +kernel))) (goodIn_sub (fun _ h => List.mem_cons_of_mem _ (List.mem_append_right _ h)) (by decide +kernel))
set_option maxRecDepth 20000 in
theorem gX5_harden_X4_harden : GoodIn wsX5_harden (wsV RX5 131 RX4 yX4_harden wsX4_harden) := goodIn_app (goodIn_of _ (by decide +kernel)) ggX5_harden_X4_harden
theorem dX5_harden_0 : decode cX5_harden 0 = .ok (.aload_n 0, 1) := by decide +kernel
theorem dX5_harden_1 : decode cX5_harden 1 = .ok (.getfield 25, 3) := by decide +kernel
theorem dX5_harden_4 : decode cX5_harden 4 = .ok (.iload_n 1, 1) := by decide +kernel
theorem dX5_harden_5 : decode cX5_harden 5 = .ok (.aaload, 1) := by decide +kernel
theorem dX5_harden_6 : decode cX5_harden 6 = .ok (.iconst 3, 1) := by decide +kernel
theorem dX5_harden_7 : decode cX5_harden 7 = .ok (.iaload, 1) := by decide +kernel
theorem dX5_harden_8 : decode cX5_harden 8 = .ok (.iconst (-1), 1) := by decide +kernel
theorem dX5_harden_9 : decode cX5_harden 9 = .ok (.if_icmp .ne 15, 3) := by decide +kernel
theorem dX5_harden_12 : decode cX5_harden 12 = .ok (.aload_n 0, 1) := by decide +kernel
theorem dX5_harden_13 : decode cX5_harden 13 = .ok (.getfield 25, 3) := by decide +kernel
theorem dX5_harden_16 : decode cX5_harden 16 = .ok (.iload_n 1, 1) := by decide +kernel
theorem dX5_harden_17 : decode cX5_harden 17 = .ok (.aaload, 1) := by decide +kernel
theorem dX5_harden_18 : decode cX5_harden 18 = .ok (.iconst 2, 1) := by decide +kernel
theorem dX5_harden_19 : decode cX5_harden 19 = .ok (.iaload, 1) := by decide +kernel
theorem dX5_harden_20 : decode cX5_harden 20 = .ok (.iconst 1, 1) := by decide +kernel
theorem dX5_harden_21 : decode cX5_harden 21 = .ok (.if_icmp .ne 5, 3) := by decide +kernel
theorem dX5_harden_24 : decode cX5_harden 24 = .ok (.iconst 1, 1) := by decide +kernel
theorem dX5_harden_25 : decode cX5_harden 25 = .ok (.ireturn, 1) := by decide +kernel
theorem dX5_harden_26 : decode cX5_harden 26 = .ok (.bipush 10, 2) := by decide +kernel
theorem dX5_harden_28 : decode cX5_harden 28 = .ok (.aload_n 0, 1) := by decide +kernel
theorem dX5_harden_29 : decode cX5_harden 29 = .ok (.bipush 81, 2) := by decide +kernel
theorem dX5_harden_31 : decode cX5_harden 31 = .ok (.invokevirtual 67, 3) := by decide +kernel
theorem dX5_harden_34 : decode cX5_harden 34 = .ok (.iadd, 1) := by decide +kernel
theorem dX5_harden_35 : decode cX5_harden 35 = .ok (.istore_n 2, 1) := by decide +kernel
theorem dX5_harden_36 : decode cX5_harden 36 = .ok (.aload_n 0, 1) := by decide +kernel
theorem dX5_harden_37 : decode cX5_harden 37 = .ok (.getfield 25, 3) := by decide +kernel
theorem dX5_harden_40 : decode cX5_harden 40 = .ok (.iload_n 1, 1) := by decide +kernel
theorem dX5_harden_41 : decode cX5_harden 41 = .ok (.aaload, 1) := by decide +kernel
theorem dX5_harden_42 : decode cX5_harden 42 = .ok (.iconst 2, 1) := by decide +kernel
theorem dX5_harden_43 : decode cX5_harden 43 = .ok (.iconst 1, 1) := by decide +kernel
theorem dX5_harden_44 : decode cX5_harden 44 = .ok (.iastore, 1) := by decide +kernel
theorem dX5_harden_45 : decode cX5_harden 45 = .ok (.aload_n 0, 1) := by decide +kernel
theorem dX5_harden_46 : decode cX5_harden 46 = .ok (.getfield 28, 3) := by decide +kernel
theorem dX5_harden_49 : decode cX5_harden 49 = .ok (.iload_n 1, 1) := by decide +kernel
theorem dX5_harden_50 : decode cX5_harden 50 = .ok (.dup2, 1) := by decide +kernel
theorem dX5_harden_51 : decode cX5_harden 51 = .ok (.daload, 1) := by decide +kernel
theorem dX5_harden_52 : decode cX5_harden 52 = .ok (.iload_n 2, 1) := by decide +kernel
theorem dX5_harden_53 : decode cX5_harden 53 = .ok (.i2d, 1) := by decide +kernel
theorem dX5_harden_54 : decode cX5_harden 54 = .ok (.ldc2_w 129, 3) := by decide +kernel
theorem dX5_harden_57 : decode cX5_harden 57 = .ok (.dmul, 1) := by decide +kernel
theorem dX5_harden_58 : decode cX5_harden 58 = .ok (.dadd, 1) := by decide +kernel
theorem dX5_harden_59 : decode cX5_harden 59 = .ok (.dastore, 1) := by decide +kernel
theorem dX5_harden_60 : decode cX5_harden 60 = .ok (.aload_n 0, 1) := by decide +kernel
theorem dX5_harden_61 : decode cX5_harden 61 = .ok (.getfield 10, 3) := by decide +kernel
theorem dX5_harden_64 : decode cX5_harden 64 = .ok (.iload_n 1, 1) := by decide +kernel
theorem dX5_harden_65 : decode cX5_harden 65 = .ok (.iload_n 2, 1) := by decide +kernel
theorem dX5_harden_66 : decode cX5_harden 66 = .ok (.invokevirtual 131, 3) := by decide +kernel
theorem dX5_harden_69 : decode cX5_harden 69 = .ok (.aload_n 0, 1) := by decide +kernel
theorem dX5_harden_70 : decode cX5_harden 70 = .ok (.getfield 28, 3) := by decide +kernel
theorem dX5_harden_73 : decode cX5_harden 73 = .ok (.iload_n 1, 1) := by decide +kernel
theorem dX5_harden_74 : decode cX5_harden 74 = .ok (.daload, 1) := by decide +kernel
theorem dX5_harden_75 : decode cX5_harden 75 = .ok (.dcmp .l, 1) := by decide +kernel
theorem dX5_harden_76 : decode cX5_harden 76 = .ok (.ifCond .ne 7, 3) := by decide +kernel
theorem dX5_harden_79 : decode cX5_harden 79 = .ok (.iconst 1, 1) := by decide +kernel
theorem dX5_harden_80 : decode cX5_harden 80 = .ok (.goto 4, 3) := by decide +kernel
theorem dX5_harden_83 : decode cX5_harden 83 = .ok (.iconst 0, 1) := by decide +kernel
theorem dX5_harden_84 : decode cX5_harden 84 = .ok (.ireturn, 1) := by decide +kernel
set_option maxRecDepth 20000 in
theorem ggX5_store_X5_draw : GoodIn wsX5_store wsX5_draw := goodIn_r _ [13, 14, 15, 16, 17, 18, 19, 20, 21, 22, 40, 41, 42, 43, 44, 45, 46, 47, 48, 49, 50] (by decide +kernel) (by decide +kernel)
set_option maxRecDepth 20000 in
theorem gX5_store_X5_draw : GoodIn wsX5_store (wsV RX5 67 RX5 yX5_draw wsX5_draw) := goodIn_app (goodIn_of _ (by decide +kernel)) ggX5_store_X5_draw
set_option maxRecDepth 20000 in
theorem ggX5_store_X4_store : GoodIn wsX5_store wsX4_store := goodIn_ca (goodIn_ca (goodIn_r _ [27, 28, 29, 30, 31, 26, 32, 33, 34, 35, 36, 37, 38, 39, 51, 52, 53, 54, 55, 56, 57, 58, 59, 60, 61, 62, 63, 64, 65, 66] (by decide +kernel) (by decide +kernel)) (goodIn_sub (fun _ h => List.mem_cons_of_mem _ (List.mem_append_left _ (List.mem_append_right _ h))) (by decide +kernel))) (goodIn_sub (fun _ h => List.mem_cons_of_mem _ (List.mem_append_right _ h)) (by decide +kernel))
set_option maxRecDepth 20000 in
theorem gX5_store_X4_store : GoodIn wsX5_store (wsV RX5 134 RX4 yX4_store wsX4_store) := goodIn_app (goodIn_of _ (by decide +kernel)) ggX5_store_X4_store
theorem dX5_store_0 : decode cX5_store 0 = .ok (.bipush (-30), 2) := by decide +kernel
theorem dX5_store_2 : decode cX5_store 2 = .ok (.aload_n 0, 1) := by decide +kernel
theorem dX5_store_3 : decode cX5_store 3 = .ok (.bipush 21, 2) := by decide +kernel
theorem dX5_store_5 : decode cX5_store 5 = .ok (.invokevirtual 67, 3) := by decide +kernel
theorem dX5_store_8 : decode cX5_store 8 = .ok (.iadd, 1) := by decide +kernel
theorem dX5_store_9 : decode cX5_store 9 = .ok (.istore_n 1, 1) := by decide +kernel
theorem dX5_store_10 : decode cX5_store 10 = .ok (.aload_n 0, 1) := by decide +kernel
theorem dX5_store_11 : decode cX5_store 11 = .ok (.getfield 32, 3) := by decide +kernel
theorem dX5_store_14 : decode cX5_store 14 = .ok (.arraylength, 1) := by decide +kernel
theorem dX5_store_15 : decode cX5_store 15 = .ok (.iconst 1, 1) := by decide +kernel
theorem dX5_store_16 : decode cX5_store 16 = .ok (.iadd, 1) := by decide +kernel
theorem dX5_store_17 : decode cX5_store 17 = .ok (.newarray .int, 2) := by decide +kernel
theorem dX5_store_19 : decode cX5_store 19 = .ok (.astore_n 2, 1) := by decide +kernel
theorem dX5_store_20 : decode cX5_store 20 = .ok (.aload_n 0, 1) := by decide +kernel
theorem dX5_store_21 : decode cX5_store 21 = .ok (.getfield 32, 3) := by decide +kernel
theorem dX5_store_24 : decode cX5_store 24 = .ok (.iconst 0, 1) := by decide +kernel
theorem dX5_store_25 : decode cX5_store 25 = .ok (.aload_n 2, 1) := by decide +kernel
theorem dX5_store_26 : decode cX5_store 26 = .ok (.iconst 0, 1) := by decide +kernel
theorem dX5_store_27 : decode cX5_store 27 = .ok (.aload_n 0, 1) := by decide +kernel
theorem dX5_store_28 : decode cX5_store 28 = .ok (.getfield 32, 3) := by decide +kernel
theorem dX5_store_31 : decode cX5_store 31 = .ok (.arraylength, 1) := by decide +kernel
theorem dX5_store_32 : decode cX5_store 32 = .ok (.invokestatic 61, 3) := by decide +kernel
theorem dX5_store_35 : decode cX5_store 35 = .ok (.aload_n 2, 1) := by decide +kernel
theorem dX5_store_36 : decode cX5_store 36 = .ok (.aload_n 0, 1) := by decide +kernel
theorem dX5_store_37 : decode cX5_store 37 = .ok (.getfield 32, 3) := by decide +kernel
theorem dX5_store_40 : decode cX5_store 40 = .ok (.arraylength, 1) := by decide +kernel
theorem dX5_store_41 : decode cX5_store 41 = .ok (.iload_n 1, 1) := by decide +kernel
theorem dX5_store_42 : decode cX5_store 42 = .ok (.iastore, 1) := by decide +kernel
theorem dX5_store_43 : decode cX5_store 43 = .ok (.aload_n 0, 1) := by decide +kernel
theorem dX5_store_44 : decode cX5_store 44 = .ok (.getfield 35, 3) := by decide +kernel
theorem dX5_store_47 : decode cX5_store 47 = .ok (.aload_n 0, 1) := by decide +kernel
theorem dX5_store_48 : decode cX5_store 48 = .ok (.getfield 32, 3) := by decide +kernel
theorem dX5_store_51 : decode cX5_store 51 = .ok (.arraylength, 1) := by decide +kernel
theorem dX5_store_52 : decode cX5_store 52 = .ok (.iload_n 1, 1) := by decide +kernel
theorem dX5_store_53 : decode cX5_store 53 = .ok (.i2d, 1) := by decide +kernel
theorem dX5_store_54 : decode cX5_store 54 = .ok (.dastore, 1) := by decide +kernel
theorem dX5_store_55 : decode cX5_store 55 = .ok (.aload_n 0, 1) := by decide +kernel
theorem dX5_store_56 : decode cX5_store 56 = .ok (.aload_n 2, 1) := by decide +kernel
theorem dX5_store_57 : decode cX5_store 57 = .ok (.putfield 32, 3) := by decide +kernel
theorem dX5_store_60 : decode cX5_store 60 = .ok (.aload_n 0, 1) := by decide +kernel
theorem dX5_store_61 : decode cX5_store 61 = .ok (.getfield 10, 3) := by decide +kernel
theorem dX5_store_64 : decode cX5_store 64 = .ok (.iload_n 1, 1) := by decide +kernel
theorem dX5_store_65 : decode cX5_store 65 = .ok (.invokevirtual 134, 3) := by decide +kernel
theorem dX5_store_68 : decode cX5_store 68 = .ok (.aload_n 0, 1) := by decide +kernel
theorem dX5_store_69 : decode cX5_store 69 = .ok (.getfield 32, 3) := by decide +kernel
theorem dX5_store_72 : decode cX5_store 72 = .ok (.arraylength, 1) := by decide +kernel
theorem dX5_store_73 : decode cX5_store 73 = .ok (.iconst 1, 1) := by decide +kernel
theorem dX5_store_74 : decode cX5_store 74 = .ok (.isub, 1) := by decide +kernel
theorem dX5_store_75 : decode cX5_store 75 = .ok (.if_icmp .ne 7, 3) := by decide +kernel
theorem dX5_store_78 : decode cX5_store 78 = .ok (.iconst 1, 1) := by decide +kernel
theorem dX5_store_79 : decode cX5_store 79 = .ok (.goto 4, 3) := by decide +kernel
theorem dX5_store_82 : decode cX5_store 82 = .ok (.iconst 0, 1) := by decide +kernel
theorem dX5_store_83 : decode cX5_store 83 = .ok (.ireturn, 1) := by decide +kernel
theorem dX5_in_0 : decode cX5_in 0 = .ok (.iconst 0, 1) := by decide +kernel
theorem dX5_in_1 : decode cX5_in 1 = .ok (.istore_n 2, 1) := by decide +kernel
theorem dX5_in_2 : decode cX5_in 2 = .ok (.aload_n 0, 1) := by decide +kernel
theorem dX5_in_3 : decode cX5_in 3 = .ok (.getfield 25, 3) := by decide +kernel
theorem dX5_in_6 : decode cX5_in 6 = .ok (.astore_n 3, 1) := by decide +kernel
theorem dX5_in_7 : decode cX5_in 7 = .ok (.aload_n 3, 1) := by decide +kernel
theorem dX5_in_8 : decode cX5_in 8 = .ok (.arraylength, 1) := by decide +kernel
theorem dX5_in_9 : decode cX5_in 9 = .ok (.istore 4, 2) := by decide +kernel
theorem dX5_in_11 : decode cX5_in 11 = .ok (.iconst 0, 1) := by decide +kernel
theorem dX5_in_12 : decode cX5_in 12 = .ok (.istore 5, 2) := by decide +kernel
theorem dX5_in_14 : decode cX5_in 14 = .ok (.iload 5, 2) := by decide +kernel
theorem dX5_in_16 : decode cX5_in 16 = .ok (.iload 4, 2) := by decide +kernel
theorem dX5_in_18 : decode cX5_in 18 = .ok (.if_icmp .ge 31, 3) := by decide +kernel
theorem dX5_in_21 : decode cX5_in 21 = .ok (.aload_n 3, 1) := by decide +kernel
theorem dX5_in_22 : decode cX5_in 22 = .ok (.iload 5, 2) := by decide +kernel
theorem dX5_in_24 : decode cX5_in 24 = .ok (.aaload, 1) := by decide +kernel
theorem dX5_in_25 : decode cX5_in 25 = .ok (.astore 6, 2) := by decide +kernel
theorem dX5_in_27 : decode cX5_in 27 = .ok (.iload_n 2, 1) := by decide +kernel
theorem dX5_in_28 : decode cX5_in 28 = .ok (.aload 6, 2) := by decide +kernel
theorem dX5_in_30 : decode cX5_in 30 = .ok (.iconst 3, 1) := by decide +kernel
theorem dX5_in_31 : decode cX5_in 31 = .ok (.iaload, 1) := by decide +kernel
theorem dX5_in_32 : decode cX5_in 32 = .ok (.iload_n 1, 1) := by decide +kernel
theorem dX5_in_33 : decode cX5_in 33 = .ok (.if_icmp .ne 7, 3) := by decide +kernel
theorem dX5_in_36 : decode cX5_in 36 = .ok (.iconst 1, 1) := by decide +kernel
theorem dX5_in_37 : decode cX5_in 37 = .ok (.goto 4, 3) := by decide +kernel
theorem dX5_in_40 : decode cX5_in 40 = .ok (.iconst 0, 1) := by decide +kernel
theorem dX5_in_41 : decode cX5_in 41 = .ok (.iadd, 1) := by decide +kernel
theorem dX5_in_42 : decode cX5_in 42 = .ok (.istore_n 2, 1) := by decide +kernel
theorem dX5_in_43 : decode cX5_in 43 = .ok (.iinc 5 1, 3) := by decide +kernel
theorem dX5_in_46 : decode cX5_in 46 = .ok (.goto (-32), 3) := by decide +kernel
theorem dX5_in_49 : decode cX5_in 49 = .ok (.iload_n 2, 1) := by decide +kernel
theorem dX5_in_50 : decode cX5_in 50 = .ok (.ireturn, 1) := by decide +kernel
set_option maxRecDepth 20000 in
theorem ggX5_lay_X5_draw : GoodIn wsX5_lay wsX5_draw := goodIn_r _ [8, 9, 10, 11, 12, 13, 14, 15, 16, 17, 41, 42, 43, 44, 45, 46, 47, 48, 49, 50, 51] (by decide +kernel) (by decide +kernel)
set_option maxRecDepth 20000 in
theorem gX5_lay_X5_draw : GoodIn wsX5_lay (wsV RX5 67 RX5 yX5_draw wsX5_draw) := goodIn_app (goodIn_of _ (by decide +kernel)) ggX5_lay_X5_draw
set_option maxRecDepth 20000 in
theorem ggX5_lay_X4_lay : GoodIn wsX5_lay wsX4_lay := goodIn_ca (goodIn_ca (goodIn_r _ [22, 23, 24, 25, 26, 27, 28, 29, 21, 30, 31, 32, 33, 34, 35, 36, 52, 53, 54, 55, 56, 57, 58, 59, 60, 61, 62, 63, 64, 65, 66, 67, 68, 69, 70] (by decide +kernel) (by decide +kernel)) (goodIn_sub (fun _ h => List.mem_cons_of_mem _ (List.mem_append_left _ (List.mem_append_right _ h))) (by decide +kernel))) (goodIn_sub (fun _ h => List.mem_cons_of_mem _ (List.mem_append_right _ h)) (by decide +kernel))
set_option maxRecDepth 20000 in
theorem gX5_lay_X4_lay : GoodIn wsX5_lay (wsV RX5 137 RX4 yX4_lay wsX4_lay) := goodIn_app (goodIn_of _ (by decide +kernel)) ggX5_lay_X4_lay
set_option maxRecDepth 20000 in
theorem ggX5_lay_X5_in : GoodIn wsX5_lay wsX5_in := goodIn_r _ [40, 1, 41, 42, 43, 44, 45, 46, 47, 48, 49, 50, 51] (by decide +kernel) (by decide +kernel)
set_option maxRecDepth 20000 in
theorem gX5_lay_X5_in : GoodIn wsX5_lay (wsV RX5 140 RX5 yX5_in wsX5_in) := goodIn_app (goodIn_of _ (by decide +kernel)) ggX5_lay_X5_in
theorem dX5_lay_0 : decode cX5_lay 0 = .ok (.aload_n 0, 1) := by decide +kernel
theorem dX5_lay_1 : decode cX5_lay 1 = .ok (.getfield 25, 3) := by decide +kernel
theorem dX5_lay_4 : decode cX5_lay 4 = .ok (.iload_n 1, 1) := by decide +kernel
theorem dX5_lay_5 : decode cX5_lay 5 = .ok (.aaload, 1) := by decide +kernel
theorem dX5_lay_6 : decode cX5_lay 6 = .ok (.iconst 2, 1) := by decide +kernel
theorem dX5_lay_7 : decode cX5_lay 7 = .ok (.iaload, 1) := by decide +kernel
theorem dX5_lay_8 : decode cX5_lay 8 = .ok (.ifCond .eq 16, 3) := by decide +kernel
theorem dX5_lay_11 : decode cX5_lay 11 = .ok (.aload_n 0, 1) := by decide +kernel
theorem dX5_lay_12 : decode cX5_lay 12 = .ok (.getfield 25, 3) := by decide +kernel
theorem dX5_lay_15 : decode cX5_lay 15 = .ok (.iload_n 1, 1) := by decide +kernel
theorem dX5_lay_16 : decode cX5_lay 16 = .ok (.aaload, 1) := by decide +kernel
theorem dX5_lay_17 : decode cX5_lay 17 = .ok (.iconst 3, 1) := by decide +kernel
theorem dX5_lay_18 : decode cX5_lay 18 = .ok (.iaload, 1) := by decide +kernel
theorem dX5_lay_19 : decode cX5_lay 19 = .ok (.bipush 9, 2) := by decide +kernel
theorem dX5_lay_21 : decode cX5_lay 21 = .ok (.if_icmp .le 5, 3) := by decide +kernel
theorem dX5_lay_24 : decode cX5_lay 24 = .ok (.iconst 1, 1) := by decide +kernel
theorem dX5_lay_25 : decode cX5_lay 25 = .ok (.ireturn, 1) := by decide +kernel
theorem dX5_lay_26 : decode cX5_lay 26 = .ok (.aload_n 0, 1) := by decide +kernel
theorem dX5_lay_27 : decode cX5_lay 27 = .ok (.aload_n 0, 1) := by decide +kernel
theorem dX5_lay_28 : decode cX5_lay 28 = .ok (.getfield 32, 3) := by decide +kernel
theorem dX5_lay_31 : decode cX5_lay 31 = .ok (.arraylength, 1) := by decide +kernel
theorem dX5_lay_32 : decode cX5_lay 32 = .ok (.invokevirtual 67, 3) := by decide +kernel
theorem dX5_lay_35 : decode cX5_lay 35 = .ok (.istore_n 2, 1) := by decide +kernel
theorem dX5_lay_36 : decode cX5_lay 36 = .ok (.aload_n 0, 1) := by decide +kernel
theorem dX5_lay_37 : decode cX5_lay 37 = .ok (.getfield 25, 3) := by decide +kernel
theorem dX5_lay_40 : decode cX5_lay 40 = .ok (.iload_n 1, 1) := by decide +kernel
theorem dX5_lay_41 : decode cX5_lay 41 = .ok (.aaload, 1) := by decide +kernel
theorem dX5_lay_42 : decode cX5_lay 42 = .ok (.iconst 3, 1) := by decide +kernel
theorem dX5_lay_43 : decode cX5_lay 43 = .ok (.iload_n 2, 1) := by decide +kernel
theorem dX5_lay_44 : decode cX5_lay 44 = .ok (.iastore, 1) := by decide +kernel
theorem dX5_lay_45 : decode cX5_lay 45 = .ok (.aload_n 0, 1) := by decide +kernel
theorem dX5_lay_46 : decode cX5_lay 46 = .ok (.getfield 10, 3) := by decide +kernel
theorem dX5_lay_49 : decode cX5_lay 49 = .ok (.iload_n 1, 1) := by decide +kernel
theorem dX5_lay_50 : decode cX5_lay 50 = .ok (.iload_n 2, 1) := by decide +kernel
theorem dX5_lay_51 : decode cX5_lay 51 = .ok (.invokevirtual 137, 3) := by decide +kernel
theorem dX5_lay_54 : decode cX5_lay 54 = .ok (.aload_n 0, 1) := by decide +kernel
theorem dX5_lay_55 : decode cX5_lay 55 = .ok (.iload_n 2, 1) := by decide +kernel
theorem dX5_lay_56 : decode cX5_lay 56 = .ok (.invokevirtual 140, 3) := by decide +kernel
theorem dX5_lay_59 : decode cX5_lay 59 = .ok (.if_icmp .ne 7, 3) := by decide +kernel
theorem dX5_lay_62 : decode cX5_lay 62 = .ok (.iconst 1, 1) := by decide +kernel
theorem dX5_lay_63 : decode cX5_lay 63 = .ok (.goto 4, 3) := by decide +kernel
theorem dX5_lay_66 : decode cX5_lay 66 = .ok (.iconst 0, 1) := by decide +kernel
theorem dX5_lay_67 : decode cX5_lay 67 = .ok (.ireturn, 1) := by decide +kernel
set_option maxRecDepth 20000 in
theorem ggX5_hour_X5_ice : GoodIn wsX5_hour wsX5_ice := goodIn_r _ [13, 14, 15, 16, 12, 17, 18, 19, 20, 21, 22, 23, 24, 25, 26, 27, 28, 29, 1, 30, 31, 32, 33, 46, 47, 48, 49, 50, 51, 52, 53, 54, 55, 56] (by decide +kernel) (by decide +kernel)
set_option maxRecDepth 20000 in
theorem gX5_hour_X5_ice : GoodIn wsX5_hour (wsV RX5 143 RX5 yX5_ice wsX5_ice) := goodIn_app (goodIn_of _ (by decide +kernel)) ggX5_hour_X5_ice
set_option maxRecDepth 20000 in
theorem ggX5_hour_J9_abs_294c1 : GoodIn wsX5_hour wsJ9_abs_294c1 := goodIn_r _ [37, 38, 39, 40, 41, 42, 43, 44, 45] (by decide +kernel) (by decide +kernel)
set_option maxRecDepth 20000 in
theorem gX5_hour_J9_abs_294c1 : GoodIn wsX5_hour (va_wsS RX5 149 yJ9_abs_294c1 wsJ9_abs_294c1) := goodIn_app (goodIn_of _ (by decide +kernel)) ggX5_hour_J9_abs_294c1
set_option maxRecDepth 20000 in
theorem ggX5_hour_X5_freezes : GoodIn wsX5_hour wsX5_freezes := goodIn_r _ [17, 18, 19, 20, 21, 22, 12, 23, 24, 25, 26, 27, 28, 29, 1, 30, 31, 32, 33, 46, 47, 48, 49, 50, 51, 52, 53, 54, 55, 56] (by decide +kernel) (by decide +kernel)
set_option maxRecDepth 20000 in
theorem gX5_hour_X5_freezes : GoodIn wsX5_hour (wsV RX5 105 RX5 yX5_freezes wsX5_freezes) := goodIn_app (goodIn_of _ (by decide +kernel)) ggX5_hour_X5_freezes
theorem dX5_hour_0 : decode cX5_hour 0 = .ok (.aload_n 0, 1) := by decide +kernel
theorem dX5_hour_1 : decode cX5_hour 1 = .ok (.getfield 22, 3) := by decide +kernel
theorem dX5_hour_4 : decode cX5_hour 4 = .ok (.astore_n 1, 1) := by decide +kernel
theorem dX5_hour_5 : decode cX5_hour 5 = .ok (.aload_n 1, 1) := by decide +kernel
theorem dX5_hour_6 : decode cX5_hour 6 = .ok (.arraylength, 1) := by decide +kernel
theorem dX5_hour_7 : decode cX5_hour 7 = .ok (.istore_n 2, 1) := by decide +kernel
theorem dX5_hour_8 : decode cX5_hour 8 = .ok (.iconst 0, 1) := by decide +kernel
theorem dX5_hour_9 : decode cX5_hour 9 = .ok (.istore_n 3, 1) := by decide +kernel
theorem dX5_hour_10 : decode cX5_hour 10 = .ok (.iload_n 3, 1) := by decide +kernel
theorem dX5_hour_11 : decode cX5_hour 11 = .ok (.iload_n 2, 1) := by decide +kernel
theorem dX5_hour_12 : decode cX5_hour 12 = .ok (.if_icmp .ge 23, 3) := by decide +kernel
theorem dX5_hour_15 : decode cX5_hour 15 = .ok (.aload_n 1, 1) := by decide +kernel
theorem dX5_hour_16 : decode cX5_hour 16 = .ok (.iload_n 3, 1) := by decide +kernel
theorem dX5_hour_17 : decode cX5_hour 17 = .ok (.aaload, 1) := by decide +kernel
theorem dX5_hour_18 : decode cX5_hour 18 = .ok (.astore 4, 2) := by decide +kernel
theorem dX5_hour_20 : decode cX5_hour 20 = .ok (.aload 4, 2) := by decide +kernel
theorem dX5_hour_22 : decode cX5_hour 22 = .ok (.bipush 8, 2) := by decide +kernel
theorem dX5_hour_24 : decode cX5_hour 24 = .ok (.dup2, 1) := by decide +kernel
theorem dX5_hour_25 : decode cX5_hour 25 = .ok (.iaload, 1) := by decide +kernel
theorem dX5_hour_26 : decode cX5_hour 26 = .ok (.iconst 1, 1) := by decide +kernel
theorem dX5_hour_27 : decode cX5_hour 27 = .ok (.iadd, 1) := by decide +kernel
theorem dX5_hour_28 : decode cX5_hour 28 = .ok (.iastore, 1) := by decide +kernel
theorem dX5_hour_29 : decode cX5_hour 29 = .ok (.iinc 3 1, 3) := by decide +kernel
theorem dX5_hour_32 : decode cX5_hour 32 = .ok (.goto (-22), 3) := by decide +kernel
theorem dX5_hour_35 : decode cX5_hour 35 = .ok (.aload_n 0, 1) := by decide +kernel
theorem dX5_hour_36 : decode cX5_hour 36 = .ok (.getfield 25, 3) := by decide +kernel
theorem dX5_hour_39 : decode cX5_hour 39 = .ok (.astore_n 1, 1) := by decide +kernel
theorem dX5_hour_40 : decode cX5_hour 40 = .ok (.aload_n 1, 1) := by decide +kernel
theorem dX5_hour_41 : decode cX5_hour 41 = .ok (.arraylength, 1) := by decide +kernel
theorem dX5_hour_42 : decode cX5_hour 42 = .ok (.istore_n 2, 1) := by decide +kernel
theorem dX5_hour_43 : decode cX5_hour 43 = .ok (.iconst 0, 1) := by decide +kernel
theorem dX5_hour_44 : decode cX5_hour 44 = .ok (.istore_n 3, 1) := by decide +kernel
theorem dX5_hour_45 : decode cX5_hour 45 = .ok (.iload_n 3, 1) := by decide +kernel
theorem dX5_hour_46 : decode cX5_hour 46 = .ok (.iload_n 2, 1) := by decide +kernel
theorem dX5_hour_47 : decode cX5_hour 47 = .ok (.if_icmp .ge 34, 3) := by decide +kernel
theorem dX5_hour_50 : decode cX5_hour 50 = .ok (.aload_n 1, 1) := by decide +kernel
theorem dX5_hour_51 : decode cX5_hour 51 = .ok (.iload_n 3, 1) := by decide +kernel
theorem dX5_hour_52 : decode cX5_hour 52 = .ok (.aaload, 1) := by decide +kernel
theorem dX5_hour_53 : decode cX5_hour 53 = .ok (.astore 4, 2) := by decide +kernel
theorem dX5_hour_55 : decode cX5_hour 55 = .ok (.aload 4, 2) := by decide +kernel
theorem dX5_hour_57 : decode cX5_hour 57 = .ok (.iconst 3, 1) := by decide +kernel
theorem dX5_hour_58 : decode cX5_hour 58 = .ok (.iaload, 1) := by decide +kernel
theorem dX5_hour_59 : decode cX5_hour 59 = .ok (.ifCond .ge 16, 3) := by decide +kernel
theorem dX5_hour_62 : decode cX5_hour 62 = .ok (.aload 4, 2) := by decide +kernel
theorem dX5_hour_64 : decode cX5_hour 64 = .ok (.iconst 2, 1) := by decide +kernel
theorem dX5_hour_65 : decode cX5_hour 65 = .ok (.iaload, 1) := by decide +kernel
theorem dX5_hour_66 : decode cX5_hour 66 = .ok (.ifCond .ne 9, 3) := by decide +kernel
theorem dX5_hour_69 : decode cX5_hour 69 = .ok (.aload 4, 2) := by decide +kernel
theorem dX5_hour_71 : decode cX5_hour 71 = .ok (.iconst 3, 1) := by decide +kernel
theorem dX5_hour_72 : decode cX5_hour 72 = .ok (.bipush 11, 2) := by decide +kernel
theorem dX5_hour_74 : decode cX5_hour 74 = .ok (.iastore, 1) := by decide +kernel
theorem dX5_hour_75 : decode cX5_hour 75 = .ok (.iinc 3 1, 3) := by decide +kernel
theorem dX5_hour_78 : decode cX5_hour 78 = .ok (.goto (-33), 3) := by decide +kernel
theorem dX5_hour_81 : decode cX5_hour 81 = .ok (.iconst 0, 1) := by decide +kernel
theorem dX5_hour_82 : decode cX5_hour 82 = .ok (.istore_n 1, 1) := by decide +kernel
theorem dX5_hour_83 : decode cX5_hour 83 = .ok (.iload_n 1, 1) := by decide +kernel
theorem dX5_hour_84 : decode cX5_hour 84 = .ok (.aload_n 0, 1) := by decide +kernel
theorem dX5_hour_85 : decode cX5_hour 85 = .ok (.getfield 32, 3) := by decide +kernel
theorem dX5_hour_88 : decode cX5_hour 88 = .ok (.arraylength, 1) := by decide +kernel
theorem dX5_hour_89 : decode cX5_hour 89 = .ok (.if_icmp .ge 147, 3) := by decide +kernel
theorem dX5_hour_92 : decode cX5_hour 92 = .ok (.aload_n 0, 1) := by decide +kernel
theorem dX5_hour_93 : decode cX5_hour 93 = .ok (.getfield 35, 3) := by decide +kernel
theorem dX5_hour_96 : decode cX5_hour 96 = .ok (.iload_n 1, 1) := by decide +kernel
theorem dX5_hour_97 : decode cX5_hour 97 = .ok (.daload, 1) := by decide +kernel
theorem dX5_hour_98 : decode cX5_hour 98 = .ok (.dstore_n 2, 1) := by decide +kernel
theorem dX5_hour_99 : decode cX5_hour 99 = .ok (.aload_n 0, 1) := by decide +kernel
theorem dX5_hour_100 : decode cX5_hour 100 = .ok (.getfield 35, 3) := by decide +kernel
theorem dX5_hour_103 : decode cX5_hour 103 = .ok (.iload_n 1, 1) := by decide +kernel
theorem dX5_hour_104 : decode cX5_hour 104 = .ok (.dup2, 1) := by decide +kernel
theorem dX5_hour_105 : decode cX5_hour 105 = .ok (.daload, 1) := by decide +kernel
theorem dX5_hour_106 : decode cX5_hour 106 = .ok (.aload_n 0, 1) := by decide +kernel
theorem dX5_hour_107 : decode cX5_hour 107 = .ok (.getfield 32, 3) := by decide +kernel
theorem dX5_hour_110 : decode cX5_hour 110 = .ok (.iload_n 1, 1) := by decide +kernel
theorem dX5_hour_111 : decode cX5_hour 111 = .ok (.iaload, 1) := by decide +kernel
theorem dX5_hour_112 : decode cX5_hour 112 = .ok (.i2d, 1) := by decide +kernel
theorem dX5_hour_113 : decode cX5_hour 113 = .ok (.dload_n 2, 1) := by decide +kernel
theorem dX5_hour_114 : decode cX5_hour 114 = .ok (.dsub, 1) := by decide +kernel
theorem dX5_hour_115 : decode cX5_hour 115 = .ok (.ldc2_w 129, 3) := by decide +kernel
theorem dX5_hour_118 : decode cX5_hour 118 = .ok (.dmul, 1) := by decide +kernel
theorem dX5_hour_119 : decode cX5_hour 119 = .ok (.dadd, 1) := by decide +kernel
theorem dX5_hour_120 : decode cX5_hour 120 = .ok (.dastore, 1) := by decide +kernel
theorem dX5_hour_121 : decode cX5_hour 121 = .ok (.iconst 0, 1) := by decide +kernel
theorem dX5_hour_122 : decode cX5_hour 122 = .ok (.istore 4, 2) := by decide +kernel
theorem dX5_hour_124 : decode cX5_hour 124 = .ok (.iload 4, 2) := by decide +kernel
theorem dX5_hour_126 : decode cX5_hour 126 = .ok (.aload_n 0, 1) := by decide +kernel
theorem dX5_hour_127 : decode cX5_hour 127 = .ok (.getfield 25, 3) := by decide +kernel
theorem dX5_hour_130 : decode cX5_hour 130 = .ok (.arraylength, 1) := by decide +kernel
theorem dX5_hour_131 : decode cX5_hour 131 = .ok (.if_icmp .ge 99, 3) := by decide +kernel
theorem dX5_hour_134 : decode cX5_hour 134 = .ok (.aload_n 0, 1) := by decide +kernel
theorem dX5_hour_135 : decode cX5_hour 135 = .ok (.getfield 25, 3) := by decide +kernel
theorem dX5_hour_138 : decode cX5_hour 138 = .ok (.iload 4, 2) := by decide +kernel
theorem dX5_hour_140 : decode cX5_hour 140 = .ok (.aaload, 1) := by decide +kernel
theorem dX5_hour_141 : decode cX5_hour 141 = .ok (.iconst 3, 1) := by decide +kernel
theorem dX5_hour_142 : decode cX5_hour 142 = .ok (.iaload, 1) := by decide +kernel
theorem dX5_hour_143 : decode cX5_hour 143 = .ok (.iload_n 1, 1) := by decide +kernel
theorem dX5_hour_144 : decode cX5_hour 144 = .ok (.if_icmp .eq 6, 3) := by decide +kernel
theorem dX5_hour_147 : decode cX5_hour 147 = .ok (.goto 77, 3) := by decide +kernel
theorem dX5_hour_150 : decode cX5_hour 150 = .ok (.aload_n 0, 1) := by decide +kernel
theorem dX5_hour_151 : decode cX5_hour 151 = .ok (.getfield 25, 3) := by decide +kernel
theorem dX5_hour_154 : decode cX5_hour 154 = .ok (.iload 4, 2) := by decide +kernel
theorem dX5_hour_156 : decode cX5_hour 156 = .ok (.aaload, 1) := by decide +kernel
theorem dX5_hour_157 : decode cX5_hour 157 = .ok (.iconst 0, 1) := by decide +kernel
theorem dX5_hour_158 : decode cX5_hour 158 = .ok (.iaload, 1) := by decide +kernel
theorem dX5_hour_159 : decode cX5_hour 159 = .ok (.istore 5, 2) := by decide +kernel
theorem dX5_hour_161 : decode cX5_hour 161 = .ok (.aload_n 0, 1) := by decide +kernel
theorem dX5_hour_162 : decode cX5_hour 162 = .ok (.iload 5, 2) := by decide +kernel
theorem dX5_hour_164 : decode cX5_hour 164 = .ok (.dload_n 2, 1) := by decide +kernel
theorem dX5_hour_165 : decode cX5_hour 165 = .ok (.invokevirtual 143, 3) := by decide +kernel
theorem dX5_hour_168 : decode cX5_hour 168 = .ok (.aload_n 0, 1) := by decide +kernel
theorem dX5_hour_169 : decode cX5_hour 169 = .ok (.iload 5, 2) := by decide +kernel
theorem dX5_hour_171 : decode cX5_hour 171 = .ok (.aload_n 0, 1) := by decide +kernel
theorem dX5_hour_172 : decode cX5_hour 172 = .ok (.getfield 35, 3) := by decide +kernel
theorem dX5_hour_175 : decode cX5_hour 175 = .ok (.iload_n 1, 1) := by decide +kernel
theorem dX5_hour_176 : decode cX5_hour 176 = .ok (.daload, 1) := by decide +kernel
theorem dX5_hour_177 : decode cX5_hour 177 = .ok (.invokevirtual 143, 3) := by decide +kernel
theorem dX5_hour_180 : decode cX5_hour 180 = .ok (.dsub, 1) := by decide +kernel
theorem dX5_hour_181 : decode cX5_hour 181 = .ok (.dstore 6, 2) := by decide +kernel
theorem dX5_hour_183 : decode cX5_hour 183 = .ok (.aload_n 0, 1) := by decide +kernel
theorem dX5_hour_184 : decode cX5_hour 184 = .ok (.getfield 28, 3) := by decide +kernel
theorem dX5_hour_187 : decode cX5_hour 187 = .ok (.iload 4, 2) := by decide +kernel
theorem dX5_hour_189 : decode cX5_hour 189 = .ok (.dup2, 1) := by decide +kernel
theorem dX5_hour_190 : decode cX5_hour 190 = .ok (.daload, 1) := by decide +kernel
theorem dX5_hour_191 : decode cX5_hour 191 = .ok (.ldc2_w 147, 3) := by decide +kernel
theorem dX5_hour_194 : decode cX5_hour 194 = .ok (.dload 6, 2) := by decide +kernel
theorem dX5_hour_196 : decode cX5_hour 196 = .ok (.invokestatic 149, 3) := by decide +kernel
theorem dX5_hour_199 : decode cX5_hour 199 = .ok (.dmul, 1) := by decide +kernel
theorem dX5_hour_200 : decode cX5_hour 200 = .ok (.dadd, 1) := by decide +kernel
theorem dX5_hour_201 : decode cX5_hour 201 = .ok (.dastore, 1) := by decide +kernel
theorem dX5_hour_202 : decode cX5_hour 202 = .ok (.dload_n 2, 1) := by decide +kernel
theorem dX5_hour_203 : decode cX5_hour 203 = .ok (.aload_n 0, 1) := by decide +kernel
theorem dX5_hour_204 : decode cX5_hour 204 = .ok (.iload 5, 2) := by decide +kernel
theorem dX5_hour_206 : decode cX5_hour 206 = .ok (.invokevirtual 105, 3) := by decide +kernel
theorem dX5_hour_209 : decode cX5_hour 209 = .ok (.dcmp .l, 1) := by decide +kernel
theorem dX5_hour_210 : decode cX5_hour 210 = .ok (.ifCond .lt 14, 3) := by decide +kernel
theorem dX5_hour_213 : decode cX5_hour 213 = .ok (.aload_n 0, 1) := by decide +kernel
theorem dX5_hour_214 : decode cX5_hour 214 = .ok (.getfield 25, 3) := by decide +kernel
theorem dX5_hour_217 : decode cX5_hour 217 = .ok (.iload 4, 2) := by decide +kernel
theorem dX5_hour_219 : decode cX5_hour 219 = .ok (.aaload, 1) := by decide +kernel
theorem dX5_hour_220 : decode cX5_hour 220 = .ok (.iconst 3, 1) := by decide +kernel
theorem dX5_hour_221 : decode cX5_hour 221 = .ok (.bipush 11, 2) := by decide +kernel
theorem dX5_hour_223 : decode cX5_hour 223 = .ok (.iastore, 1) := by decide +kernel
theorem dX5_hour_224 : decode cX5_hour 224 = .ok (.iinc 4 1, 3) := by decide +kernel
theorem dX5_hour_227 : decode cX5_hour 227 = .ok (.goto (-103), 3) := by decide +kernel
theorem dX5_hour_230 : decode cX5_hour 230 = .ok (.iinc 1 1, 3) := by decide +kernel
theorem dX5_hour_233 : decode cX5_hour 233 = .ok (.goto (-150), 3) := by decide +kernel
theorem dX5_hour_236 : decode cX5_hour 236 = .ok (.aload_n 0, 1) := by decide +kernel
theorem dX5_hour_237 : decode cX5_hour 237 = .ok (.getfield 41, 3) := by decide +kernel
theorem dX5_hour_240 : decode cX5_hour 240 = .ok (.iconst 0, 1) := by decide +kernel
theorem dX5_hour_241 : decode cX5_hour 241 = .ok (.dup2, 1) := by decide +kernel
theorem dX5_hour_242 : decode cX5_hour 242 = .ok (.iaload, 1) := by decide +kernel
theorem dX5_hour_243 : decode cX5_hour 243 = .ok (.iconst 1, 1) := by decide +kernel
theorem dX5_hour_244 : decode cX5_hour 244 = .ok (.iadd, 1) := by decide +kernel
theorem dX5_hour_245 : decode cX5_hour 245 = .ok (.iastore, 1) := by decide +kernel
theorem dX5_hour_246 : decode cX5_hour 246 = .ok (.return_, 1) := by decide +kernel
set_option maxRecDepth 20000 in
theorem ggX5_pass_X5_hour : GoodIn wsX5_pass wsX5_hour := goodIn_r _ [6, 7, 8, 9, 10, 11, 12, 13, 14, 15, 16, 17, 5, 18, 19, 20, 21, 22, 23, 24, 25, 26, 27, 28, 29, 30, 31, 32, 33, 34, 35, 36, 37, 38, 39, 40, 41, 42, 43, 44, 45, 46, 47, 48, 49, 50, 103, 104, 105, 106, 107, 108, 109, 110, 111, 112, 113] (by decide +kernel) (by decide +kernel)
set_option maxRecDepth 20000 in
theorem gX5_pass_X5_hour : GoodIn wsX5_pass (wsV RX5 155 RX5 yX5_hour wsX5_hour) := goodIn_app (goodIn_of _ (by decide +kernel)) ggX5_pass_X5_hour
set_option maxRecDepth 20000 in
theorem ggX5_pass_X4_pass : GoodIn wsX5_pass wsX4_pass := goodIn_ca (goodIn_r _ [55, 56, 57, 54, 58, 59, 60, 61, 62, 63, 64, 65, 66, 67, 68, 69, 70, 71, 72, 73, 74, 75, 76, 77, 78, 79, 80, 81, 82, 83, 84, 85, 86, 87, 88, 89, 90, 91, 92, 93, 94, 95, 96, 97, 98, 114, 115, 116, 117, 118, 119, 120, 121, 122, 123, 124, 125, 126, 127, 128, 129, 130, 131, 132, 133, 134, 135, 136, 137, 138, 139, 140, 141, 142, 143, 144, 145, 146] (by decide +kernel) (by decide +kernel)) (goodIn_sub (fun _ h => List.mem_cons_of_mem _ (List.mem_append_right _ h)) (by decide +kernel))
set_option maxRecDepth 20000 in
theorem gX5_pass_X4_pass : GoodIn wsX5_pass (wsV RX5 158 RX4 yX4_pass wsX4_pass) := goodIn_app (goodIn_of _ (by decide +kernel)) ggX5_pass_X4_pass
set_option maxRecDepth 20000 in
theorem ggX5_pass_X5_in : GoodIn wsX5_pass wsX5_in := goodIn_r _ [102, 8, 103, 104, 105, 106, 107, 108, 109, 110, 111, 112, 113] (by decide +kernel) (by decide +kernel)
set_option maxRecDepth 20000 in
theorem gX5_pass_X5_in : GoodIn wsX5_pass (wsV RX5 140 RX5 yX5_in wsX5_in) := goodIn_app (goodIn_of _ (by decide +kernel)) ggX5_pass_X5_in
theorem dX5_pass_0 : decode cX5_pass 0 = .ok (.iconst 0, 1) := by decide +kernel
theorem dX5_pass_1 : decode cX5_pass 1 = .ok (.istore_n 2, 1) := by decide +kernel
theorem dX5_pass_2 : decode cX5_pass 2 = .ok (.iload_n 2, 1) := by decide +kernel
theorem dX5_pass_3 : decode cX5_pass 3 = .ok (.iload_n 1, 1) := by decide +kernel
theorem dX5_pass_4 : decode cX5_pass 4 = .ok (.if_icmp .ge 13, 3) := by decide +kernel
theorem dX5_pass_7 : decode cX5_pass 7 = .ok (.aload_n 0, 1) := by decide +kernel
theorem dX5_pass_8 : decode cX5_pass 8 = .ok (.invokevirtual 155, 3) := by decide +kernel
theorem dX5_pass_11 : decode cX5_pass 11 = .ok (.iinc 2 1, 3) := by decide +kernel
theorem dX5_pass_14 : decode cX5_pass 14 = .ok (.goto (-12), 3) := by decide +kernel
theorem dX5_pass_17 : decode cX5_pass 17 = .ok (.aload_n 0, 1) := by decide +kernel
theorem dX5_pass_18 : decode cX5_pass 18 = .ok (.getfield 10, 3) := by decide +kernel
theorem dX5_pass_21 : decode cX5_pass 21 = .ok (.iload_n 1, 1) := by decide +kernel
theorem dX5_pass_22 : decode cX5_pass 22 = .ok (.invokevirtual 158, 3) := by decide +kernel
theorem dX5_pass_25 : decode cX5_pass 25 = .ok (.aload_n 0, 1) := by decide +kernel
theorem dX5_pass_26 : decode cX5_pass 26 = .ok (.bipush 11, 2) := by decide +kernel
theorem dX5_pass_28 : decode cX5_pass 28 = .ok (.invokevirtual 140, 3) := by decide +kernel
theorem dX5_pass_31 : decode cX5_pass 31 = .ok (.if_icmp .ne 7, 3) := by decide +kernel
theorem dX5_pass_34 : decode cX5_pass 34 = .ok (.iconst 1, 1) := by decide +kernel
theorem dX5_pass_35 : decode cX5_pass 35 = .ok (.goto 4, 3) := by decide +kernel
theorem dX5_pass_38 : decode cX5_pass 38 = .ok (.iconst 0, 1) := by decide +kernel
theorem dX5_pass_39 : decode cX5_pass 39 = .ok (.ireturn, 1) := by decide +kernel
set_option maxRecDepth 20000 in
theorem ggX5_wash_X5_draw : GoodIn wsX5_wash wsX5_draw := goodIn_r _ [8, 9, 10, 11, 12, 13, 14, 15, 16, 17, 30, 31, 32, 33, 34, 35, 36, 37, 38, 39, 40] (by decide +kernel) (by decide +kernel)
set_option maxRecDepth 20000 in
theorem gX5_wash_X5_draw : GoodIn wsX5_wash (wsV RX5 67 RX5 yX5_draw wsX5_draw) := goodIn_app (goodIn_of _ (by decide +kernel)) ggX5_wash_X5_draw
set_option maxRecDepth 20000 in
theorem ggX5_wash_X4_wash : GoodIn wsX5_wash wsX4_wash := goodIn_ca (goodIn_r _ [22, 23, 24, 25, 26, 21, 27, 28, 29, 41, 42, 43, 44, 45, 46, 47, 48, 49, 50, 51, 52, 53, 54] (by decide +kernel) (by decide +kernel)) (goodIn_sub (fun _ h => List.mem_cons_of_mem _ (List.mem_append_right _ h)) (by decide +kernel))
set_option maxRecDepth 20000 in
theorem gX5_wash_X4_wash : GoodIn wsX5_wash (wsV RX5 182 RX4 yX4_wash wsX4_wash) := goodIn_app (goodIn_of _ (by decide +kernel)) ggX5_wash_X4_wash
theorem dX5_wash_0 : decode cX5_wash 0 = .ok (.aload_n 0, 1) := by decide +kernel
theorem dX5_wash_1 : decode cX5_wash 1 = .ok (.iconst 2, 1) := by decide +kernel
theorem dX5_wash_2 : decode cX5_wash 2 = .ok (.invokevirtual 67, 3) := by decide +kernel
theorem dX5_wash_5 : decode cX5_wash 5 = .ok (.istore_n 1, 1) := by decide +kernel
theorem dX5_wash_6 : decode cX5_wash 6 = .ok (.aload_n 0, 1) := by decide +kernel
theorem dX5_wash_7 : decode cX5_wash 7 = .ok (.getfield 38, 3) := by decide +kernel
theorem dX5_wash_10 : decode cX5_wash 10 = .ok (.iload_n 1, 1) := by decide +kernel
theorem dX5_wash_11 : decode cX5_wash 11 = .ok (.iaload, 1) := by decide +kernel
theorem dX5_wash_12 : decode cX5_wash 12 = .ok (.istore_n 2, 1) := by decide +kernel
theorem dX5_wash_13 : decode cX5_wash 13 = .ok (.aload_n 0, 1) := by decide +kernel
theorem dX5_wash_14 : decode cX5_wash 14 = .ok (.getfield 38, 3) := by decide +kernel
theorem dX5_wash_17 : decode cX5_wash 17 = .ok (.iload_n 1, 1) := by decide +kernel
theorem dX5_wash_18 : decode cX5_wash 18 = .ok (.iconst 0, 1) := by decide +kernel
theorem dX5_wash_19 : decode cX5_wash 19 = .ok (.iastore, 1) := by decide +kernel
theorem dX5_wash_20 : decode cX5_wash 20 = .ok (.aload_n 0, 1) := by decide +kernel
theorem dX5_wash_21 : decode cX5_wash 21 = .ok (.getfield 41, 3) := by decide +kernel
theorem dX5_wash_24 : decode cX5_wash 24 = .ok (.iconst 2, 1) := by decide +kernel
theorem dX5_wash_25 : decode cX5_wash 25 = .ok (.dup2, 1) := by decide +kernel
theorem dX5_wash_26 : decode cX5_wash 26 = .ok (.iaload, 1) := by decide +kernel
theorem dX5_wash_27 : decode cX5_wash 27 = .ok (.iconst 1, 1) := by decide +kernel
theorem dX5_wash_28 : decode cX5_wash 28 = .ok (.iadd, 1) := by decide +kernel
theorem dX5_wash_29 : decode cX5_wash 29 = .ok (.iastore, 1) := by decide +kernel
theorem dX5_wash_30 : decode cX5_wash 30 = .ok (.aload_n 0, 1) := by decide +kernel
theorem dX5_wash_31 : decode cX5_wash 31 = .ok (.getfield 10, 3) := by decide +kernel
theorem dX5_wash_34 : decode cX5_wash 34 = .ok (.iload_n 1, 1) := by decide +kernel
theorem dX5_wash_35 : decode cX5_wash 35 = .ok (.invokevirtual 182, 3) := by decide +kernel
theorem dX5_wash_38 : decode cX5_wash 38 = .ok (.iload_n 2, 1) := by decide +kernel
theorem dX5_wash_39 : decode cX5_wash 39 = .ok (.if_icmp .ne 7, 3) := by decide +kernel
theorem dX5_wash_42 : decode cX5_wash 42 = .ok (.iconst 1, 1) := by decide +kernel
theorem dX5_wash_43 : decode cX5_wash 43 = .ok (.goto 4, 3) := by decide +kernel
theorem dX5_wash_46 : decode cX5_wash 46 = .ok (.iconst 0, 1) := by decide +kernel
theorem dX5_wash_47 : decode cX5_wash 47 = .ok (.ireturn, 1) := by decide +kernel
set_option maxRecDepth 20000 in
theorem ggX5_founded_X5_ingredient : GoodIn wsX5_founded wsX5_ingredient := goodIn_ca (goodIn_ca (goodIn_r _ [5, 6, 7, 8, 9, 10, 11, 4, 12, 13, 14, 15, 16, 17, 18, 19, 20, 21, 22, 23, 24, 25, 26, 27, 28, 29, 30, 31, 32, 33, 34, 35, 36, 37, 38, 39, 40, 41, 42, 43, 44, 45, 46, 123, 124, 125, 126, 127, 128, 129, 130, 131, 132, 133, 134, 135, 136, 137, 138, 139, 140, 141, 142, 143, 144, 145, 146, 147, 148, 149, 150, 151, 152] (by decide +kernel) (by decide +kernel)) (goodIn_sub (fun _ h => List.mem_cons_of_mem _ (List.mem_append_left _ (List.mem_append_left _ (List.mem_append_right _ h)))) (by decide +kernel))) (goodIn_sub (fun _ h => List.mem_cons_of_mem _ (List.mem_append_left _ (List.mem_append_right _ h))) (by decide +kernel))
set_option maxRecDepth 20000 in
theorem gX5_founded_X5_ingredient : GoodIn wsX5_founded (wsV RX5 185 RX5 yX5_ingredient wsX5_ingredient) := goodIn_app (goodIn_of _ (by decide +kernel)) ggX5_founded_X5_ingredient
set_option maxRecDepth 20000 in
theorem ggX5_founded_X5_mix : GoodIn wsX5_founded wsX5_mix := goodIn_ca (goodIn_ca (goodIn_ca (goodIn_r _ [50, 7, 6, 51, 8, 9, 10, 11, 4, 12, 13, 14, 15, 16, 17, 18, 19, 20, 21, 22, 23, 24, 25, 26, 27, 28, 29, 52, 53, 54, 33, 55, 35, 56, 57, 36, 58, 59, 60, 61, 62, 37, 38, 39, 40, 41, 42, 43, 44, 45, 46, 63, 64, 65, 66, 67, 68, 69, 70, 71, 72, 73, 74, 75, 76, 77, 78, 79, 80, 81, 82, 83, 84, 85, 86, 87, 88, 89, 90, 91, 92, 93, 94, 95, 96, 97, 98, 99, 123, 124, 125, 126, 127, 128, 129, 130, 131, 132, 133, 134, 135, 136, 137, 138, 139, 140, 141, 142, 143, 144, 145, 146, 147, 153, 154, 155, 156, 157, 158, 159, 160, 161, 162, 163, 164, 148, 149, 150, 151, 152] (by decide +kernel) (by decide +kernel)) (goodIn_sub (fun _ h => List.mem_cons_of_mem _ (List.mem_append_right _ h)) (by decide +kernel))) (goodIn_sub (fun _ h => List.mem_cons_of_mem _ (List.mem_append_left _ (List.mem_append_left _ (List.mem_append_right _ h)))) (by decide +kernel))) (goodIn_sub (fun _ h => List.mem_cons_of_mem _ (List.mem_append_left _ (List.mem_append_right _ h))) (by decide +kernel))
set_option maxRecDepth 20000 in
theorem gX5_founded_X5_mix : GoodIn wsX5_founded (wsV RX5 188 RX5 yX5_mix wsX5_mix) := goodIn_app (goodIn_of _ (by decide +kernel)) ggX5_founded_X5_mix
set_option maxRecDepth 20000 in
theorem ggX5_founded_X5_heat : GoodIn wsX5_founded wsX5_heat := goodIn_ca (goodIn_ca (goodIn_r _ [103, 51, 8, 9, 10, 11, 4, 12, 13, 14, 15, 16, 17, 18, 19, 20, 21, 104, 105, 106, 33, 107, 56, 57, 58, 59, 60, 61, 62, 37, 38, 39, 40, 41, 108, 109, 110, 123, 124, 125, 126, 127, 128, 129, 130, 131, 132, 133, 134, 135, 136, 137, 138, 139, 140, 141, 142, 143, 144, 145, 146, 147, 153, 154, 155, 156, 157, 158, 159, 160, 161, 162, 163, 164] (by decide +kernel) (by decide +kernel)) (goodIn_sub (fun _ h => List.mem_cons_of_mem _ (List.mem_append_right _ h)) (by decide +kernel))) (goodIn_sub (fun _ h => List.mem_cons_of_mem _ (List.mem_append_left _ (List.mem_append_left _ (List.mem_append_right _ h)))) (by decide +kernel))
set_option maxRecDepth 20000 in
theorem gX5_founded_X5_heat : GoodIn wsX5_founded (wsV RX5 190 RX5 yX5_heat wsX5_heat) := goodIn_app (goodIn_of _ (by decide +kernel)) ggX5_founded_X5_heat
set_option maxRecDepth 20000 in
theorem ggX5_founded_X5_store : GoodIn wsX5_founded wsX5_store := goodIn_ca (goodIn_ca (goodIn_r _ [114, 115, 7, 26, 27, 28, 29, 116, 8, 9, 10, 11, 4, 12, 13, 14, 15, 16, 17, 18, 19, 20, 21, 117, 118, 119, 33, 120, 121, 122, 37, 38, 39, 40, 41, 42, 43, 44, 45, 46, 123, 124, 125, 126, 127, 128, 129, 130, 131, 132, 133, 134, 135, 136, 137, 138, 139, 140, 141, 142, 143, 144, 145, 146, 147, 165, 166] (by decide +kernel) (by decide +kernel)) (goodIn_sub (fun _ h => List.mem_cons_of_mem _ (List.mem_append_left _ (List.mem_append_left _ (List.mem_append_right _ h)))) (by decide +kernel))) (goodIn_sub (fun _ h => List.mem_cons_of_mem _ (List.mem_append_left _ (List.mem_append_right _ h))) (by decide +kernel))
set_option maxRecDepth 20000 in
theorem gX5_founded_X5_store : GoodIn wsX5_founded (wsV RX5 192 RX5 yX5_store wsX5_store) := goodIn_app (goodIn_of _ (by decide +kernel)) ggX5_founded_X5_store
theorem dX5_founded_0 : decode cX5_founded 0 = .ok (.iconst 0, 1) := by decide +kernel
theorem dX5_founded_1 : decode cX5_founded 1 = .ok (.istore_n 1, 1) := by decide +kernel
theorem dX5_founded_2 : decode cX5_founded 2 = .ok (.iload_n 1, 1) := by decide +kernel
theorem dX5_founded_3 : decode cX5_founded 3 = .ok (.iconst 4, 1) := by decide +kernel
theorem dX5_founded_4 : decode cX5_founded 4 = .ok (.if_icmp .ge 18, 3) := by decide +kernel
theorem dX5_founded_7 : decode cX5_founded 7 = .ok (.aload_n 0, 1) := by decide +kernel
theorem dX5_founded_8 : decode cX5_founded 8 = .ok (.invokevirtual 185, 3) := by decide +kernel
theorem dX5_founded_11 : decode cX5_founded 11 = .ok (.ifCond .ne 5, 3) := by decide +kernel
theorem dX5_founded_14 : decode cX5_founded 14 = .ok (.iconst 0, 1) := by decide +kernel
theorem dX5_founded_15 : decode cX5_founded 15 = .ok (.ireturn, 1) := by decide +kernel
theorem dX5_founded_16 : decode cX5_founded 16 = .ok (.iinc 1 1, 3) := by decide +kernel
theorem dX5_founded_19 : decode cX5_founded 19 = .ok (.goto (-17), 3) := by decide +kernel
theorem dX5_founded_22 : decode cX5_founded 22 = .ok (.iconst 0, 1) := by decide +kernel
theorem dX5_founded_23 : decode cX5_founded 23 = .ok (.istore_n 1, 1) := by decide +kernel
theorem dX5_founded_24 : decode cX5_founded 24 = .ok (.iload_n 1, 1) := by decide +kernel
theorem dX5_founded_25 : decode cX5_founded 25 = .ok (.iconst 3, 1) := by decide +kernel
theorem dX5_founded_26 : decode cX5_founded 26 = .ok (.if_icmp .ge 26, 3) := by decide +kernel
theorem dX5_founded_29 : decode cX5_founded 29 = .ok (.aload_n 0, 1) := by decide +kernel
theorem dX5_founded_30 : decode cX5_founded 30 = .ok (.invokevirtual 188, 3) := by decide +kernel
theorem dX5_founded_33 : decode cX5_founded 33 = .ok (.ifCond .eq 11, 3) := by decide +kernel
theorem dX5_founded_36 : decode cX5_founded 36 = .ok (.aload_n 0, 1) := by decide +kernel
theorem dX5_founded_37 : decode cX5_founded 37 = .ok (.iload_n 1, 1) := by decide +kernel
theorem dX5_founded_38 : decode cX5_founded 38 = .ok (.invokevirtual 190, 3) := by decide +kernel
theorem dX5_founded_41 : decode cX5_founded 41 = .ok (.ifCond .ne 5, 3) := by decide +kernel
theorem dX5_founded_44 : decode cX5_founded 44 = .ok (.iconst 0, 1) := by decide +kernel
theorem dX5_founded_45 : decode cX5_founded 45 = .ok (.ireturn, 1) := by decide +kernel
theorem dX5_founded_46 : decode cX5_founded 46 = .ok (.iinc 1 1, 3) := by decide +kernel
theorem dX5_founded_49 : decode cX5_founded 49 = .ok (.goto (-25), 3) := by decide +kernel
theorem dX5_founded_52 : decode cX5_founded 52 = .ok (.aload_n 0, 1) := by decide +kernel
theorem dX5_founded_53 : decode cX5_founded 53 = .ok (.invokevirtual 192, 3) := by decide +kernel
theorem dX5_founded_56 : decode cX5_founded 56 = .ok (.ifCond .eq 14, 3) := by decide +kernel
theorem dX5_founded_59 : decode cX5_founded 59 = .ok (.aload_n 0, 1) := by decide +kernel
theorem dX5_founded_60 : decode cX5_founded 60 = .ok (.invokevirtual 192, 3) := by decide +kernel
theorem dX5_founded_63 : decode cX5_founded 63 = .ok (.ifCond .eq 7, 3) := by decide +kernel
theorem dX5_founded_66 : decode cX5_founded 66 = .ok (.iconst 1, 1) := by decide +kernel
theorem dX5_founded_67 : decode cX5_founded 67 = .ok (.goto 4, 3) := by decide +kernel
theorem dX5_founded_70 : decode cX5_founded 70 = .ok (.iconst 0, 1) := by decide +kernel
theorem dX5_founded_71 : decode cX5_founded 71 = .ok (.ireturn, 1) := by decide +kernel
theorem dL_below_0 : decode cL_below 0 = .ok (.iload_n 0, 1) := by decide +kernel
theorem dL_below_1 : decode cL_below 1 = .ok (.ldc 7, 2) := by decide +kernel
theorem dL_below_3 : decode cL_below 3 = .ok (.iand, 1) := by decide +kernel
theorem dL_below_4 : decode cL_below 4 = .ok (.iload_n 1, 1) := by decide +kernel
theorem dL_below_5 : decode cL_below 5 = .ok (.irem, 1) := by decide +kernel
theorem dL_below_6 : decode cL_below 6 = .ok (.ireturn, 1) := by decide +kernel
theorem dL_cell_0 : decode cL_cell 0 = .ok (.iload_n 1, 1) := by decide +kernel
theorem dL_cell_1 : decode cL_cell 1 = .ok (.aload_n 0, 1) := by decide +kernel
theorem dL_cell_2 : decode cL_cell 2 = .ok (.arraylength, 1) := by decide +kernel
theorem dL_cell_3 : decode cL_cell 3 = .ok (.if_icmp .ge 9, 3) := by decide +kernel
theorem dL_cell_6 : decode cL_cell 6 = .ok (.aload_n 0, 1) := by decide +kernel
theorem dL_cell_7 : decode cL_cell 7 = .ok (.iload_n 1, 1) := by decide +kernel
theorem dL_cell_8 : decode cL_cell 8 = .ok (.iaload, 1) := by decide +kernel
theorem dL_cell_9 : decode cL_cell 9 = .ok (.goto 9, 3) := by decide +kernel
theorem dL_cell_12 : decode cL_cell 12 = .ok (.ldc 8, 2) := by decide +kernel
theorem dL_cell_14 : decode cL_cell 14 = .ok (.iload_n 1, 1) := by decide +kernel
theorem dL_cell_15 : decode cL_cell 15 = .ok (.iconst 3, 1) := by decide +kernel
theorem dL_cell_16 : decode cL_cell 16 = .ok (.iadd, 1) := by decide +kernel
theorem dL_cell_17 : decode cL_cell 17 = .ok (.imul, 1) := by decide +kernel
theorem dL_cell_18 : decode cL_cell 18 = .ok (.ireturn, 1) := by decide +kernel
set_option maxRecDepth 20000 in
theorem ggL_law_X5_init : GoodIn wsL_law wsX5_init := goodIn_r _ [13, 14, 15, 16, 17, 18, 19, 20, 21, 22, 23, 24, 7, 25, 6, 26, 27, 28, 29, 30, 31, 32, 33, 34, 35, 36, 37, 38, 39, 40, 41, 42, 43, 44, 45, 46, 47, 48, 49, 50, 51, 52, 53, 54, 55, 56, 57, 58, 59, 60, 61, 62, 63, 64, 65, 66, 67, 68, 69, 70, 71, 72, 73, 74, 75, 76, 77, 78, 79, 80, 81, 82, 83, 84, 85, 86, 87, 88, 89, 90, 91, 92, 93, 94, 95, 96, 97, 443, 444, 445, 446, 447, 448, 449, 450, 451, 452, 453, 454, 455, 456, 432, 433, 434, 435, 436, 437, 438, 439, 440, 441, 442, 457, 458, 459, 460, 461, 462, 463, 464, 465, 466, 467, 468, 469, 470, 471, 472, 473, 474, 475, 476, 477, 478, 479, 480] (by decide +kernel) (by decide +kernel)
set_option maxRecDepth 20000 in
theorem gL_law_X5_init : GoodIn wsL_law (wsX5_init) := ggL_law_X5_init
set_option maxRecDepth 20000 in
theorem ggL_law_X5_founded : GoodIn wsL_law wsX5_founded := goodIn_ca (goodIn_ca (goodIn_ca (goodIn_r _ [101, 102, 103, 104, 2, 105, 22, 6, 20, 106, 107, 108, 109, 30, 31, 110, 111, 112, 113, 114, 115, 116, 117, 118, 119, 21, 120, 121, 122, 123, 124, 125, 126, 19, 127, 45, 37, 128, 129, 130, 131, 132, 133, 134, 135, 136, 137, 138, 139, 140, 141, 23, 142, 143, 144, 145, 46, 39, 146, 147, 148, 149, 150, 151, 57, 152, 153, 73, 74, 75, 76, 77, 78, 79, 80, 83, 154, 155, 84, 156, 157, 158, 159, 160, 161, 162, 163, 164, 165, 166, 167, 168, 169, 170, 171, 172, 173, 174, 175, 176, 177, 178, 179, 180, 181, 182, 183, 184, 185, 186, 187, 188, 189, 190, 191, 26, 27, 192, 193, 194, 195, 48, 43, 432, 433, 434, 435, 436, 437, 438, 439, 440, 441, 442, 443, 444, 445, 446, 447, 448, 449, 450, 451, 452, 453, 454, 455, 456, 457, 458, 459, 460, 461, 462, 463, 464, 465, 466, 467, 468, 469, 470, 471, 472, 473, 479, 480] (by decide +kernel) (by decide +kernel)) (goodIn_sub (fun _ h => List.mem_append_left _ (List.mem_append_left _ (List.mem_append_right _ h))) (by decide +kernel))) (goodIn_sub (fun _ h => List.mem_append_left _ (List.mem_append_right _ h)) (by decide +kernel))) (goodIn_sub (fun _ h => List.mem_append_right _ h) (by decide +kernel))
set_option maxRecDepth 20000 in
theorem gL_law_X5_founded : GoodIn wsL_law (wsV RL 18 RX5 yX5_founded wsX5_founded) := goodIn_app (goodIn_of _ (by decide +kernel)) ggL_law_X5_founded
set_option maxRecDepth 20000 in
theorem ggL_law_X5_mix : GoodIn wsL_law wsX5_mix := goodIn_ca (goodIn_ca (goodIn_ca (goodIn_r _ [141, 6, 22, 23, 20, 106, 107, 108, 2, 109, 30, 31, 110, 111, 112, 113, 114, 115, 116, 117, 118, 119, 21, 120, 121, 122, 123, 142, 143, 144, 19, 145, 45, 46, 39, 37, 146, 147, 148, 149, 150, 128, 129, 130, 131, 132, 133, 134, 135, 136, 137, 151, 57, 152, 153, 73, 74, 75, 76, 77, 78, 79, 80, 83, 154, 155, 84, 156, 157, 158, 159, 160, 161, 162, 163, 164, 165, 166, 167, 168, 169, 170, 171, 172, 173, 174, 175, 176, 432, 433, 434, 435, 436, 437, 438, 439, 440, 441, 442, 443, 444, 445, 446, 447, 448, 449, 450, 451, 452, 453, 454, 455, 456, 462, 463, 464, 465, 466, 467, 468, 469, 470, 471, 472, 473, 457, 458, 459, 460, 461] (by decide +kernel) (by decide +kernel)) (goodIn_sub (fun _ h => List.mem_append_right _ h) (by decide +kernel))) (goodIn_sub (fun _ h => List.mem_append_left _ (List.mem_append_left _ (List.mem_append_right _ h))) (by decide +kernel))) (goodIn_sub (fun _ h => List.mem_append_left _ (List.mem_append_right _ h)) (by decide +kernel))
set_option maxRecDepth 20000 in
theorem gL_law_X5_mix : GoodIn wsL_law (wsV RL 22 RX5 yX5_mix wsX5_mix) := goodIn_app (goodIn_of _ (by decide +kernel)) ggL_law_X5_mix
set_option maxRecDepth 20000 in
theorem ggL_law_X5_pass : GoodIn wsL_law wsX5_pass := goodIn_ca (goodIn_r _ [200, 20, 201, 202, 203, 2, 204, 23, 24, 26, 27, 205, 25, 206, 29, 207, 208, 209, 210, 211, 212, 213, 214, 215, 216, 217, 218, 219, 220, 221, 169, 170, 171, 172, 22, 165, 166, 167, 168, 222, 223, 224, 225, 226, 227, 228, 229, 230, 231, 232, 233, 234, 235, 236, 19, 237, 128, 129, 130, 131, 132, 238, 239, 240, 241, 46, 39, 47, 41, 48, 49, 242, 243, 244, 245, 43, 246, 61, 247, 248, 96, 249, 250, 57, 251, 252, 253, 254, 255, 256, 257, 84, 258, 259, 260, 261, 262, 263, 264, 265, 266, 267, 268, 432, 433, 434, 435, 436, 437, 438, 439, 440, 441, 442, 443, 444, 445, 446, 447, 448, 449, 450, 451, 452, 453, 454, 455, 456, 462, 463, 464, 465, 466, 467, 468, 469, 470, 471, 472, 473, 474, 475, 476, 477, 478, 479, 480] (by decide +kernel) (by decide +kernel)) (goodIn_sub (fun _ h => List.mem_append_left _ (List.mem_append_left _ (List.mem_append_right _ h))) (by decide +kernel))
set_option maxRecDepth 20000 in
theorem gL_law_X5_pass : GoodIn wsL_law (wsV RL 25 RX5 yX5_pass wsX5_pass) := goodIn_app (goodIn_of _ (by decide +kernel)) ggL_law_X5_pass
set_option maxRecDepth 20000 in
theorem ggL_law_X4_heat : GoodIn wsL_law wsX4_heat := goodIn_ca (goodIn_ca (goodIn_r _ [184, 46, 39, 146, 147, 19, 148, 149, 150, 128, 129, 130, 131, 132, 185, 186, 187, 443, 444, 445, 446, 447, 448, 449, 450, 451, 452, 453, 454, 455, 456, 462, 463, 464, 465, 466, 467, 468, 469, 470, 471, 472, 473] (by decide +kernel) (by decide +kernel)) (goodIn_sub (fun _ h => List.mem_append_right _ h) (by decide +kernel))) (goodIn_sub (fun _ h => List.mem_append_left _ (List.mem_append_left _ (List.mem_append_right _ h))) (by decide +kernel))
set_option maxRecDepth 20000 in
theorem gL_law_X4_heat : GoodIn wsL_law (wsV RL 29 RX4 yX4_heat wsX4_heat) := goodIn_app (goodIn_of _ (by decide +kernel)) ggL_law_X4_heat
set_option maxRecDepth 20000 in
theorem ggL_law_X4_ofMix : GoodIn wsL_law wsX4_ofMix := goodIn_ca (goodIn_ca (goodIn_r _ [273, 46, 39, 146, 147, 19, 148, 149, 150, 128, 129, 130, 131, 132, 274, 57, 275, 276, 75, 160, 76, 277, 156, 157, 158, 159, 73, 443, 444, 445, 446, 447, 448, 449, 450, 451, 452, 453, 454, 455, 456, 462, 463, 464, 465, 466, 467, 468, 469, 470, 471, 472, 473] (by decide +kernel) (by decide +kernel)) (goodIn_sub (fun _ h => List.mem_append_right _ h) (by decide +kernel))) (goodIn_sub (fun _ h => List.mem_append_left _ (List.mem_append_left _ (List.mem_append_right _ h))) (by decide +kernel))
set_option maxRecDepth 20000 in
theorem gL_law_X4_ofMix : GoodIn wsL_law (wsV RL 35 RX4 yX4_ofMix wsX4_ofMix) := goodIn_app (goodIn_of _ (by decide +kernel)) ggL_law_X4_ofMix
set_option maxRecDepth 20000 in
theorem ggL_law_X5_run : GoodIn wsL_law wsX5_run := goodIn_ca (goodIn_ca (goodIn_r _ [281, 23, 20, 28, 25, 24, 282, 6, 106, 107, 108, 2, 109, 30, 31, 110, 111, 112, 113, 114, 115, 116, 283, 284, 285, 286, 287, 288, 289, 290, 22, 291, 292, 293, 294, 169, 170, 171, 172, 165, 166, 167, 168, 295, 296, 297, 19, 298, 46, 39, 44, 47, 146, 147, 148, 149, 150, 128, 129, 130, 131, 132, 274, 57, 275, 276, 75, 160, 76, 277, 156, 157, 158, 159, 73, 299, 300, 301, 302, 41, 303, 304, 117, 118, 119, 21, 120, 121, 122, 123, 432, 433, 434, 435, 436, 437, 438, 439, 440, 441, 442, 443, 444, 445, 446, 447, 448, 449, 450, 451, 452, 453, 454, 455, 456, 462, 463, 464, 465, 466, 467, 468, 469, 470, 471, 472, 473, 474, 475, 476, 477, 478] (by decide +kernel) (by decide +kernel)) (goodIn_sub (fun _ h => List.mem_append_right _ h) (by decide +kernel))) (goodIn_sub (fun _ h => List.mem_append_left _ (List.mem_append_left _ (List.mem_append_right _ h))) (by decide +kernel))
set_option maxRecDepth 20000 in
theorem gL_law_X5_run : GoodIn wsL_law (wsV RL 43 RX5 yX5_run wsX5_run) := goodIn_app (goodIn_of _ (by decide +kernel)) ggL_law_X5_run
set_option maxRecDepth 20000 in
theorem ggL_law_X5_wash : GoodIn wsL_law wsX5_wash := goodIn_ca (goodIn_r _ [308, 28, 29, 20, 106, 107, 108, 2, 109, 30, 31, 110, 111, 112, 113, 114, 115, 116, 309, 310, 311, 19, 312, 44, 51, 146, 147, 148, 149, 150, 432, 433, 434, 435, 436, 437, 438, 439, 440, 441, 442, 443, 444, 445, 446, 447, 448, 449, 450, 451, 452, 453, 454, 455, 456] (by decide +kernel) (by decide +kernel)) (goodIn_sub (fun _ h => List.mem_append_right _ h) (by decide +kernel))
set_option maxRecDepth 20000 in
theorem gL_law_X5_wash : GoodIn wsL_law (wsV RL 46 RX5 yX5_wash wsX5_wash) := goodIn_app (goodIn_of _ (by decide +kernel)) ggL_law_X5_wash
set_option maxRecDepth 20000 in
theorem ggL_law_X5_harden : GoodIn wsL_law wsX5_harden := goodIn_ca (goodIn_ca (goodIn_ca (goodIn_r _ [316, 24, 25, 205, 20, 106, 107, 108, 2, 109, 30, 31, 110, 111, 112, 113, 114, 115, 116, 317, 318, 319, 19, 320, 136, 137, 47, 41, 321, 146, 147, 148, 149, 150, 128, 129, 130, 131, 132, 432, 433, 434, 435, 436, 437, 438, 439, 440, 441, 442, 443, 444, 445, 446, 447, 448, 449, 450, 451, 452, 453, 454, 455, 456, 474, 475, 476, 477, 478] (by decide +kernel) (by decide +kernel)) (goodIn_sub (fun _ h => List.mem_append_left _ (List.mem_append_right _ h)) (by decide +kernel))) (goodIn_sub (fun _ h => List.mem_append_right _ h) (by decide +kernel))) (goodIn_sub (fun _ h => List.mem_append_left _ (List.mem_append_left _ (List.mem_append_right _ h))) (by decide +kernel))
set_option maxRecDepth 20000 in
theorem gL_law_X5_harden : GoodIn wsL_law (wsV RL 52 RX5 yX5_harden wsX5_harden) := goodIn_app (goodIn_of _ (by decide +kernel)) ggL_law_X5_harden
set_option maxRecDepth 20000 in
theorem ggL_law_X5_draw : GoodIn wsL_law wsX5_draw := goodIn_r _ [109, 30, 31, 110, 111, 112, 113, 114, 115, 116, 432, 433, 434, 435, 436, 437, 438, 439, 440, 441, 442] (by decide +kernel) (by decide +kernel)
set_option maxRecDepth 20000 in
theorem gL_law_X5_draw : GoodIn wsL_law (wsV RL 55 RX5 yX5_draw wsX5_draw) := goodIn_app (goodIn_of _ (by decide +kernel)) ggL_law_X5_draw
set_option maxRecDepth 20000 in
theorem ggL_law_X5_lay : GoodIn wsL_law wsX5_lay := goodIn_ca (goodIn_ca (goodIn_r _ [326, 24, 26, 20, 106, 107, 108, 2, 109, 30, 31, 110, 111, 112, 113, 114, 115, 116, 327, 328, 329, 19, 330, 136, 137, 47, 48, 41, 146, 147, 148, 149, 150, 261, 262, 263, 264, 265, 266, 267, 268, 432, 433, 434, 435, 436, 437, 438, 439, 440, 441, 442, 443, 444, 445, 446, 447, 448, 449, 450, 451, 452, 453, 454, 455, 456, 474, 475, 476, 477, 478] (by decide +kernel) (by decide +kernel)) (goodIn_sub (fun _ h => List.mem_append_left _ (List.mem_append_right _ h)) (by decide +kernel))) (goodIn_sub (fun _ h => List.mem_append_right _ h) (by decide +kernel))
set_option maxRecDepth 20000 in
theorem gL_law_X5_lay : GoodIn wsL_law (wsV RL 59 RX5 yX5_lay wsX5_lay) := goodIn_app (goodIn_of _ (by decide +kernel)) ggL_law_X5_lay
set_option maxRecDepth 20000 in
theorem ggL_law_X4_digest : GoodIn wsL_law wsX4_digest := goodIn_ca (goodIn_ca (goodIn_r _ [334, 335, 336, 46, 47, 41, 337, 48, 43, 338, 339, 340, 19, 341, 45, 49, 50, 44, 51, 52, 128, 129, 130, 131, 132, 261, 262, 263, 264, 342, 271, 272, 273, 39, 146, 147, 148, 149, 150, 274, 57, 275, 276, 75, 160, 76, 277, 156, 157, 158, 159, 73, 304, 296, 297, 298, 343, 344, 345, 346, 347, 59, 348, 349, 92, 350, 351, 352, 353, 354, 355, 356, 357, 358, 359, 360, 361, 362, 363, 364, 365, 366, 367, 368, 369, 370, 371, 372, 258, 259, 260, 84, 246, 61, 247, 248, 96, 249, 250, 251, 252, 253, 254, 255, 256, 257, 373, 374, 375, 376, 53, 377, 378, 379, 380, 381, 382, 383, 384, 385, 386, 387, 388, 389, 390, 391, 392, 393, 394, 395, 396, 397, 398, 399, 400, 401, 402, 443, 444, 445, 446, 447, 448, 449, 450, 451, 452, 453, 454, 455, 456, 474, 475, 476, 477, 478, 479, 480, 462, 463, 464, 465, 466, 467, 468, 469, 470, 471, 472, 473] (by decide +kernel) (by decide +kernel)) (goodIn_sub (fun _ h => List.mem_append_left _ (List.mem_append_left _ (List.mem_append_right _ h))) (by decide +kernel))) (goodIn_sub (fun _ h => List.mem_append_right _ h) (by decide +kernel))
set_option maxRecDepth 20000 in
theorem gL_law_X4_digest : GoodIn wsL_law (wsV RL 62 RX4 yX4_digest wsX4_digest) := goodIn_app (goodIn_of _ (by decide +kernel)) ggL_law_X4_digest
set_option maxRecDepth 20000 in
theorem ggL_law_L_isBest : GoodIn wsL_law wsL_isBest := goodIn_ca (goodIn_ca (goodIn_r _ [405, 3, 6, 406, 374, 375, 19, 376, 46, 53, 128, 129, 130, 131, 132, 377, 378, 379, 380, 381, 382, 383, 384, 385, 386, 387, 388, 389, 390, 391, 392, 393, 394, 395, 396, 397, 398, 39, 399, 400, 401, 402, 407, 408, 111, 409, 270, 271, 272, 273, 146, 147, 148, 149, 150, 274, 57, 275, 276, 75, 160, 76, 277, 156, 157, 158, 159, 73, 410, 411, 412, 432, 433, 434, 435, 436, 437, 438, 439, 440, 441, 442, 443, 444, 445, 446, 447, 448, 449, 450, 451, 452, 453, 454, 455, 456, 462, 463, 464, 465, 466, 467, 468, 469, 470, 471, 472, 473] (by decide +kernel) (by decide +kernel)) (goodIn_sub (fun _ h => List.mem_append_left _ (List.mem_append_left _ (List.mem_append_right _ h))) (by decide +kernel))) (goodIn_sub (fun _ h => List.mem_append_right _ h) (by decide +kernel))
set_option maxRecDepth 20000 in
theorem gL_law_L_isBest : GoodIn wsL_law (va_wsS RL 66 yL_isBest wsL_isBest) := goodIn_app (goodIn_of _ (by decide +kernel)) ggL_law_L_isBest
set_option maxRecDepth 20000 in
theorem ggL_law_X4_ofBatch : GoodIn wsL_law wsX4_ofBatch := goodIn_ca (goodIn_ca (goodIn_r _ [346, 47, 41, 146, 147, 19, 148, 149, 150, 128, 129, 130, 131, 132, 347, 59, 348, 349, 92, 350, 351, 352, 353, 354, 52, 355, 356, 357, 358, 39, 443, 444, 445, 446, 447, 448, 449, 450, 451, 452, 453, 454, 455, 456, 474, 475, 476, 477, 478, 462, 463, 464, 465, 466, 467, 468, 469, 470, 471, 472, 473] (by decide +kernel) (by decide +kernel)) (goodIn_sub (fun _ h => List.mem_append_right _ h) (by decide +kernel))) (goodIn_sub (fun _ h => List.mem_append_left _ (List.mem_append_left _ (List.mem_append_right _ h))) (by decide +kernel))
set_option maxRecDepth 20000 in
theorem gL_law_X4_ofBatch : GoodIn wsL_law (wsV RL 72 RX4 yX4_ofBatch wsX4_ofBatch) := goodIn_app (goodIn_of _ (by decide +kernel)) ggL_law_X4_ofBatch
set_option maxRecDepth 20000 in
theorem ggL_law_X4_wouldSpoil : GoodIn wsL_law wsX4_wouldSpoil := goodIn_ca (goodIn_ca (goodIn_r _ [362, 48, 43, 47, 41, 363, 146, 147, 19, 148, 149, 150, 128, 129, 130, 131, 132, 364, 365, 366, 367, 337, 347, 59, 348, 349, 92, 350, 368, 369, 370, 371, 39, 372, 258, 57, 259, 260, 84, 246, 61, 247, 248, 96, 249, 250, 251, 252, 253, 254, 255, 256, 257, 443, 444, 445, 446, 447, 448, 449, 450, 451, 452, 453, 454, 455, 456, 479, 480, 474, 475, 476, 477, 478, 462, 463, 464, 465, 466, 467, 468, 469, 470, 471, 472, 473] (by decide +kernel) (by decide +kernel)) (goodIn_sub (fun _ h => List.mem_append_right _ h) (by decide +kernel))) (goodIn_sub (fun _ h => List.mem_append_left _ (List.mem_append_left _ (List.mem_append_right _ h))) (by decide +kernel))
set_option maxRecDepth 20000 in
theorem gL_law_X4_wouldSpoil : GoodIn wsL_law (wsV RL 75 RX4 yX4_wouldSpoil wsX4_wouldSpoil) := goodIn_app (goodIn_of _ (by decide +kernel)) ggL_law_X4_wouldSpoil
set_option maxRecDepth 20000 in
theorem ggL_law_X4_wouldBe : GoodIn wsL_law wsX4_wouldBe := goodIn_ca (goodIn_ca (goodIn_r _ [418, 47, 41, 43, 372, 146, 147, 19, 148, 149, 150, 128, 129, 130, 131, 132, 419, 59, 420, 421, 90, 368, 369, 370, 371, 39, 258, 57, 259, 260, 84, 246, 61, 247, 248, 96, 249, 250, 251, 252, 253, 254, 255, 256, 257, 443, 444, 445, 446, 447, 448, 449, 450, 451, 452, 453, 454, 455, 456, 474, 475, 476, 477, 478, 479, 480, 462, 463, 464, 465, 466, 467, 468, 469, 470, 471, 472, 473] (by decide +kernel) (by decide +kernel)) (goodIn_sub (fun _ h => List.mem_append_right _ h) (by decide +kernel))) (goodIn_sub (fun _ h => List.mem_append_left _ (List.mem_append_left _ (List.mem_append_right _ h))) (by decide +kernel))
set_option maxRecDepth 20000 in
theorem gL_law_X4_wouldBe : GoodIn wsL_law (wsV RL 78 RX4 yX4_wouldBe wsX4_wouldBe) := goodIn_app (goodIn_of _ (by decide +kernel)) ggL_law_X4_wouldBe
set_option maxRecDepth 20000 in
theorem ggL_law_X4_door : GoodIn wsL_law wsX4_door := goodIn_ca (goodIn_ca (goodIn_r _ [425, 48, 43, 146, 147, 19, 148, 149, 150, 128, 129, 130, 131, 132, 364, 365, 366, 367, 337, 443, 444, 445, 446, 447, 448, 449, 450, 451, 452, 453, 454, 455, 456, 479, 480] (by decide +kernel) (by decide +kernel)) (goodIn_sub (fun _ h => List.mem_append_right _ h) (by decide +kernel))) (goodIn_sub (fun _ h => List.mem_append_left _ (List.mem_append_left _ (List.mem_append_right _ h))) (by decide +kernel))
set_option maxRecDepth 20000 in
theorem gL_law_X4_door : GoodIn wsL_law (wsV RL 82 RX4 yX4_door wsX4_door) := goodIn_app (goodIn_of _ (by decide +kernel)) ggL_law_X4_door
set_option maxRecDepth 20000 in
theorem ggL_law_X4_pass : GoodIn wsL_law wsX4_pass := goodIn_ca (goodIn_r _ [237, 128, 129, 19, 130, 131, 132, 238, 239, 240, 241, 46, 39, 47, 41, 48, 49, 242, 243, 244, 245, 43, 246, 61, 247, 248, 96, 249, 250, 57, 251, 252, 253, 254, 255, 256, 257, 84, 258, 259, 260, 261, 262, 263, 264, 443, 444, 445, 446, 447, 448, 449, 450, 451, 452, 453, 454, 455, 456, 462, 463, 464, 465, 466, 467, 468, 469, 470, 471, 472, 473, 474, 475, 476, 477, 478, 479, 480] (by decide +kernel) (by decide +kernel)) (goodIn_sub (fun _ h => List.mem_append_left _ (List.mem_append_left _ (List.mem_append_right _ h))) (by decide +kernel))
set_option maxRecDepth 20000 in
theorem gL_law_X4_pass : GoodIn wsL_law (wsV RL 87 RX4 yX4_pass wsX4_pass) := goodIn_app (goodIn_of _ (by decide +kernel)) ggL_law_X4_pass
set_option maxRecDepth 20000 in
theorem ggL_law_X4_crystal : GoodIn wsL_law wsX4_crystal := goodIn_ca (goodIn_r _ [430, 47, 41, 146, 147, 19, 148, 149, 150, 443, 444, 445, 446, 447, 448, 449, 450, 451, 452, 453, 454, 455, 456, 474, 475, 476, 477, 478] (by decide +kernel) (by decide +kernel)) (goodIn_sub (fun _ h => List.mem_append_right _ h) (by decide +kernel))
set_option maxRecDepth 20000 in
theorem gL_law_X4_crystal : GoodIn wsL_law (wsV RL 89 RX4 yX4_crystal wsX4_crystal) := goodIn_app (goodIn_of _ (by decide +kernel)) ggL_law_X4_crystal
set_option maxRecDepth 20000 in
theorem ggL_law_X4_lay : GoodIn wsL_law wsX4_lay := goodIn_ca (goodIn_ca (goodIn_r _ [330, 136, 137, 47, 48, 41, 146, 147, 19, 148, 149, 150, 261, 262, 263, 264, 443, 444, 445, 446, 447, 448, 449, 450, 451, 452, 453, 454, 455, 456, 474, 475, 476, 477, 478] (by decide +kernel) (by decide +kernel)) (goodIn_sub (fun _ h => List.mem_append_left _ (List.mem_append_right _ h)) (by decide +kernel))) (goodIn_sub (fun _ h => List.mem_append_right _ h) (by decide +kernel))
set_option maxRecDepth 20000 in
theorem gL_law_X4_lay : GoodIn wsL_law (wsV RL 97 RX4 yX4_lay wsX4_lay) := goodIn_app (goodIn_of _ (by decide +kernel)) ggL_law_X4_lay
