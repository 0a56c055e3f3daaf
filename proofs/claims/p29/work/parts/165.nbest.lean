set_option maxRecDepth 20000 in
theorem ggL_washes_X4_ofMix : GoodIn wsL_washes wsX4_ofMix := goodIn_ca (goodIn_ca (goodIn_r _ [6, 7, 8, 9, 10, 5, 11, 12, 13, 14, 15, 16, 17, 18, 19, 20, 21, 22, 23, 24, 25, 26, 27, 28, 29, 30, 31, 43, 44, 45, 46, 47, 48, 49, 50, 51, 52, 53, 54, 55, 56, 57, 58, 59, 60, 61, 62, 63, 64, 65, 66, 67, 68] (by decide +kernel) (by decide +kernel)) (goodIn_sub (fun _ h => List.mem_cons_of_mem _ (List.mem_append_left _ (List.mem_append_right _ h))) (by decide +kernel))) (goodIn_sub (fun _ h => List.mem_cons_of_mem _ (List.mem_append_right _ h)) (by decide +kernel))
set_option maxRecDepth 20000 in
theorem gL_washes_X4_ofMix : GoodIn wsL_washes (wsV RL 35 RX4 yX4_ofMix wsX4_ofMix) := goodIn_app (goodIn_of _ (by decide +kernel)) ggL_washes_X4_ofMix
theorem dL_washes_0 : decode cL_washes 0 = .ok (.iconst 0, 1) := by decide +kernel
theorem dL_washes_1 : decode cL_washes 1 = .ok (.istore_n 2, 1) := by decide +kernel
theorem dL_washes_2 : decode cL_washes 2 = .ok (.iconst 1, 1) := by decide +kernel
theorem dL_washes_3 : decode cL_washes 3 = .ok (.istore_n 3, 1) := by decide +kernel
theorem dL_washes_4 : decode cL_washes 4 = .ok (.iload_n 3, 1) := by decide +kernel
theorem dL_washes_5 : decode cL_washes 5 = .ok (.aload_n 1, 1) := by decide +kernel
theorem dL_washes_6 : decode cL_washes 6 = .ok (.arraylength, 1) := by decide +kernel
theorem dL_washes_7 : decode cL_washes 7 = .ok (.if_icmp .ge 47, 3) := by decide +kernel
theorem dL_washes_10 : decode cL_washes 10 = .ok (.iload_n 2, 1) := by decide +kernel
theorem dL_washes_11 : decode cL_washes 11 = .ok (.aload_n 0, 1) := by decide +kernel
theorem dL_washes_12 : decode cL_washes 12 = .ok (.getfield 14, 3) := by decide +kernel
theorem dL_washes_15 : decode cL_washes 15 = .ok (.aload_n 1, 1) := by decide +kernel
theorem dL_washes_16 : decode cL_washes 16 = .ok (.iload_n 3, 1) := by decide +kernel
theorem dL_washes_17 : decode cL_washes 17 = .ok (.iconst 1, 1) := by decide +kernel
theorem dL_washes_18 : decode cL_washes 18 = .ok (.isub, 1) := by decide +kernel
theorem dL_washes_19 : decode cL_washes 19 = .ok (.iaload, 1) := by decide +kernel
theorem dL_washes_20 : decode cL_washes 20 = .ok (.iconst 3, 1) := by decide +kernel
theorem dL_washes_21 : decode cL_washes 21 = .ok (.invokevirtual 35, 3) := by decide +kernel
theorem dL_washes_24 : decode cL_washes 24 = .ok (.aload_n 0, 1) := by decide +kernel
theorem dL_washes_25 : decode cL_washes 25 = .ok (.getfield 14, 3) := by decide +kernel
theorem dL_washes_28 : decode cL_washes 28 = .ok (.aload_n 1, 1) := by decide +kernel
theorem dL_washes_29 : decode cL_washes 29 = .ok (.iload_n 3, 1) := by decide +kernel
theorem dL_washes_30 : decode cL_washes 30 = .ok (.iaload, 1) := by decide +kernel
theorem dL_washes_31 : decode cL_washes 31 = .ok (.iconst 3, 1) := by decide +kernel
theorem dL_washes_32 : decode cL_washes 32 = .ok (.invokevirtual 35, 3) := by decide +kernel
theorem dL_washes_35 : decode cL_washes 35 = .ok (.iconst (-1), 1) := by decide +kernel
theorem dL_washes_36 : decode cL_washes 36 = .ok (.ixor, 1) := by decide +kernel
theorem dL_washes_37 : decode cL_washes 37 = .ok (.iand, 1) := by decide +kernel
theorem dL_washes_38 : decode cL_washes 38 = .ok (.ifCond .ne 7, 3) := by decide +kernel
theorem dL_washes_41 : decode cL_washes 41 = .ok (.iconst 0, 1) := by decide +kernel
theorem dL_washes_42 : decode cL_washes 42 = .ok (.goto 4, 3) := by decide +kernel
theorem dL_washes_45 : decode cL_washes 45 = .ok (.iconst 1, 1) := by decide +kernel
theorem dL_washes_46 : decode cL_washes 46 = .ok (.iadd, 1) := by decide +kernel
theorem dL_washes_47 : decode cL_washes 47 = .ok (.istore_n 2, 1) := by decide +kernel
theorem dL_washes_48 : decode cL_washes 48 = .ok (.iinc 3 1, 3) := by decide +kernel
theorem dL_washes_51 : decode cL_washes 51 = .ok (.goto (-47), 3) := by decide +kernel
theorem dL_washes_54 : decode cL_washes 54 = .ok (.iload_n 2, 1) := by decide +kernel
theorem dL_washes_55 : decode cL_washes 55 = .ok (.ireturn, 1) := by decide +kernel
theorem dL_number_0 : decode cL_number 0 = .ok (.iconst 0, 1) := by decide +kernel
theorem dL_number_1 : decode cL_number 1 = .ok (.istore_n 1, 1) := by decide +kernel
theorem dL_number_2 : decode cL_number 2 = .ok (.aload_n 0, 1) := by decide +kernel
theorem dL_number_3 : decode cL_number 3 = .ok (.astore_n 2, 1) := by decide +kernel
theorem dL_number_4 : decode cL_number 4 = .ok (.aload_n 2, 1) := by decide +kernel
theorem dL_number_5 : decode cL_number 5 = .ok (.arraylength, 1) := by decide +kernel
theorem dL_number_6 : decode cL_number 6 = .ok (.istore_n 3, 1) := by decide +kernel
theorem dL_number_7 : decode cL_number 7 = .ok (.iconst 0, 1) := by decide +kernel
theorem dL_number_8 : decode cL_number 8 = .ok (.istore 4, 2) := by decide +kernel
theorem dL_number_10 : decode cL_number 10 = .ok (.iload 4, 2) := by decide +kernel
theorem dL_number_12 : decode cL_number 12 = .ok (.iload_n 3, 1) := by decide +kernel
theorem dL_number_13 : decode cL_number 13 = .ok (.if_icmp .ge 25, 3) := by decide +kernel
theorem dL_number_16 : decode cL_number 16 = .ok (.aload_n 2, 1) := by decide +kernel
theorem dL_number_17 : decode cL_number 17 = .ok (.iload 4, 2) := by decide +kernel
theorem dL_number_19 : decode cL_number 19 = .ok (.iaload, 1) := by decide +kernel
theorem dL_number_20 : decode cL_number 20 = .ok (.istore 5, 2) := by decide +kernel
theorem dL_number_22 : decode cL_number 22 = .ok (.iload_n 1, 1) := by decide +kernel
theorem dL_number_23 : decode cL_number 23 = .ok (.bipush 10, 2) := by decide +kernel
theorem dL_number_25 : decode cL_number 25 = .ok (.imul, 1) := by decide +kernel
theorem dL_number_26 : decode cL_number 26 = .ok (.iload 5, 2) := by decide +kernel
theorem dL_number_28 : decode cL_number 28 = .ok (.iadd, 1) := by decide +kernel
theorem dL_number_29 : decode cL_number 29 = .ok (.iconst 1, 1) := by decide +kernel
theorem dL_number_30 : decode cL_number 30 = .ok (.iadd, 1) := by decide +kernel
theorem dL_number_31 : decode cL_number 31 = .ok (.istore_n 1, 1) := by decide +kernel
theorem dL_number_32 : decode cL_number 32 = .ok (.iinc 4 1, 3) := by decide +kernel
theorem dL_number_35 : decode cL_number 35 = .ok (.goto (-25), 3) := by decide +kernel
theorem dL_number_38 : decode cL_number 38 = .ok (.iload_n 1, 1) := by decide +kernel
theorem dL_number_39 : decode cL_number 39 = .ok (.ireturn, 1) := by decide +kernel
set_option maxRecDepth 20000 in
theorem ggL_isBest_X4_day : GoodIn wsL_isBest wsX4_day := goodIn_ca (goodIn_r _ [7, 8, 9, 10, 11, 6, 12, 13, 14, 15, 16, 17, 18, 19, 20, 21, 22, 23, 24, 25, 26, 27, 28, 29, 30, 31, 32, 33, 34, 35, 36, 37, 38, 39, 40, 41, 82, 83, 84, 85, 86, 87, 88, 89, 90, 91, 92, 93, 94, 95, 96, 97, 98, 99, 100, 101, 102, 103, 104, 105, 106, 107] (by decide +kernel) (by decide +kernel)) (goodIn_sub (fun _ h => List.mem_cons_of_mem _ (List.mem_append_left _ (List.mem_append_right _ h))) (by decide +kernel))
set_option maxRecDepth 20000 in
theorem gL_isBest_X4_day : GoodIn wsL_isBest (wsV RL 99 RX4 yX4_day wsX4_day) := goodIn_app (goodIn_of _ (by decide +kernel)) ggL_isBest_X4_day
set_option maxRecDepth 20000 in
theorem ggL_isBest_L_washes : GoodIn wsL_isBest wsL_washes := goodIn_ca (goodIn_ca (goodIn_r _ [45, 1, 46, 47, 48, 6, 49, 8, 37, 50, 51, 52, 53, 54, 10, 11, 12, 13, 14, 55, 56, 57, 58, 59, 60, 61, 62, 63, 64, 65, 66, 67, 71, 72, 73, 74, 75, 76, 77, 78, 79, 80, 81, 82, 83, 84, 85, 86, 87, 88, 89, 90, 91, 92, 93, 94, 95, 96, 97, 98, 99, 100, 101, 102, 103, 104, 105, 106, 107] (by decide +kernel) (by decide +kernel)) (goodIn_sub (fun _ h => List.mem_cons_of_mem _ (List.mem_append_right _ h)) (by decide +kernel))) (goodIn_sub (fun _ h => List.mem_cons_of_mem _ (List.mem_append_left _ (List.mem_append_right _ h))) (by decide +kernel))
set_option maxRecDepth 20000 in
theorem gL_isBest_L_washes : GoodIn wsL_isBest (va_wsS RL 103 yL_washes wsL_washes) := goodIn_app (goodIn_of _ (by decide +kernel)) ggL_isBest_L_washes
set_option maxRecDepth 20000 in
theorem ggL_isBest_L_number : GoodIn wsL_isBest wsL_number := goodIn_r _ [70] (by decide +kernel) (by decide +kernel)
set_option maxRecDepth 20000 in
theorem gL_isBest_L_number : GoodIn wsL_isBest (va_wsS RL 107 yL_number wsL_number) := goodIn_app (goodIn_of _ (by decide +kernel)) ggL_isBest_L_number
theorem dL_isBest_0 : decode cL_isBest 0 = .ok (.iconst 1, 1) := by decide +kernel
theorem dL_isBest_1 : decode cL_isBest 1 = .ok (.istore_n 1, 1) := by decide +kernel
theorem dL_isBest_2 : decode cL_isBest 2 = .ok (.iload_n 1, 1) := by decide +kernel
theorem dL_isBest_3 : decode cL_isBest 3 = .ok (.bipush 16, 2) := by decide +kernel
theorem dL_isBest_5 : decode cL_isBest 5 = .ok (.if_icmp .ge 244, 3) := by decide +kernel
theorem dL_isBest_8 : decode cL_isBest 8 = .ok (.aload_n 0, 1) := by decide +kernel
theorem dL_isBest_9 : decode cL_isBest 9 = .ok (.getfield 14, 3) := by decide +kernel
theorem dL_isBest_12 : decode cL_isBest 12 = .ok (.iload_n 1, 1) := by decide +kernel
theorem dL_isBest_13 : decode cL_isBest 13 = .ok (.iconst 1, 1) := by decide +kernel
theorem dL_isBest_14 : decode cL_isBest 14 = .ok (.invokevirtual 99, 3) := by decide +kernel
theorem dL_isBest_17 : decode cL_isBest 17 = .ok (.istore_n 2, 1) := by decide +kernel
theorem dL_isBest_18 : decode cL_isBest 18 = .ok (.aload_n 0, 1) := by decide +kernel
theorem dL_isBest_19 : decode cL_isBest 19 = .ok (.getfield 14, 3) := by decide +kernel
theorem dL_isBest_22 : decode cL_isBest 22 = .ok (.iload_n 1, 1) := by decide +kernel
theorem dL_isBest_23 : decode cL_isBest 23 = .ok (.iconst 0, 1) := by decide +kernel
theorem dL_isBest_24 : decode cL_isBest 24 = .ok (.invokevirtual 99, 3) := by decide +kernel
theorem dL_isBest_27 : decode cL_isBest 27 = .ok (.istore_n 3, 1) := by decide +kernel
theorem dL_isBest_28 : decode cL_isBest 28 = .ok (.iconst 0, 1) := by decide +kernel
theorem dL_isBest_29 : decode cL_isBest 29 = .ok (.istore 4, 2) := by decide +kernel
theorem dL_isBest_31 : decode cL_isBest 31 = .ok (.iload_n 2, 1) := by decide +kernel
theorem dL_isBest_32 : decode cL_isBest 32 = .ok (.istore 5, 2) := by decide +kernel
theorem dL_isBest_34 : decode cL_isBest 34 = .ok (.iload 5, 2) := by decide +kernel
theorem dL_isBest_36 : decode cL_isBest 36 = .ok (.ifCond .le 16, 3) := by decide +kernel
theorem dL_isBest_39 : decode cL_isBest 39 = .ok (.iinc 4 1, 3) := by decide +kernel
theorem dL_isBest_42 : decode cL_isBest 42 = .ok (.iload 5, 2) := by decide +kernel
theorem dL_isBest_44 : decode cL_isBest 44 = .ok (.bipush 10, 2) := by decide +kernel
theorem dL_isBest_46 : decode cL_isBest 46 = .ok (.idiv, 1) := by decide +kernel
theorem dL_isBest_47 : decode cL_isBest 47 = .ok (.istore 5, 2) := by decide +kernel
theorem dL_isBest_49 : decode cL_isBest 49 = .ok (.goto (-15), 3) := by decide +kernel
theorem dL_isBest_52 : decode cL_isBest 52 = .ok (.iload 4, 2) := by decide +kernel
theorem dL_isBest_54 : decode cL_isBest 54 = .ok (.newarray .int, 2) := by decide +kernel
theorem dL_isBest_56 : decode cL_isBest 56 = .ok (.astore 5, 2) := by decide +kernel
theorem dL_isBest_58 : decode cL_isBest 58 = .ok (.iconst 0, 1) := by decide +kernel
theorem dL_isBest_59 : decode cL_isBest 59 = .ok (.istore 6, 2) := by decide +kernel
theorem dL_isBest_61 : decode cL_isBest 61 = .ok (.iload_n 2, 1) := by decide +kernel
theorem dL_isBest_62 : decode cL_isBest 62 = .ok (.istore 7, 2) := by decide +kernel
theorem dL_isBest_64 : decode cL_isBest 64 = .ok (.iload 4, 2) := by decide +kernel
theorem dL_isBest_66 : decode cL_isBest 66 = .ok (.iconst 1, 1) := by decide +kernel
theorem dL_isBest_67 : decode cL_isBest 67 = .ok (.isub, 1) := by decide +kernel
theorem dL_isBest_68 : decode cL_isBest 68 = .ok (.istore 8, 2) := by decide +kernel
theorem dL_isBest_70 : decode cL_isBest 70 = .ok (.iload 7, 2) := by decide +kernel
theorem dL_isBest_72 : decode cL_isBest 72 = .ok (.ifCond .le 40, 3) := by decide +kernel
theorem dL_isBest_75 : decode cL_isBest 75 = .ok (.aload 5, 2) := by decide +kernel
theorem dL_isBest_77 : decode cL_isBest 77 = .ok (.iload 8, 2) := by decide +kernel
theorem dL_isBest_79 : decode cL_isBest 79 = .ok (.iload 7, 2) := by decide +kernel
theorem dL_isBest_81 : decode cL_isBest 81 = .ok (.bipush 10, 2) := by decide +kernel
theorem dL_isBest_83 : decode cL_isBest 83 = .ok (.irem, 1) := by decide +kernel
theorem dL_isBest_84 : decode cL_isBest 84 = .ok (.iconst 1, 1) := by decide +kernel
theorem dL_isBest_85 : decode cL_isBest 85 = .ok (.isub, 1) := by decide +kernel
theorem dL_isBest_86 : decode cL_isBest 86 = .ok (.iastore, 1) := by decide +kernel
theorem dL_isBest_87 : decode cL_isBest 87 = .ok (.iload 6, 2) := by decide +kernel
theorem dL_isBest_89 : decode cL_isBest 89 = .ok (.iconst 1, 1) := by decide +kernel
theorem dL_isBest_90 : decode cL_isBest 90 = .ok (.aload 5, 2) := by decide +kernel
theorem dL_isBest_92 : decode cL_isBest 92 = .ok (.iload 8, 2) := by decide +kernel
theorem dL_isBest_94 : decode cL_isBest 94 = .ok (.iaload, 1) := by decide +kernel
theorem dL_isBest_95 : decode cL_isBest 95 = .ok (.ishl, 1) := by decide +kernel
theorem dL_isBest_96 : decode cL_isBest 96 = .ok (.iadd, 1) := by decide +kernel
theorem dL_isBest_97 : decode cL_isBest 97 = .ok (.istore 6, 2) := by decide +kernel
theorem dL_isBest_99 : decode cL_isBest 99 = .ok (.iload 7, 2) := by decide +kernel
theorem dL_isBest_101 : decode cL_isBest 101 = .ok (.bipush 10, 2) := by decide +kernel
theorem dL_isBest_103 : decode cL_isBest 103 = .ok (.idiv, 1) := by decide +kernel
theorem dL_isBest_104 : decode cL_isBest 104 = .ok (.istore 7, 2) := by decide +kernel
theorem dL_isBest_106 : decode cL_isBest 106 = .ok (.iinc 8 (-1), 3) := by decide +kernel
theorem dL_isBest_109 : decode cL_isBest 109 = .ok (.goto (-39), 3) := by decide +kernel
theorem dL_isBest_112 : decode cL_isBest 112 = .ok (.iload 6, 2) := by decide +kernel
theorem dL_isBest_114 : decode cL_isBest 114 = .ok (.iload_n 1, 1) := by decide +kernel
theorem dL_isBest_115 : decode cL_isBest 115 = .ok (.if_icmp .ne 19, 3) := by decide +kernel
theorem dL_isBest_118 : decode cL_isBest 118 = .ok (.aload_n 0, 1) := by decide +kernel
theorem dL_isBest_119 : decode cL_isBest 119 = .ok (.aload 5, 2) := by decide +kernel
theorem dL_isBest_121 : decode cL_isBest 121 = .ok (.invokestatic 103, 3) := by decide +kernel
theorem dL_isBest_124 : decode cL_isBest 124 = .ok (.iload_n 3, 1) := by decide +kernel
theorem dL_isBest_125 : decode cL_isBest 125 = .ok (.if_icmp .ne 9, 3) := by decide +kernel
theorem dL_isBest_128 : decode cL_isBest 128 = .ok (.iload_n 3, 1) := by decide +kernel
theorem dL_isBest_129 : decode cL_isBest 129 = .ok (.iload 4, 2) := by decide +kernel
theorem dL_isBest_131 : decode cL_isBest 131 = .ok (.if_icmp .lt 5, 3) := by decide +kernel
theorem dL_isBest_134 : decode cL_isBest 134 = .ok (.iconst 0, 1) := by decide +kernel
theorem dL_isBest_135 : decode cL_isBest 135 = .ok (.ireturn, 1) := by decide +kernel
theorem dL_isBest_136 : decode cL_isBest 136 = .ok (.iconst 0, 1) := by decide +kernel
theorem dL_isBest_137 : decode cL_isBest 137 = .ok (.istore 7, 2) := by decide +kernel
theorem dL_isBest_139 : decode cL_isBest 139 = .ok (.iload 7, 2) := by decide +kernel
theorem dL_isBest_141 : decode cL_isBest 141 = .ok (.iload 4, 2) := by decide +kernel
theorem dL_isBest_143 : decode cL_isBest 143 = .ok (.if_icmp .ge 100, 3) := by decide +kernel
theorem dL_isBest_146 : decode cL_isBest 146 = .ok (.iload 7, 2) := by decide +kernel
theorem dL_isBest_148 : decode cL_isBest 148 = .ok (.iconst 1, 1) := by decide +kernel
theorem dL_isBest_149 : decode cL_isBest 149 = .ok (.iadd, 1) := by decide +kernel
theorem dL_isBest_150 : decode cL_isBest 150 = .ok (.istore 8, 2) := by decide +kernel
theorem dL_isBest_152 : decode cL_isBest 152 = .ok (.iload 8, 2) := by decide +kernel
theorem dL_isBest_154 : decode cL_isBest 154 = .ok (.iload 4, 2) := by decide +kernel
theorem dL_isBest_156 : decode cL_isBest 156 = .ok (.if_icmp .ge 81, 3) := by decide +kernel
theorem dL_isBest_159 : decode cL_isBest 159 = .ok (.aload 5, 2) := by decide +kernel
theorem dL_isBest_161 : decode cL_isBest 161 = .ok (.iload 7, 2) := by decide +kernel
theorem dL_isBest_163 : decode cL_isBest 163 = .ok (.iaload, 1) := by decide +kernel
theorem dL_isBest_164 : decode cL_isBest 164 = .ok (.istore 9, 2) := by decide +kernel
theorem dL_isBest_166 : decode cL_isBest 166 = .ok (.aload 5, 2) := by decide +kernel
theorem dL_isBest_168 : decode cL_isBest 168 = .ok (.iload 7, 2) := by decide +kernel
theorem dL_isBest_170 : decode cL_isBest 170 = .ok (.aload 5, 2) := by decide +kernel
theorem dL_isBest_172 : decode cL_isBest 172 = .ok (.iload 8, 2) := by decide +kernel
theorem dL_isBest_174 : decode cL_isBest 174 = .ok (.iaload, 1) := by decide +kernel
theorem dL_isBest_175 : decode cL_isBest 175 = .ok (.iastore, 1) := by decide +kernel
theorem dL_isBest_176 : decode cL_isBest 176 = .ok (.aload 5, 2) := by decide +kernel
theorem dL_isBest_178 : decode cL_isBest 178 = .ok (.iload 8, 2) := by decide +kernel
theorem dL_isBest_180 : decode cL_isBest 180 = .ok (.iload 9, 2) := by decide +kernel
theorem dL_isBest_182 : decode cL_isBest 182 = .ok (.iastore, 1) := by decide +kernel
theorem dL_isBest_183 : decode cL_isBest 183 = .ok (.aload_n 0, 1) := by decide +kernel
theorem dL_isBest_184 : decode cL_isBest 184 = .ok (.aload 5, 2) := by decide +kernel
theorem dL_isBest_186 : decode cL_isBest 186 = .ok (.invokestatic 103, 3) := by decide +kernel
theorem dL_isBest_189 : decode cL_isBest 189 = .ok (.istore 10, 2) := by decide +kernel
theorem dL_isBest_191 : decode cL_isBest 191 = .ok (.iload 10, 2) := by decide +kernel
theorem dL_isBest_193 : decode cL_isBest 193 = .ok (.iload_n 3, 1) := by decide +kernel
theorem dL_isBest_194 : decode cL_isBest 194 = .ok (.if_icmp .lt 18, 3) := by decide +kernel
theorem dL_isBest_197 : decode cL_isBest 197 = .ok (.iload 10, 2) := by decide +kernel
theorem dL_isBest_199 : decode cL_isBest 199 = .ok (.iload_n 3, 1) := by decide +kernel
theorem dL_isBest_200 : decode cL_isBest 200 = .ok (.if_icmp .ne 14, 3) := by decide +kernel
theorem dL_isBest_203 : decode cL_isBest 203 = .ok (.aload 5, 2) := by decide +kernel
theorem dL_isBest_205 : decode cL_isBest 205 = .ok (.invokestatic 107, 3) := by decide +kernel
theorem dL_isBest_208 : decode cL_isBest 208 = .ok (.iload_n 2, 1) := by decide +kernel
theorem dL_isBest_209 : decode cL_isBest 209 = .ok (.if_icmp .ge 5, 3) := by decide +kernel
theorem dL_isBest_212 : decode cL_isBest 212 = .ok (.iconst 0, 1) := by decide +kernel
theorem dL_isBest_213 : decode cL_isBest 213 = .ok (.ireturn, 1) := by decide +kernel
theorem dL_isBest_214 : decode cL_isBest 214 = .ok (.aload 5, 2) := by decide +kernel
theorem dL_isBest_216 : decode cL_isBest 216 = .ok (.iload 8, 2) := by decide +kernel
theorem dL_isBest_218 : decode cL_isBest 218 = .ok (.aload 5, 2) := by decide +kernel
theorem dL_isBest_220 : decode cL_isBest 220 = .ok (.iload 7, 2) := by decide +kernel
theorem dL_isBest_222 : decode cL_isBest 222 = .ok (.iaload, 1) := by decide +kernel
theorem dL_isBest_223 : decode cL_isBest 223 = .ok (.iastore, 1) := by decide +kernel
theorem dL_isBest_224 : decode cL_isBest 224 = .ok (.aload 5, 2) := by decide +kernel
theorem dL_isBest_226 : decode cL_isBest 226 = .ok (.iload 7, 2) := by decide +kernel
theorem dL_isBest_228 : decode cL_isBest 228 = .ok (.iload 9, 2) := by decide +kernel
theorem dL_isBest_230 : decode cL_isBest 230 = .ok (.iastore, 1) := by decide +kernel
theorem dL_isBest_231 : decode cL_isBest 231 = .ok (.iinc 8 1, 3) := by decide +kernel
theorem dL_isBest_234 : decode cL_isBest 234 = .ok (.goto (-82), 3) := by decide +kernel
theorem dL_isBest_237 : decode cL_isBest 237 = .ok (.iinc 7 1, 3) := by decide +kernel
theorem dL_isBest_240 : decode cL_isBest 240 = .ok (.goto (-101), 3) := by decide +kernel
theorem dL_isBest_243 : decode cL_isBest 243 = .ok (.iinc 1 1, 3) := by decide +kernel
theorem dL_isBest_246 : decode cL_isBest 246 = .ok (.goto (-244), 3) := by decide +kernel
theorem dL_isBest_249 : decode cL_isBest 249 = .ok (.iconst 1, 1) := by decide +kernel
theorem dL_isBest_250 : decode cL_isBest 250 = .ok (.ireturn, 1) := by decide +kernel
