theorem dL_ofMix_17 : decode cL_ofMix 17 = .ok (.astore 4, 2) := by decide +kernel
theorem dL_ofMix_19 : decode cL_ofMix 19 = .ok (.iconst 2, 1) := by decide +kernel
theorem dL_ofMix_20 : decode cL_ofMix 20 = .ok (.ireturn, 1) := by decide +kernel
theorem dL_ofMix_21 : decode cL_ofMix 21 = .ok (.iconst 0, 1) := by decide +kernel
theorem dL_ofMix_22 : decode cL_ofMix 22 = .ok (.ireturn, 1) := by decide +kernel
set_option maxRecDepth 20000 in
theorem ggL_part_X4_part : GoodIn wsL_part wsX4_part := goodIn_ca (goodIn_ca (goodIn_r _ [7, 8, 9, 10, 11, 6, 12, 13, 14, 15, 16, 17, 18, 19, 20, 21, 22, 23, 24, 25, 26, 27, 28, 29, 30, 31, 32, 33, 34, 35, 36, 37, 38, 39, 40, 41, 42, 43, 44, 45, 46, 47, 48, 49, 50, 51] (by decide +kernel) (by decide +kernel)) (goodIn_sub (fun _ h => List.mem_cons_of_mem _ (List.mem_append_left _ (List.mem_append_right _ h))) (by decide +kernel))) (goodIn_sub (fun _ h => List.mem_cons_of_mem _ (List.mem_append_right _ h)) (by decide +kernel))
set_option maxRecDepth 20000 in
theorem gL_part_X4_part : GoodIn wsL_part (wsV RL 67 RX4 yX4_part wsX4_part) := goodIn_app (goodIn_of _ (by decide +kernel)) ggL_part_X4_part
theorem dL_part_0 : decode cL_part 0 = .ok (.aload_n 3, 1) := by decide +kernel
theorem dL_part_1 : decode cL_part 1 = .ok (.iconst 0, 1) := by decide +kernel
theorem dL_part_2 : decode cL_part 2 = .ok (.aload_n 0, 1) := by decide +kernel
theorem dL_part_3 : decode cL_part 3 = .ok (.iload_n 1, 1) := by decide +kernel
theorem dL_part_4 : decode cL_part 4 = .ok (.iload_n 2, 1) := by decide +kernel
theorem dL_part_5 : decode cL_part 5 = .ok (.invokevirtual 67, 3) := by decide +kernel
theorem dL_part_8 : decode cL_part 8 = .ok (.dastore, 1) := by decide +kernel
theorem dL_part_9 : decode cL_part 9 = .ok (.goto 11, 3) := by decide +kernel
theorem dL_part_12 : decode cL_part 12 = .ok (.astore 4, 2) := by decide +kernel
theorem dL_part_14 : decode cL_part 14 = .ok (.iconst 1, 1) := by decide +kernel
theorem dL_part_15 : decode cL_part 15 = .ok (.ireturn, 1) := by decide +kernel
theorem dL_part_16 : decode cL_part 16 = .ok (.astore 4, 2) := by decide +kernel
theorem dL_part_18 : decode cL_part 18 = .ok (.iconst 2, 1) := by decide +kernel
theorem dL_part_19 : decode cL_part 19 = .ok (.ireturn, 1) := by decide +kernel
theorem dL_part_20 : decode cL_part 20 = .ok (.iconst 0, 1) := by decide +kernel
theorem dL_part_21 : decode cL_part 21 = .ok (.ireturn, 1) := by decide +kernel
set_option maxRecDepth 20000 in
theorem ggL_ice_X4_ice : GoodIn wsL_ice wsX4_ice := goodIn_ca (goodIn_ca (goodIn_r _ [7, 8, 9, 10, 11, 6, 12, 13, 14, 15, 16, 17, 18, 19, 20, 21, 22, 23, 24, 25, 26, 27, 28, 29, 30, 31, 32, 33, 34, 35, 36, 37, 38, 39, 40, 41, 42, 43, 44, 45, 46, 47, 48, 49, 50] (by decide +kernel) (by decide +kernel)) (goodIn_sub (fun _ h => List.mem_cons_of_mem _ (List.mem_append_left _ (List.mem_append_right _ h))) (by decide +kernel))) (goodIn_sub (fun _ h => List.mem_cons_of_mem _ (List.mem_append_right _ h)) (by decide +kernel))
set_option maxRecDepth 20000 in
theorem gL_ice_X4_ice : GoodIn wsL_ice (wsV RL 70 RX4 yX4_ice wsX4_ice) := goodIn_app (goodIn_of _ (by decide +kernel)) ggL_ice_X4_ice
theorem dL_ice_0 : decode cL_ice 0 = .ok (.aload_n 3, 1) := by decide +kernel
theorem dL_ice_1 : decode cL_ice 1 = .ok (.iconst 0, 1) := by decide +kernel
theorem dL_ice_2 : decode cL_ice 2 = .ok (.aload_n 0, 1) := by decide +kernel
theorem dL_ice_3 : decode cL_ice 3 = .ok (.iload_n 1, 1) := by decide +kernel
theorem dL_ice_4 : decode cL_ice 4 = .ok (.iload_n 2, 1) := by decide +kernel
theorem dL_ice_5 : decode cL_ice 5 = .ok (.invokevirtual 70, 3) := by decide +kernel
theorem dL_ice_8 : decode cL_ice 8 = .ok (.dastore, 1) := by decide +kernel
theorem dL_ice_9 : decode cL_ice 9 = .ok (.goto 11, 3) := by decide +kernel
theorem dL_ice_12 : decode cL_ice 12 = .ok (.astore 4, 2) := by decide +kernel
theorem dL_ice_14 : decode cL_ice 14 = .ok (.iconst 1, 1) := by decide +kernel
theorem dL_ice_15 : decode cL_ice 15 = .ok (.ireturn, 1) := by decide +kernel
theorem dL_ice_16 : decode cL_ice 16 = .ok (.astore 4, 2) := by decide +kernel
theorem dL_ice_18 : decode cL_ice 18 = .ok (.iconst 2, 1) := by decide +kernel
theorem dL_ice_19 : decode cL_ice 19 = .ok (.ireturn, 1) := by decide +kernel
theorem dL_ice_20 : decode cL_ice 20 = .ok (.iconst 0, 1) := by decide +kernel
theorem dL_ice_21 : decode cL_ice 21 = .ok (.ireturn, 1) := by decide +kernel
set_option maxRecDepth 20000 in
theorem ggL_bars_X4_bars : GoodIn wsL_bars wsX4_bars := goodIn_ca (goodIn_ca (goodIn_r _ [7, 8, 9, 10, 11, 12, 13, 6, 14, 15, 16, 17, 18, 19, 20, 21, 22, 23, 24, 25, 26, 27, 28, 29, 30, 31, 32, 33, 34, 35, 36, 37, 38, 39, 40, 41, 42, 43, 44, 45, 46, 47, 48, 49, 50, 51, 52, 53, 54, 55, 56, 57, 58, 59, 60] (by decide +kernel) (by decide +kernel)) (goodIn_sub (fun _ h => List.mem_cons_of_mem _ (List.mem_append_left _ (List.mem_append_right _ h))) (by decide +kernel))) (goodIn_sub (fun _ h => List.mem_cons_of_mem _ (List.mem_append_right _ h)) (by decide +kernel))
set_option maxRecDepth 20000 in
theorem gL_bars_X4_bars : GoodIn wsL_bars (wsV RL 73 RX4 yX4_bars wsX4_bars) := goodIn_app (goodIn_of _ (by decide +kernel)) ggL_bars_X4_bars
theorem dL_bars_0 : decode cL_bars 0 = .ok (.aload 5, 2) := by decide +kernel
theorem dL_bars_2 : decode cL_bars 2 = .ok (.iconst 0, 1) := by decide +kernel
theorem dL_bars_3 : decode cL_bars 3 = .ok (.aload_n 0, 1) := by decide +kernel
theorem dL_bars_4 : decode cL_bars 4 = .ok (.iload_n 1, 1) := by decide +kernel
theorem dL_bars_5 : decode cL_bars 5 = .ok (.iload_n 2, 1) := by decide +kernel
theorem dL_bars_6 : decode cL_bars 6 = .ok (.iload_n 3, 1) := by decide +kernel
theorem dL_bars_7 : decode cL_bars 7 = .ok (.iload 4, 2) := by decide +kernel
theorem dL_bars_9 : decode cL_bars 9 = .ok (.invokevirtual 73, 3) := by decide +kernel
theorem dL_bars_12 : decode cL_bars 12 = .ok (.i2l, 1) := by decide +kernel
theorem dL_bars_13 : decode cL_bars 13 = .ok (.lastore, 1) := by decide +kernel
theorem dL_bars_14 : decode cL_bars 14 = .ok (.goto 11, 3) := by decide +kernel
theorem dL_bars_17 : decode cL_bars 17 = .ok (.astore 6, 2) := by decide +kernel
theorem dL_bars_19 : decode cL_bars 19 = .ok (.iconst 1, 1) := by decide +kernel
theorem dL_bars_20 : decode cL_bars 20 = .ok (.ireturn, 1) := by decide +kernel
theorem dL_bars_21 : decode cL_bars 21 = .ok (.astore 6, 2) := by decide +kernel
theorem dL_bars_23 : decode cL_bars 23 = .ok (.iconst 2, 1) := by decide +kernel
theorem dL_bars_24 : decode cL_bars 24 = .ok (.ireturn, 1) := by decide +kernel
theorem dL_bars_25 : decode cL_bars 25 = .ok (.iconst 0, 1) := by decide +kernel
theorem dL_bars_26 : decode cL_bars 26 = .ok (.ireturn, 1) := by decide +kernel
set_option maxRecDepth 20000 in
theorem ggL_ofBatch_X4_ofBatch : GoodIn wsL_ofBatch wsX4_ofBatch := goodIn_ca (goodIn_ca (goodIn_r _ [7, 8, 9, 10, 11, 6, 12, 13, 14, 15, 16, 17, 18, 19, 20, 21, 22, 23, 24, 25, 26, 27, 28, 29, 30, 31, 32, 33, 34, 35, 36, 37, 38, 39, 40, 41, 42, 43, 44, 45, 46, 47, 48, 49, 50, 51, 52, 53, 54, 55, 56, 57, 58, 59, 60, 61, 62, 63, 64, 65, 66] (by decide +kernel) (by decide +kernel)) (goodIn_sub (fun _ h => List.mem_cons_of_mem _ (List.mem_append_left _ (List.mem_append_right _ h))) (by decide +kernel))) (goodIn_sub (fun _ h => List.mem_cons_of_mem _ (List.mem_append_right _ h)) (by decide +kernel))
set_option maxRecDepth 20000 in
theorem gL_ofBatch_X4_ofBatch : GoodIn wsL_ofBatch (wsV RL 76 RX4 yX4_ofBatch wsX4_ofBatch) := goodIn_app (goodIn_of _ (by decide +kernel)) ggL_ofBatch_X4_ofBatch
theorem dL_ofBatch_0 : decode cL_ofBatch 0 = .ok (.aload_n 3, 1) := by decide +kernel
theorem dL_ofBatch_1 : decode cL_ofBatch 1 = .ok (.iconst 0, 1) := by decide +kernel
theorem dL_ofBatch_2 : decode cL_ofBatch 2 = .ok (.aload_n 0, 1) := by decide +kernel
theorem dL_ofBatch_3 : decode cL_ofBatch 3 = .ok (.iload_n 1, 1) := by decide +kernel
theorem dL_ofBatch_4 : decode cL_ofBatch 4 = .ok (.iload_n 2, 1) := by decide +kernel
theorem dL_ofBatch_5 : decode cL_ofBatch 5 = .ok (.invokevirtual 76, 3) := by decide +kernel
theorem dL_ofBatch_8 : decode cL_ofBatch 8 = .ok (.i2l, 1) := by decide +kernel
theorem dL_ofBatch_9 : decode cL_ofBatch 9 = .ok (.lastore, 1) := by decide +kernel
theorem dL_ofBatch_10 : decode cL_ofBatch 10 = .ok (.goto 11, 3) := by decide +kernel
theorem dL_ofBatch_13 : decode cL_ofBatch 13 = .ok (.astore 4, 2) := by decide +kernel
theorem dL_ofBatch_15 : decode cL_ofBatch 15 = .ok (.iconst 1, 1) := by decide +kernel
theorem dL_ofBatch_16 : decode cL_ofBatch 16 = .ok (.ireturn, 1) := by decide +kernel
theorem dL_ofBatch_17 : decode cL_ofBatch 17 = .ok (.astore 4, 2) := by decide +kernel
theorem dL_ofBatch_19 : decode cL_ofBatch 19 = .ok (.iconst 2, 1) := by decide +kernel
theorem dL_ofBatch_20 : decode cL_ofBatch 20 = .ok (.ireturn, 1) := by decide +kernel
theorem dL_ofBatch_21 : decode cL_ofBatch 21 = .ok (.iconst 0, 1) := by decide +kernel
theorem dL_ofBatch_22 : decode cL_ofBatch 22 = .ok (.ireturn, 1) := by decide +kernel
set_option maxRecDepth 20000 in
theorem ggL_crystal_X4_crystal : GoodIn wsL_crystal wsX4_crystal := goodIn_ca (goodIn_r _ [6, 7, 8, 9, 10, 5, 11, 12, 13, 14, 15, 16, 17, 18, 19, 20, 21, 22, 23, 24, 25, 26, 27, 28, 29, 30, 31, 32] (by decide +kernel) (by decide +kernel)) (goodIn_sub (fun _ h => List.mem_cons_of_mem _ (List.mem_append_right _ h)) (by decide +kernel))
set_option maxRecDepth 20000 in
theorem gL_crystal_X4_crystal : GoodIn wsL_crystal (wsV RL 79 RX4 yX4_crystal wsX4_crystal) := goodIn_app (goodIn_of _ (by decide +kernel)) ggL_crystal_X4_crystal
theorem dL_crystal_0 : decode cL_crystal 0 = .ok (.aload_n 2, 1) := by decide +kernel
theorem dL_crystal_1 : decode cL_crystal 1 = .ok (.iconst 0, 1) := by decide +kernel
theorem dL_crystal_2 : decode cL_crystal 2 = .ok (.aload_n 0, 1) := by decide +kernel
theorem dL_crystal_3 : decode cL_crystal 3 = .ok (.iload_n 1, 1) := by decide +kernel
theorem dL_crystal_4 : decode cL_crystal 4 = .ok (.invokevirtual 79, 3) := by decide +kernel
theorem dL_crystal_7 : decode cL_crystal 7 = .ok (.dastore, 1) := by decide +kernel
theorem dL_crystal_8 : decode cL_crystal 8 = .ok (.goto 6, 3) := by decide +kernel
theorem dL_crystal_11 : decode cL_crystal 11 = .ok (.astore_n 3, 1) := by decide +kernel
theorem dL_crystal_12 : decode cL_crystal 12 = .ok (.iconst 1, 1) := by decide +kernel
theorem dL_crystal_13 : decode cL_crystal 13 = .ok (.ireturn, 1) := by decide +kernel
theorem dL_crystal_14 : decode cL_crystal 14 = .ok (.iconst 0, 1) := by decide +kernel
theorem dL_crystal_15 : decode cL_crystal 15 = .ok (.ireturn, 1) := by decide +kernel
set_option maxRecDepth 20000 in
theorem ggL_temp_X4_temp : GoodIn wsL_temp wsX4_temp := goodIn_ca (goodIn_r _ [6, 7, 8, 9, 10, 5, 11, 12, 13, 14, 15, 16, 17, 18, 19, 20, 21, 22, 23, 24, 25, 26, 27, 28, 29] (by decide +kernel) (by decide +kernel)) (goodIn_sub (fun _ h => List.mem_cons_of_mem _ (List.mem_append_right _ h)) (by decide +kernel))
set_option maxRecDepth 20000 in
theorem gL_temp_X4_temp : GoodIn wsL_temp (wsV RL 83 RX4 yX4_temp wsX4_temp) := goodIn_app (goodIn_of _ (by decide +kernel)) ggL_temp_X4_temp
theorem dL_temp_0 : decode cL_temp 0 = .ok (.aload_n 2, 1) := by decide +kernel
theorem dL_temp_1 : decode cL_temp 1 = .ok (.iconst 0, 1) := by decide +kernel
theorem dL_temp_2 : decode cL_temp 2 = .ok (.aload_n 0, 1) := by decide +kernel
theorem dL_temp_3 : decode cL_temp 3 = .ok (.iload_n 1, 1) := by decide +kernel
theorem dL_temp_4 : decode cL_temp 4 = .ok (.invokevirtual 83, 3) := by decide +kernel
theorem dL_temp_7 : decode cL_temp 7 = .ok (.dastore, 1) := by decide +kernel
theorem dL_temp_8 : decode cL_temp 8 = .ok (.goto 6, 3) := by decide +kernel
theorem dL_temp_11 : decode cL_temp 11 = .ok (.astore_n 3, 1) := by decide +kernel
theorem dL_temp_12 : decode cL_temp 12 = .ok (.iconst 1, 1) := by decide +kernel
theorem dL_temp_13 : decode cL_temp 13 = .ok (.ireturn, 1) := by decide +kernel
theorem dL_temp_14 : decode cL_temp 14 = .ok (.iconst 0, 1) := by decide +kernel
theorem dL_temp_15 : decode cL_temp 15 = .ok (.ireturn, 1) := by decide +kernel
set_option maxRecDepth 20000 in
theorem ggL_many_X4_many : GoodIn wsL_many wsX4_many := goodIn_ca (goodIn_r _ [6, 7, 8, 9, 10, 11, 12, 13, 14, 15, 16, 17, 5, 18, 19, 20, 21, 22, 23, 24, 25, 26, 27, 28, 29, 30, 31, 32, 33, 34, 35, 36, 37, 38, 39, 40, 41, 42, 43, 44] (by decide +kernel) (by decide +kernel)) (goodIn_sub (fun _ h => List.mem_cons_of_mem _ (List.mem_append_right _ h)) (by decide +kernel))
set_option maxRecDepth 20000 in
theorem gL_many_X4_many : GoodIn wsL_many (wsV RL 86 RX4 yX4_many wsX4_many) := goodIn_app (goodIn_of _ (by decide +kernel)) ggL_many_X4_many
theorem dL_many_0 : decode cL_many 0 = .ok (.aload_n 2, 1) := by decide +kernel
theorem dL_many_1 : decode cL_many 1 = .ok (.iconst 0, 1) := by decide +kernel
theorem dL_many_2 : decode cL_many 2 = .ok (.aload_n 0, 1) := by decide +kernel
theorem dL_many_3 : decode cL_many 3 = .ok (.iload_n 1, 1) := by decide +kernel
theorem dL_many_4 : decode cL_many 4 = .ok (.invokevirtual 86, 3) := by decide +kernel
theorem dL_many_7 : decode cL_many 7 = .ok (.i2l, 1) := by decide +kernel
theorem dL_many_8 : decode cL_many 8 = .ok (.lastore, 1) := by decide +kernel
theorem dL_many_9 : decode cL_many 9 = .ok (.goto 6, 3) := by decide +kernel
theorem dL_many_12 : decode cL_many 12 = .ok (.astore_n 3, 1) := by decide +kernel
theorem dL_many_13 : decode cL_many 13 = .ok (.iconst 1, 1) := by decide +kernel
theorem dL_many_14 : decode cL_many 14 = .ok (.ireturn, 1) := by decide +kernel
theorem dL_many_15 : decode cL_many 15 = .ok (.iconst 0, 1) := by decide +kernel
theorem dL_many_16 : decode cL_many 16 = .ok (.ireturn, 1) := by decide +kernel
set_option maxRecDepth 20000 in
theorem ggL_day_X4_day : GoodIn wsL_day wsX4_day := goodIn_ca (goodIn_r _ [6, 7, 8, 9, 10, 5, 11, 12, 13, 14, 15, 16, 17, 18, 19, 20, 21, 22, 23, 24, 25, 26, 27, 28, 29, 30, 31, 32, 33, 34, 35, 36, 37, 38, 39, 40, 41, 42, 43, 44, 45, 46, 47, 48, 49, 50, 51, 52, 53, 54, 55, 56, 57, 58, 59, 60, 61, 62, 63, 64, 65, 66] (by decide +kernel) (by decide +kernel)) (goodIn_sub (fun _ h => List.mem_cons_of_mem _ (List.mem_append_right _ h)) (by decide +kernel))
set_option maxRecDepth 20000 in
theorem gL_day_X4_day : GoodIn wsL_day (wsV RL 89 RX4 yX4_day wsX4_day) := goodIn_app (goodIn_of _ (by decide +kernel)) ggL_day_X4_day
theorem dL_day_0 : decode cL_day 0 = .ok (.aload_n 3, 1) := by decide +kernel
theorem dL_day_1 : decode cL_day 1 = .ok (.iconst 0, 1) := by decide +kernel
theorem dL_day_2 : decode cL_day 2 = .ok (.aload_n 0, 1) := by decide +kernel
theorem dL_day_3 : decode cL_day 3 = .ok (.iload_n 1, 1) := by decide +kernel
theorem dL_day_4 : decode cL_day 4 = .ok (.iload_n 2, 1) := by decide +kernel
theorem dL_day_5 : decode cL_day 5 = .ok (.invokevirtual 89, 3) := by decide +kernel
theorem dL_day_8 : decode cL_day 8 = .ok (.i2l, 1) := by decide +kernel
theorem dL_day_9 : decode cL_day 9 = .ok (.lastore, 1) := by decide +kernel
theorem dL_day_10 : decode cL_day 10 = .ok (.goto 7, 3) := by decide +kernel
theorem dL_day_13 : decode cL_day 13 = .ok (.astore 4, 2) := by decide +kernel
theorem dL_day_15 : decode cL_day 15 = .ok (.iconst 1, 1) := by decide +kernel
theorem dL_day_16 : decode cL_day 16 = .ok (.ireturn, 1) := by decide +kernel
theorem dL_day_17 : decode cL_day 17 = .ok (.iconst 0, 1) := by decide +kernel
theorem dL_day_18 : decode cL_day 18 = .ok (.ireturn, 1) := by decide +kernel
set_option maxRecDepth 20000 in
theorem ggL_wouldBe_X4_wouldBe : GoodIn wsL_wouldBe wsX4_wouldBe := goodIn_ca (goodIn_ca (goodIn_r _ [7, 8, 9, 10, 11, 12, 13, 6, 14, 15, 16, 17, 18, 19, 20, 21, 22, 23, 24, 25, 26, 27, 28, 29, 30, 31, 32, 33, 34, 35, 36, 37, 38, 39, 40, 41, 42, 43, 44, 45, 46, 47, 48, 49, 50, 51, 52, 53, 54, 55, 56, 57, 58, 59, 60, 61, 62, 63, 64, 65, 66, 67, 68, 69, 70, 71, 72, 73, 74, 75, 76, 77, 78, 79, 80, 81, 82, 83] (by decide +kernel) (by decide +kernel)) (goodIn_sub (fun _ h => List.mem_cons_of_mem _ (List.mem_append_left _ (List.mem_append_right _ h))) (by decide +kernel))) (goodIn_sub (fun _ h => List.mem_cons_of_mem _ (List.mem_append_right _ h)) (by decide +kernel))
set_option maxRecDepth 20000 in
theorem gL_wouldBe_X4_wouldBe : GoodIn wsL_wouldBe (wsV RL 93 RX4 yX4_wouldBe wsX4_wouldBe) := goodIn_app (goodIn_of _ (by decide +kernel)) ggL_wouldBe_X4_wouldBe
theorem dL_wouldBe_0 : decode cL_wouldBe 0 = .ok (.aload_n 3, 1) := by decide +kernel
theorem dL_wouldBe_1 : decode cL_wouldBe 1 = .ok (.iconst 0, 1) := by decide +kernel
theorem dL_wouldBe_2 : decode cL_wouldBe 2 = .ok (.aload_n 0, 1) := by decide +kernel
theorem dL_wouldBe_3 : decode cL_wouldBe 3 = .ok (.iload_n 1, 1) := by decide +kernel
theorem dL_wouldBe_4 : decode cL_wouldBe 4 = .ok (.iload_n 2, 1) := by decide +kernel
theorem dL_wouldBe_5 : decode cL_wouldBe 5 = .ok (.invokevirtual 93, 3) := by decide +kernel
theorem dL_wouldBe_8 : decode cL_wouldBe 8 = .ok (.dastore, 1) := by decide +kernel
theorem dL_wouldBe_9 : decode cL_wouldBe 9 = .ok (.goto 11, 3) := by decide +kernel
theorem dL_wouldBe_12 : decode cL_wouldBe 12 = .ok (.astore 4, 2) := by decide +kernel
theorem dL_wouldBe_14 : decode cL_wouldBe 14 = .ok (.iconst 1, 1) := by decide +kernel
theorem dL_wouldBe_15 : decode cL_wouldBe 15 = .ok (.ireturn, 1) := by decide +kernel
theorem dL_wouldBe_16 : decode cL_wouldBe 16 = .ok (.astore 4, 2) := by decide +kernel
theorem dL_wouldBe_18 : decode cL_wouldBe 18 = .ok (.iconst 2, 1) := by decide +kernel
theorem dL_wouldBe_19 : decode cL_wouldBe 19 = .ok (.ireturn, 1) := by decide +kernel
theorem dL_wouldBe_20 : decode cL_wouldBe 20 = .ok (.iconst 0, 1) := by decide +kernel
theorem dL_wouldBe_21 : decode cL_wouldBe 21 = .ok (.ireturn, 1) := by decide +kernel
set_option maxRecDepth 20000 in
theorem ggL_wouldSpoil_X4_wouldSpoil : GoodIn wsL_wouldSpoil wsX4_wouldSpoil := goodIn_ca (goodIn_ca (goodIn_r _ [7, 8, 9, 10, 11, 12, 13, 14, 6, 15, 16, 17, 18, 19, 20, 21, 22, 23, 24, 25, 26, 27, 28, 29, 30, 31, 32, 33, 34, 35, 36, 37, 38, 39, 40, 41, 42, 43, 44, 45, 46, 47, 48, 49, 50, 51, 52, 53, 54, 55, 56, 57, 58, 59, 60, 61, 62, 63, 64, 65, 66, 67, 68, 69, 70, 71, 72, 73, 74, 75, 76, 77, 78, 79, 80, 81, 82, 83, 84, 85, 86, 87, 88, 89, 90, 91] (by decide +kernel) (by decide +kernel)) (goodIn_sub (fun _ h => List.mem_cons_of_mem _ (List.mem_append_left _ (List.mem_append_right _ h))) (by decide +kernel))) (goodIn_sub (fun _ h => List.mem_cons_of_mem _ (List.mem_append_right _ h)) (by decide +kernel))
set_option maxRecDepth 20000 in
theorem gL_wouldSpoil_X4_wouldSpoil : GoodIn wsL_wouldSpoil (wsV RL 96 RX4 yX4_wouldSpoil wsX4_wouldSpoil) := goodIn_app (goodIn_of _ (by decide +kernel)) ggL_wouldSpoil_X4_wouldSpoil
theorem dL_wouldSpoil_0 : decode cL_wouldSpoil 0 = .ok (.aload_n 3, 1) := by decide +kernel
theorem dL_wouldSpoil_1 : decode cL_wouldSpoil 1 = .ok (.iconst 0, 1) := by decide +kernel
theorem dL_wouldSpoil_2 : decode cL_wouldSpoil 2 = .ok (.aload_n 0, 1) := by decide +kernel
theorem dL_wouldSpoil_3 : decode cL_wouldSpoil 3 = .ok (.iload_n 1, 1) := by decide +kernel
theorem dL_wouldSpoil_4 : decode cL_wouldSpoil 4 = .ok (.iload_n 2, 1) := by decide +kernel
theorem dL_wouldSpoil_5 : decode cL_wouldSpoil 5 = .ok (.invokevirtual 96, 3) := by decide +kernel
theorem dL_wouldSpoil_8 : decode cL_wouldSpoil 8 = .ok (.i2l, 1) := by decide +kernel
theorem dL_wouldSpoil_9 : decode cL_wouldSpoil 9 = .ok (.lastore, 1) := by decide +kernel
theorem dL_wouldSpoil_10 : decode cL_wouldSpoil 10 = .ok (.goto 11, 3) := by decide +kernel
theorem dL_wouldSpoil_13 : decode cL_wouldSpoil 13 = .ok (.astore 4, 2) := by decide +kernel
theorem dL_wouldSpoil_15 : decode cL_wouldSpoil 15 = .ok (.iconst 1, 1) := by decide +kernel
theorem dL_wouldSpoil_16 : decode cL_wouldSpoil 16 = .ok (.ireturn, 1) := by decide +kernel
theorem dL_wouldSpoil_17 : decode cL_wouldSpoil 17 = .ok (.astore 4, 2) := by decide +kernel
theorem dL_wouldSpoil_19 : decode cL_wouldSpoil 19 = .ok (.iconst 2, 1) := by decide +kernel
theorem dL_wouldSpoil_20 : decode cL_wouldSpoil 20 = .ok (.ireturn, 1) := by decide +kernel
theorem dL_wouldSpoil_21 : decode cL_wouldSpoil 21 = .ok (.iconst 0, 1) := by decide +kernel
theorem dL_wouldSpoil_22 : decode cL_wouldSpoil 22 = .ok (.ireturn, 1) := by decide +kernel
set_option maxRecDepth 20000 in
theorem ggL_law_X4_init : GoodIn wsL_law wsX4_init := goodIn_r _ [10, 11, 12, 13, 14, 15, 16, 17, 18, 19, 20, 21, 22, 23, 24, 25, 26, 27, 28, 29, 30, 31, 32, 33, 34, 35, 36, 37, 38, 39, 40, 41, 42, 43, 44, 45, 46, 47, 48, 49, 50, 51, 52, 53, 54, 55, 56, 57, 58, 59, 60, 61, 62, 63, 64, 65, 66, 67, 68, 69, 70, 71, 72, 73, 74, 75, 76, 806, 807, 808, 809, 810, 811, 812, 813, 814, 815, 816, 817, 818, 819, 829, 830, 831, 832, 833, 834, 835, 836, 837, 838, 839, 840, 841, 842, 843, 844, 845, 846, 847, 848, 849, 850, 851, 852] (by decide +kernel) (by decide +kernel)
set_option maxRecDepth 20000 in
theorem gL_law_X4_init : GoodIn wsL_law (wsX4_init) := ggL_law_X4_init
set_option maxRecDepth 20000 in
theorem ggL_law_X7_init : GoodIn wsL_law wsX7_init := goodIn_r _ [79, 80, 12, 13, 81, 82, 83, 84, 85, 86, 87, 88, 89, 22, 90, 91, 92, 93, 94, 95, 96, 97, 98, 99, 100, 101, 102, 103, 104, 105, 106, 107, 108, 109, 110, 111, 112, 113, 114, 7, 115, 116, 117, 853, 854, 855, 820, 821, 822, 823, 824, 825, 826, 827, 828, 856, 857, 858, 859, 860, 861, 862, 863, 864, 865] (by decide +kernel) (by decide +kernel)
set_option maxRecDepth 20000 in
theorem gL_law_X7_init : GoodIn wsL_law (wsX7_init) := ggL_law_X7_init
set_option maxRecDepth 20000 in
theorem ggL_law_L_ingredient : GoodIn wsL_law wsL_ingredient := goodIn_ca (goodIn_ca (goodIn_r _ [121, 122, 123, 124, 125, 126, 2, 127, 24, 15, 128, 129, 130, 131, 132, 133, 134, 135, 136, 137, 806, 807, 808, 809, 810, 811, 812, 813, 814, 815, 816, 817, 818, 819, 829, 830, 831, 832, 833] (by decide +kernel) (by decide +kernel)) (goodIn_sub (fun _ h => List.mem_append_left _ (List.mem_append_left _ (List.mem_append_right _ h))) (by decide +kernel))) (goodIn_sub (fun _ h => List.mem_append_left _ (List.mem_append_right _ h)) (by decide +kernel))
set_option maxRecDepth 20000 in
theorem gL_law_L_ingredient : GoodIn wsL_law (va_wsS RL 103 yL_ingredient wsL_ingredient) := goodIn_app (goodIn_of _ (by decide +kernel)) ggL_law_L_ingredient
set_option maxRecDepth 20000 in
theorem ggL_law_X7_ingredient : GoodIn wsL_law wsX7_ingredient := goodIn_r _ [141, 142, 143, 84, 22, 144, 145, 5, 146, 147, 148, 149, 150, 151, 152, 153, 83, 154, 155, 156, 157, 158, 159, 160, 161, 95, 162, 163, 164, 165, 166, 167, 168, 169, 170, 171, 172, 173, 94, 174, 175, 176, 177, 178, 179, 180, 181, 182, 183, 184, 185, 186, 187, 188, 189, 190, 191, 192, 193, 194, 195, 196, 197, 198, 199, 200, 201, 202, 203, 204, 205, 206, 207, 820, 821, 822, 823, 824, 825, 826, 827, 828, 853, 854, 855] (by decide +kernel) (by decide +kernel)
set_option maxRecDepth 20000 in
theorem gL_law_X7_ingredient : GoodIn wsL_law (wsV RL 108 RX7 yX7_ingredient wsX7_ingredient) := goodIn_app (goodIn_of _ (by decide +kernel)) ggL_law_X7_ingredient
set_option maxRecDepth 20000 in
theorem ggL_law_X7_thrown : GoodIn wsL_law wsX7_thrown := goodIn_r _ [211, 142, 820, 821, 822, 823, 824, 825, 826, 827, 828] (by decide +kernel) (by decide +kernel)
set_option maxRecDepth 20000 in
theorem gL_law_X7_thrown : GoodIn wsL_law (wsV RL 109 RX7 yX7_thrown wsX7_thrown) := goodIn_app (goodIn_of _ (by decide +kernel)) ggL_law_X7_thrown
set_option maxRecDepth 20000 in
theorem ggL_law_L_mix : GoodIn wsL_law wsL_mix := goodIn_ca (goodIn_ca (goodIn_ca (goodIn_r _ [214, 215, 122, 123, 216, 217, 218, 2, 219, 24, 25, 17, 15, 220, 221, 222, 223, 224, 128, 129, 130, 131, 132, 133, 134, 135, 136, 137, 225, 36, 226, 227, 52, 53, 54, 55, 56, 57, 58, 59, 62, 228, 229, 63, 230, 231, 232, 233, 234, 806, 807, 808, 809, 810, 811, 812, 813, 814, 815, 816, 817, 818, 819, 834, 835, 836, 837, 838, 839, 840, 841, 842, 843, 844, 845, 829, 830, 831, 832, 833] (by decide +kernel) (by decide +kernel)) (goodIn_sub (fun _ h => List.mem_append_right _ h) (by decide +kernel))) (goodIn_sub (fun _ h => List.mem_append_left _ (List.mem_append_left _ (List.mem_append_right _ h))) (by decide +kernel))) (goodIn_sub (fun _ h => List.mem_append_left _ (List.mem_append_right _ h)) (by decide +kernel))
set_option maxRecDepth 20000 in
theorem gL_law_L_mix : GoodIn wsL_law (va_wsS RL 113 yL_mix wsL_mix) := goodIn_app (goodIn_of _ (by decide +kernel)) ggL_law_L_mix
set_option maxRecDepth 20000 in
theorem ggL_law_X7_mix : GoodIn wsL_law wsX7_mix := goodIn_r _ [238, 142, 85, 239, 240, 241, 242, 243, 244, 5, 245, 84, 151, 152, 153, 83, 154, 155, 144, 145, 146, 147, 148, 149, 150, 246, 247, 248, 249, 12, 13, 22, 250, 251, 252, 253, 254, 255, 256, 257, 258, 259, 260, 156, 157, 158, 159, 160, 161, 95, 162, 163, 164, 165, 166, 167, 168, 169, 170, 171, 172, 173, 94, 174, 175, 176, 177, 178, 179, 180, 181, 182, 183, 184, 185, 186, 187, 188, 189, 190, 191, 192, 193, 194, 195, 196, 197, 198, 199, 200, 201, 202, 203, 204, 205, 206, 207, 820, 821, 822, 823, 824, 825, 826, 827, 828, 866, 867, 868, 869, 870, 853, 854, 855] (by decide +kernel) (by decide +kernel)
set_option maxRecDepth 20000 in
theorem gL_law_X7_mix : GoodIn wsL_law (wsV RL 116 RX7 yX7_mix wsX7_mix) := goodIn_app (goodIn_of _ (by decide +kernel)) ggL_law_X7_mix
set_option maxRecDepth 20000 in
theorem ggL_law_L_put : GoodIn wsL_law wsL_put := goodIn_ca (goodIn_ca (goodIn_ca (goodIn_r _ [263, 215, 122, 123, 264, 265, 266, 2, 267, 136, 137, 25, 24, 17, 15, 220, 221, 222, 223, 224, 128, 129, 130, 131, 132, 225, 36, 226, 227, 52, 53, 54, 55, 56, 57, 58, 59, 62, 228, 229, 63, 230, 231, 232, 233, 234, 806, 807, 808, 809, 810, 811, 812, 813, 814, 815, 816, 817, 818, 819, 834, 835, 836, 837, 838, 839, 840, 841, 842, 843, 844, 845, 829, 830, 831, 832, 833] (by decide +kernel) (by decide +kernel)) (goodIn_sub (fun _ h => List.mem_append_left _ (List.mem_append_right _ h)) (by decide +kernel))) (goodIn_sub (fun _ h => List.mem_append_right _ h) (by decide +kernel))) (goodIn_sub (fun _ h => List.mem_append_left _ (List.mem_append_left _ (List.mem_append_right _ h))) (by decide +kernel))
set_option maxRecDepth 20000 in
theorem gL_law_L_put : GoodIn wsL_law (va_wsS RL 117 yL_put wsL_put) := goodIn_app (goodIn_of _ (by decide +kernel)) ggL_law_L_put
set_option maxRecDepth 20000 in
theorem ggL_law_X7_put : GoodIn wsL_law wsX7_put := goodIn_r _ [271, 142, 85, 272, 273, 274, 275, 5, 276, 151, 152, 153, 83, 154, 155, 144, 145, 146, 242, 243, 244, 245, 84, 147, 148, 149, 150, 277, 278, 279, 280, 281, 282, 283, 284, 285, 286, 287, 288, 289, 290, 291, 292, 95, 293, 258, 259, 241, 260, 250, 294, 295, 296, 297, 89, 298, 299, 251, 252, 253, 254, 255, 256, 257, 820, 821, 822, 823, 824, 825, 826, 827, 828, 853, 854, 855, 866, 867, 868, 869, 870, 856, 857, 858, 859, 860, 861, 862, 863, 864, 865] (by decide +kernel) (by decide +kernel)
set_option maxRecDepth 20000 in
theorem gL_law_X7_put : GoodIn wsL_law (wsV RL 120 RX7 yX7_put wsX7_put) := goodIn_app (goodIn_of _ (by decide +kernel)) ggL_law_X7_put
set_option maxRecDepth 20000 in
theorem ggL_law_L_heat : GoodIn wsL_law wsL_heat := goodIn_ca (goodIn_ca (goodIn_r _ [302, 215, 122, 303, 304, 305, 2, 306, 25, 17, 220, 221, 222, 223, 224, 128, 129, 130, 131, 132, 307, 308, 309, 806, 807, 808, 809, 810, 811, 812, 813, 814, 815, 816, 817, 818, 819, 834, 835, 836, 837, 838, 839, 840, 841, 842, 843, 844, 845] (by decide +kernel) (by decide +kernel)) (goodIn_sub (fun _ h => List.mem_append_right _ h) (by decide +kernel))) (goodIn_sub (fun _ h => List.mem_append_left _ (List.mem_append_left _ (List.mem_append_right _ h))) (by decide +kernel))
set_option maxRecDepth 20000 in
theorem gL_law_L_heat : GoodIn wsL_law (va_wsS RL 121 yL_heat wsL_heat) := goodIn_app (goodIn_of _ (by decide +kernel)) ggL_law_L_heat
set_option maxRecDepth 20000 in
theorem ggL_law_X7_heat : GoodIn wsL_law wsX7_heat := goodIn_r _ [313, 142, 85, 272, 314, 315, 273, 274, 275, 5, 276, 151, 152, 153, 83, 154, 155, 144, 145, 146, 147, 148, 149, 150, 277, 278, 279, 280, 281, 282, 283, 284, 285, 286, 287, 288, 289, 290, 291, 292, 95, 820, 821, 822, 823, 824, 825, 826, 827, 828, 866, 867, 868, 869, 870, 853, 854, 855] (by decide +kernel) (by decide +kernel)
set_option maxRecDepth 20000 in
theorem gL_law_X7_heat : GoodIn wsL_law (wsV RL 123 RX7 yX7_heat wsX7_heat) := goodIn_app (goodIn_of _ (by decide +kernel)) ggL_law_X7_heat
set_option maxRecDepth 20000 in
theorem ggL_law_L_run : GoodIn wsL_law wsL_run := goodIn_ca (goodIn_ca (goodIn_r _ [318, 215, 122, 319, 320, 321, 2, 322, 17, 23, 19, 26, 323, 324, 325, 326, 327, 25, 220, 221, 222, 223, 224, 128, 129, 130, 131, 132, 328, 36, 329, 330, 54, 234, 55, 331, 230, 231, 232, 233, 52, 806, 807, 808, 809, 810, 811, 812, 813, 814, 815, 816, 817, 818, 819, 834, 835, 836, 837, 838, 839, 840, 841, 842, 843, 844, 845, 846, 847, 848, 849, 850] (by decide +kernel) (by decide +kernel)) (goodIn_sub (fun _ h => List.mem_append_right _ h) (by decide +kernel))) (goodIn_sub (fun _ h => List.mem_append_left _ (List.mem_append_left _ (List.mem_append_right _ h))) (by decide +kernel))
set_option maxRecDepth 20000 in
theorem gL_law_L_run : GoodIn wsL_law (va_wsS RL 124 yL_run wsL_run) := goodIn_app (goodIn_of _ (by decide +kernel)) ggL_law_L_run
set_option maxRecDepth 20000 in
theorem ggL_law_X7_run : GoodIn wsL_law wsX7_run := goodIn_r _ [335, 85, 272, 336, 90, 89, 298, 299, 337, 338, 339, 340, 341, 342, 343, 5, 344, 142, 144, 145, 146, 273, 274, 275, 276, 151, 152, 153, 83, 154, 155, 277, 278, 279, 280, 281, 282, 283, 284, 285, 286, 287, 288, 289, 290, 291, 292, 95, 345, 346, 347, 348, 314, 315, 349, 350, 351, 241, 352, 248, 250, 353, 354, 355, 356, 357, 358, 359, 360, 361, 362, 363, 364, 365, 366, 367, 368, 369, 257, 258, 259, 260, 820, 821, 822, 823, 824, 825, 826, 827, 828, 866, 867, 868, 869, 870, 856, 857, 858, 859, 860, 861, 862, 863, 864, 865, 853, 854, 855] (by decide +kernel) (by decide +kernel)
set_option maxRecDepth 20000 in
theorem gL_law_X7_run : GoodIn wsL_law (wsV RL 127 RX7 yX7_run wsX7_run) := goodIn_app (goodIn_of _ (by decide +kernel)) ggL_law_X7_run
set_option maxRecDepth 20000 in
theorem ggL_law_L_wash : GoodIn wsL_law wsL_wash := goodIn_ca (goodIn_r _ [372, 215, 373, 374, 375, 2, 376, 23, 30, 220, 221, 222, 223, 224, 806, 807, 808, 809, 810, 811, 812, 813, 814, 815, 816, 817, 818, 819] (by decide +kernel) (by decide +kernel)) (goodIn_sub (fun _ h => List.mem_append_right _ h) (by decide +kernel))
set_option maxRecDepth 20000 in
theorem gL_law_L_wash : GoodIn wsL_law (va_wsS RL 128 yL_wash wsL_wash) := goodIn_app (goodIn_of _ (by decide +kernel)) ggL_law_L_wash
set_option maxRecDepth 20000 in
theorem ggL_law_X7_wash : GoodIn wsL_law wsX7_wash := goodIn_r _ [380, 142, 90, 381, 144, 145, 5, 146, 147, 148, 149, 150, 820, 821, 822, 823, 824, 825, 826, 827, 828] (by decide +kernel) (by decide +kernel)
set_option maxRecDepth 20000 in
theorem gL_law_X7_wash : GoodIn wsL_law (wsV RL 131 RX7 yX7_wash wsX7_wash) := goodIn_app (goodIn_of _ (by decide +kernel)) ggL_law_X7_wash
set_option maxRecDepth 20000 in
theorem ggL_law_L_harden : GoodIn wsL_law wsL_harden := goodIn_ca (goodIn_ca (goodIn_ca (goodIn_r _ [384, 215, 122, 123, 385, 386, 387, 2, 388, 136, 137, 26, 19, 389, 220, 221, 222, 223, 224, 128, 129, 130, 131, 132, 806, 807, 808, 809, 810, 811, 812, 813, 814, 815, 816, 817, 818, 819, 846, 847, 848, 849, 850] (by decide +kernel) (by decide +kernel)) (goodIn_sub (fun _ h => List.mem_append_left _ (List.mem_append_right _ h)) (by decide +kernel))) (goodIn_sub (fun _ h => List.mem_append_right _ h) (by decide +kernel))) (goodIn_sub (fun _ h => List.mem_append_left _ (List.mem_append_left _ (List.mem_append_right _ h))) (by decide +kernel))
set_option maxRecDepth 20000 in
theorem gL_law_L_harden : GoodIn wsL_law (va_wsS RL 132 yL_harden wsL_harden) := goodIn_app (goodIn_of _ (by decide +kernel)) ggL_law_L_harden
set_option maxRecDepth 20000 in
theorem ggL_law_X7_harden : GoodIn wsL_law wsX7_harden := goodIn_r _ [393, 142, 89, 338, 394, 339, 395, 396, 397, 398, 5, 399, 298, 144, 145, 146, 147, 148, 149, 150, 820, 821, 822, 823, 824, 825, 826, 827, 828, 856, 857, 858, 859, 860, 861, 862, 863, 864, 865] (by decide +kernel) (by decide +kernel)
set_option maxRecDepth 20000 in
theorem gL_law_X7_harden : GoodIn wsL_law (wsV RL 135 RX7 yX7_harden wsX7_harden) := goodIn_app (goodIn_of _ (by decide +kernel)) ggL_law_X7_harden
set_option maxRecDepth 20000 in
theorem ggL_law_L_store : GoodIn wsL_law wsL_store := goodIn_ca (goodIn_ca (goodIn_r _ [402, 122, 123, 403, 404, 405, 2, 406, 27, 21, 128, 129, 130, 131, 132, 133, 134, 135, 136, 137, 806, 807, 808, 809, 810, 811, 812, 813, 814, 815, 816, 817, 818, 819, 851, 852] (by decide +kernel) (by decide +kernel)) (goodIn_sub (fun _ h => List.mem_append_left _ (List.mem_append_left _ (List.mem_append_right _ h))) (by decide +kernel))) (goodIn_sub (fun _ h => List.mem_append_left _ (List.mem_append_right _ h)) (by decide +kernel))
set_option maxRecDepth 20000 in
theorem gL_law_L_store : GoodIn wsL_law (va_wsS RL 136 yL_store wsL_store) := goodIn_app (goodIn_of _ (by decide +kernel)) ggL_law_L_store
set_option maxRecDepth 20000 in
theorem ggL_law_X7_store : GoodIn wsL_law wsX7_store := goodIn_r _ [410, 142, 89, 411, 412, 413, 144, 145, 5, 146, 147, 148, 149, 150, 820, 821, 822, 823, 824, 825, 826, 827, 828, 856, 857, 858, 859, 860, 861, 862, 863, 864, 865] (by decide +kernel) (by decide +kernel)
set_option maxRecDepth 20000 in
theorem gL_law_X7_store : GoodIn wsL_law (wsV RL 138 RX7 yX7_store wsX7_store) := goodIn_app (goodIn_of _ (by decide +kernel)) ggL_law_X7_store
set_option maxRecDepth 20000 in
theorem ggL_law_L_set : GoodIn wsL_law wsL_set := goodIn_ca (goodIn_ca (goodIn_r _ [416, 215, 122, 417, 418, 419, 2, 420, 27, 21, 220, 221, 222, 223, 224, 128, 129, 130, 131, 132, 806, 807, 808, 809, 810, 811, 812, 813, 814, 815, 816, 817, 818, 819, 851, 852] (by decide +kernel) (by decide +kernel)) (goodIn_sub (fun _ h => List.mem_append_right _ h) (by decide +kernel))) (goodIn_sub (fun _ h => List.mem_append_left _ (List.mem_append_left _ (List.mem_append_right _ h))) (by decide +kernel))
set_option maxRecDepth 20000 in
theorem gL_law_L_set : GoodIn wsL_law (va_wsS RL 139 yL_set wsL_set) := goodIn_app (goodIn_of _ (by decide +kernel)) ggL_law_L_set
set_option maxRecDepth 20000 in
theorem ggL_law_X7_set : GoodIn wsL_law wsX7_set := goodIn_r _ [424, 142, 89, 412, 425, 426, 427, 5, 428, 411, 144, 145, 146, 147, 148, 149, 150, 820, 821, 822, 823, 824, 825, 826, 827, 828, 856, 857, 858, 859, 860, 861, 862, 863, 864, 865] (by decide +kernel) (by decide +kernel)
set_option maxRecDepth 20000 in
theorem gL_law_X7_set : GoodIn wsL_law (wsV RL 141 RX7 yX7_set wsX7_set) := goodIn_app (goodIn_of _ (by decide +kernel)) ggL_law_X7_set
set_option maxRecDepth 20000 in
theorem ggL_law_L_lay : GoodIn wsL_law wsL_lay := goodIn_ca (goodIn_ca (goodIn_r _ [431, 215, 123, 432, 433, 434, 2, 435, 136, 137, 26, 27, 19, 220, 221, 222, 223, 224, 436, 437, 438, 439, 806, 807, 808, 809, 810, 811, 812, 813, 814, 815, 816, 817, 818, 819, 846, 847, 848, 849, 850] (by decide +kernel) (by decide +kernel)) (goodIn_sub (fun _ h => List.mem_append_left _ (List.mem_append_right _ h)) (by decide +kernel))) (goodIn_sub (fun _ h => List.mem_append_right _ h) (by decide +kernel))
set_option maxRecDepth 20000 in
theorem gL_law_L_lay : GoodIn wsL_law (va_wsS RL 142 yL_lay wsL_lay) := goodIn_app (goodIn_of _ (by decide +kernel)) ggL_law_L_lay
set_option maxRecDepth 20000 in
theorem ggL_law_X7_lay : GoodIn wsL_law wsX7_lay := goodIn_r _ [443, 142, 89, 394, 338, 396, 397, 398, 5, 399, 298, 144, 145, 146, 425, 426, 427, 428, 411, 147, 148, 149, 150, 444, 445, 446, 88, 447, 448, 114, 820, 821, 822, 823, 824, 825, 826, 827, 828, 856, 857, 858, 859, 860, 861, 862, 863, 864, 865] (by decide +kernel) (by decide +kernel)
set_option maxRecDepth 20000 in
theorem gL_law_X7_lay : GoodIn wsL_law (wsV RL 144 RX7 yX7_lay wsX7_lay) := goodIn_app (goodIn_of _ (by decide +kernel)) ggL_law_X7_lay
set_option maxRecDepth 20000 in
theorem ggL_law_L_door : GoodIn wsL_law wsL_door := goodIn_ca (goodIn_ca (goodIn_r _ [451, 215, 122, 452, 453, 454, 2, 455, 27, 21, 220, 221, 222, 223, 224, 128, 129, 130, 131, 132, 456, 457, 458, 459, 460, 806, 807, 808, 809, 810, 811, 812, 813, 814, 815, 816, 817, 818, 819, 851, 852] (by decide +kernel) (by decide +kernel)) (goodIn_sub (fun _ h => List.mem_append_right _ h) (by decide +kernel))) (goodIn_sub (fun _ h => List.mem_append_left _ (List.mem_append_left _ (List.mem_append_right _ h))) (by decide +kernel))
set_option maxRecDepth 20000 in
theorem gL_law_L_door : GoodIn wsL_law (va_wsS RL 145 yL_door wsL_door) := goodIn_app (goodIn_of _ (by decide +kernel)) ggL_law_L_door
set_option maxRecDepth 20000 in
theorem ggL_law_X7_door : GoodIn wsL_law wsX7_door := goodIn_r _ [464, 142, 89, 413, 425, 426, 427, 5, 428, 411, 144, 145, 146, 147, 148, 149, 150, 465, 466, 467, 88, 468, 117, 469, 470, 471, 472, 473, 474, 475, 476, 477, 478, 479, 820, 821, 822, 823, 824, 825, 826, 827, 828, 856, 857, 858, 859, 860, 861, 862, 863, 864, 865] (by decide +kernel) (by decide +kernel)
set_option maxRecDepth 20000 in
theorem gL_law_X7_door : GoodIn wsL_law (wsV RL 147 RX7 yX7_door wsX7_door) := goodIn_app (goodIn_of _ (by decide +kernel)) ggL_law_X7_door
set_option maxRecDepth 20000 in
theorem ggL_law_L_pass : GoodIn wsL_law wsL_pass := goodIn_ca (goodIn_r _ [482, 122, 483, 484, 485, 2, 486, 128, 129, 130, 131, 132, 487, 488, 489, 490, 25, 17, 26, 19, 27, 28, 491, 492, 493, 494, 21, 495, 40, 496, 497, 75, 498, 499, 36, 500, 501, 502, 503, 504, 505, 506, 63, 507, 508, 509, 436, 437, 438, 439, 806, 807, 808, 809, 810, 811, 812, 813, 814, 815, 816, 817, 818, 819, 834, 835, 836, 837, 838, 839, 840, 841, 842, 843, 844, 845, 846, 847, 848, 849, 850, 851, 852] (by decide +kernel) (by decide +kernel)) (goodIn_sub (fun _ h => List.mem_append_left _ (List.mem_append_left _ (List.mem_append_right _ h))) (by decide +kernel))
set_option maxRecDepth 20000 in
theorem gL_law_L_pass : GoodIn wsL_law (va_wsS RL 148 yL_pass wsL_pass) := goodIn_app (goodIn_of _ (by decide +kernel)) ggL_law_L_pass
set_option maxRecDepth 20000 in
theorem ggL_law_X7_pass : GoodIn wsL_law wsX7_pass := goodIn_r _ [513, 142, 89, 85, 272, 315, 514, 144, 145, 5, 146, 147, 148, 149, 150, 515, 516, 517, 88, 518, 448, 114, 113, 519, 117, 116, 520, 108, 110, 521, 115, 522, 523, 278, 279, 83, 280, 155, 281, 282, 283, 284, 285, 286, 287, 288, 289, 290, 291, 292, 95, 524, 525, 526, 241, 527, 528, 529, 530, 531, 532, 533, 362, 363, 364, 365, 360, 366, 367, 368, 369, 248, 250, 353, 354, 152, 153, 154, 355, 257, 258, 259, 260, 534, 535, 473, 536, 475, 476, 477, 478, 537, 538, 539, 540, 541, 151, 277, 444, 445, 446, 447, 820, 821, 822, 823, 824, 825, 826, 827, 828, 866, 867, 868, 869, 870, 856, 857, 858, 859, 860, 861, 862, 863, 864, 865, 853, 854, 855] (by decide +kernel) (by decide +kernel)
set_option maxRecDepth 20000 in
theorem gL_law_X7_pass : GoodIn wsL_law (wsV RL 150 RX7 yX7_pass wsX7_pass) := goodIn_app (goodIn_of _ (by decide +kernel)) ggL_law_X7_pass
set_option maxRecDepth 20000 in
theorem ggL_law_L_sell : GoodIn wsL_law wsL_sell := goodIn_ca (goodIn_ca (goodIn_ca (goodIn_r _ [544, 215, 122, 123, 545, 546, 547, 2, 548, 136, 137, 26, 19, 29, 220, 221, 222, 223, 224, 128, 129, 130, 131, 132, 549, 38, 550, 551, 69, 552, 553, 554, 71, 555, 556, 557, 558, 559, 31, 560, 561, 562, 563, 17, 806, 807, 808, 809, 810, 811, 812, 813, 814, 815, 816, 817, 818, 819, 846, 847, 848, 849, 850, 834, 835, 836, 837, 838, 839, 840, 841, 842, 843, 844, 845] (by decide +kernel) (by decide +kernel)) (goodIn_sub (fun _ h => List.mem_append_left _ (List.mem_append_right _ h)) (by decide +kernel))) (goodIn_sub (fun _ h => List.mem_append_right _ h) (by decide +kernel))) (goodIn_sub (fun _ h => List.mem_append_left _ (List.mem_append_left _ (List.mem_append_right _ h))) (by decide +kernel))
set_option maxRecDepth 20000 in
theorem gL_law_L_sell : GoodIn wsL_law (va_wsS RL 151 yL_sell wsL_sell) := goodIn_app (goodIn_of _ (by decide +kernel)) ggL_law_L_sell
set_option maxRecDepth 20000 in
theorem ggL_law_X7_sell : GoodIn wsL_law wsX7_sell := goodIn_r _ [567, 142, 89, 338, 568, 337, 396, 397, 398, 5, 399, 298, 144, 145, 146, 147, 148, 149, 150, 569, 570, 571, 88, 572, 115, 573, 574, 575, 576, 577, 85, 299, 272, 578, 277, 278, 279, 83, 280, 155, 281, 282, 283, 284, 285, 286, 287, 288, 289, 290, 291, 292, 95, 579, 580, 581, 241, 582, 250, 820, 821, 822, 823, 824, 825, 826, 827, 828, 856, 857, 858, 859, 860, 861, 862, 863, 864, 865, 853, 854, 855, 866, 867, 868, 869, 870] (by decide +kernel) (by decide +kernel)
set_option maxRecDepth 20000 in
theorem gL_law_X7_sell : GoodIn wsL_law (wsV RL 153 RX7 yX7_sell wsX7_sell) := goodIn_app (goodIn_of _ (by decide +kernel)) ggL_law_X7_sell
set_option maxRecDepth 20000 in
theorem ggL_law_L_call : GoodIn wsL_law wsL_call := goodIn_ca (goodIn_r _ [585, 215, 586, 587, 588, 2, 589, 24, 31, 26, 19, 220, 221, 222, 223, 224, 560, 561, 562, 563, 17, 806, 807, 808, 809, 810, 811, 812, 813, 814, 815, 816, 817, 818, 819, 846, 847, 848, 849, 850, 834, 835, 836, 837, 838, 839, 840, 841, 842, 843, 844, 845] (by decide +kernel) (by decide +kernel)) (goodIn_sub (fun _ h => List.mem_append_right _ h) (by decide +kernel))
set_option maxRecDepth 20000 in
theorem gL_law_L_call : GoodIn wsL_law (va_wsS RL 154 yL_call wsL_call) := goodIn_app (goodIn_of _ (by decide +kernel)) ggL_law_L_call
set_option maxRecDepth 20000 in
theorem ggL_law_X7_call : GoodIn wsL_law wsX7_call := goodIn_r _ [593, 142, 578, 89, 298, 338, 85, 299, 272, 594, 337, 242, 243, 244, 5, 245, 84, 151, 152, 153, 83, 154, 155, 144, 145, 146, 147, 148, 149, 150, 277, 278, 279, 280, 281, 282, 283, 284, 285, 286, 287, 288, 289, 290, 291, 292, 95, 820, 821, 822, 823, 824, 825, 826, 827, 828, 856, 857, 858, 859, 860, 861, 862, 863, 864, 865, 866, 867, 868, 869, 870, 853, 854, 855] (by decide +kernel) (by decide +kernel)
set_option maxRecDepth 20000 in
theorem gL_law_X7_call : GoodIn wsL_law (wsV RL 156 RX7 yX7_call wsX7_call) := goodIn_app (goodIn_of _ (by decide +kernel)) ggL_law_X7_call
set_option maxRecDepth 20000 in
theorem ggL_law_L_ofMix : GoodIn wsL_law wsL_ofMix := goodIn_ca (goodIn_ca (goodIn_r _ [597, 215, 122, 598, 599, 600, 2, 601, 25, 17, 220, 221, 222, 223, 224, 128, 129, 130, 131, 132, 328, 36, 329, 330, 54, 234, 55, 331, 230, 231, 232, 233, 52, 806, 807, 808, 809, 810, 811, 812, 813, 814, 815, 816, 817, 818, 819, 834, 835, 836, 837, 838, 839, 840, 841, 842, 843, 844, 845] (by decide +kernel) (by decide +kernel)) (goodIn_sub (fun _ h => List.mem_append_right _ h) (by decide +kernel))) (goodIn_sub (fun _ h => List.mem_append_left _ (List.mem_append_left _ (List.mem_append_right _ h))) (by decide +kernel))
set_option maxRecDepth 20000 in
theorem gL_law_L_ofMix : GoodIn wsL_law (va_wsS RL 157 yL_ofMix wsL_ofMix) := goodIn_app (goodIn_of _ (by decide +kernel)) ggL_law_L_ofMix
set_option maxRecDepth 20000 in
theorem ggL_law_X7_ofMix : GoodIn wsL_law wsX7_ofMix := goodIn_r _ [605, 142, 273, 274, 275, 5, 276, 85, 151, 152, 153, 83, 154, 155, 144, 145, 146, 147, 148, 149, 150, 606, 607, 608, 609, 272, 22, 336, 314, 315, 277, 278, 279, 280, 281, 282, 283, 284, 285, 286, 287, 288, 289, 290, 291, 292, 95, 293, 258, 259, 241, 260, 250, 610, 367, 368, 369, 248, 353, 354, 355, 349, 350, 351, 352, 356, 357, 358, 359, 360, 361, 362, 363, 364, 365, 366, 257, 579, 580, 581, 582, 294, 295, 296, 297, 89, 298, 299, 820, 821, 822, 823, 824, 825, 826, 827, 828, 853, 854, 855, 866, 867, 868, 869, 870, 856, 857, 858, 859, 860, 861, 862, 863, 864, 865] (by decide +kernel) (by decide +kernel)
set_option maxRecDepth 20000 in
theorem gL_law_X7_ofMix : GoodIn wsL_law (wsV RL 159 RX7 yX7_ofMix wsX7_ofMix) := goodIn_app (goodIn_of _ (by decide +kernel)) ggL_law_X7_ofMix
set_option maxRecDepth 20000 in
theorem ggL_law_L_part : GoodIn wsL_law wsL_part := goodIn_ca (goodIn_ca (goodIn_r _ [613, 215, 122, 614, 615, 616, 2, 617, 25, 17, 220, 221, 222, 223, 224, 128, 129, 130, 131, 132, 231, 36, 232, 233, 52, 234, 806, 807, 808, 809, 810, 811, 812, 813, 814, 815, 816, 817, 818, 819, 834, 835, 836, 837, 838, 839, 840, 841, 842, 843, 844, 845] (by decide +kernel) (by decide +kernel)) (goodIn_sub (fun _ h => List.mem_append_right _ h) (by decide +kernel))) (goodIn_sub (fun _ h => List.mem_append_left _ (List.mem_append_left _ (List.mem_append_right _ h))) (by decide +kernel))
set_option maxRecDepth 20000 in
theorem gL_law_L_part : GoodIn wsL_law (va_wsS RL 160 yL_part wsL_part) := goodIn_app (goodIn_of _ (by decide +kernel)) ggL_law_L_part
set_option maxRecDepth 20000 in
theorem ggL_law_X7_part : GoodIn wsL_law wsX7_part := goodIn_r _ [621, 142, 85, 272, 273, 274, 275, 5, 276, 151, 152, 153, 83, 154, 155, 144, 145, 146, 147, 148, 149, 150, 277, 278, 279, 280, 281, 282, 283, 284, 285, 286, 287, 288, 289, 290, 291, 292, 95, 622, 529, 530, 241, 531, 532, 533, 362, 363, 364, 365, 360, 366, 367, 368, 369, 248, 250, 353, 354, 355, 257, 258, 259, 260, 623, 820, 821, 822, 823, 824, 825, 826, 827, 828, 853, 854, 855, 866, 867, 868, 869, 870] (by decide +kernel) (by decide +kernel)
set_option maxRecDepth 20000 in
theorem gL_law_X7_part : GoodIn wsL_law (wsV RL 162 RX7 yX7_part wsX7_part) := goodIn_app (goodIn_of _ (by decide +kernel)) ggL_law_X7_part
set_option maxRecDepth 20000 in
theorem ggL_law_L_ice : GoodIn wsL_law wsL_ice := goodIn_ca (goodIn_ca (goodIn_r _ [626, 215, 122, 627, 628, 629, 2, 630, 25, 17, 220, 221, 222, 223, 224, 128, 129, 130, 131, 132, 504, 36, 505, 506, 63, 806, 807, 808, 809, 810, 811, 812, 813, 814, 815, 816, 817, 818, 819, 834, 835, 836, 837, 838, 839, 840, 841, 842, 843, 844, 845] (by decide +kernel) (by decide +kernel)) (goodIn_sub (fun _ h => List.mem_append_right _ h) (by decide +kernel))) (goodIn_sub (fun _ h => List.mem_append_left _ (List.mem_append_left _ (List.mem_append_right _ h))) (by decide +kernel))
set_option maxRecDepth 20000 in
theorem gL_law_L_ice : GoodIn wsL_law (va_wsS RL 163 yL_ice wsL_ice) := goodIn_app (goodIn_of _ (by decide +kernel)) ggL_law_L_ice
set_option maxRecDepth 20000 in
theorem ggL_law_X7_ice : GoodIn wsL_law wsX7_ice := goodIn_r _ [634, 142, 85, 272, 273, 274, 275, 5, 276, 151, 152, 153, 83, 154, 155, 144, 145, 146, 147, 148, 149, 150, 277, 278, 279, 280, 281, 282, 283, 284, 285, 286, 287, 288, 289, 290, 291, 292, 95, 635, 525, 526, 241, 527, 528, 529, 530, 531, 532, 533, 362, 363, 364, 365, 360, 366, 367, 368, 369, 248, 250, 353, 354, 355, 257, 258, 259, 260, 820, 821, 822, 823, 824, 825, 826, 827, 828, 853, 854, 855, 866, 867, 868, 869, 870] (by decide +kernel) (by decide +kernel)
set_option maxRecDepth 20000 in
theorem gL_law_X7_ice : GoodIn wsL_law (wsV RL 165 RX7 yX7_ice wsX7_ice) := goodIn_app (goodIn_of _ (by decide +kernel)) ggL_law_X7_ice
set_option maxRecDepth 20000 in
theorem ggL_law_L_bars : GoodIn wsL_law wsL_bars := goodIn_ca (goodIn_ca (goodIn_r _ [638, 215, 122, 639, 325, 326, 2, 327, 25, 17, 23, 26, 220, 221, 222, 223, 224, 128, 129, 130, 131, 132, 328, 36, 329, 330, 54, 234, 55, 331, 230, 231, 232, 233, 52, 806, 807, 808, 809, 810, 811, 812, 813, 814, 815, 816, 817, 818, 819, 834, 835, 836, 837, 838, 839, 840, 841, 842, 843, 844, 845] (by decide +kernel) (by decide +kernel)) (goodIn_sub (fun _ h => List.mem_append_right _ h) (by decide +kernel))) (goodIn_sub (fun _ h => List.mem_append_left _ (List.mem_append_left _ (List.mem_append_right _ h))) (by decide +kernel))
set_option maxRecDepth 20000 in
theorem gL_law_L_bars : GoodIn wsL_law (va_wsS RL 166 yL_bars wsL_bars) := goodIn_app (goodIn_of _ (by decide +kernel)) ggL_law_L_bars
set_option maxRecDepth 20000 in
theorem ggL_law_X7_bars : GoodIn wsL_law wsX7_bars := goodIn_r _ [643, 85, 272, 341, 342, 343, 5, 344, 142, 144, 145, 146, 273, 274, 275, 276, 151, 152, 153, 83, 154, 155, 277, 278, 279, 280, 281, 282, 283, 284, 285, 286, 287, 288, 289, 290, 291, 292, 95, 345, 346, 347, 348, 314, 315, 336, 90, 89, 298, 349, 350, 351, 241, 352, 248, 250, 353, 354, 355, 356, 357, 358, 359, 360, 361, 362, 363, 364, 365, 366, 367, 368, 369, 257, 258, 259, 260, 820, 821, 822, 823, 824, 825, 826, 827, 828, 853, 854, 855, 866, 867, 868, 869, 870, 856, 857, 858, 859, 860, 861, 862, 863, 864, 865] (by decide +kernel) (by decide +kernel)
set_option maxRecDepth 20000 in
theorem gL_law_X7_bars : GoodIn wsL_law (wsV RL 168 RX7 yX7_bars wsX7_bars) := goodIn_app (goodIn_of _ (by decide +kernel)) ggL_law_X7_bars
set_option maxRecDepth 20000 in
theorem ggL_law_L_ofBatch : GoodIn wsL_law wsL_ofBatch := goodIn_ca (goodIn_ca (goodIn_r _ [646, 215, 122, 647, 648, 649, 2, 650, 26, 19, 220, 221, 222, 223, 224, 128, 129, 130, 131, 132, 552, 38, 553, 554, 71, 555, 556, 557, 558, 559, 31, 560, 561, 562, 563, 17, 806, 807, 808, 809, 810, 811, 812, 813, 814, 815, 816, 817, 818, 819, 846, 847, 848, 849, 850, 834, 835, 836, 837, 838, 839, 840, 841, 842, 843, 844, 845] (by decide +kernel) (by decide +kernel)) (goodIn_sub (fun _ h => List.mem_append_right _ h) (by decide +kernel))) (goodIn_sub (fun _ h => List.mem_append_left _ (List.mem_append_left _ (List.mem_append_right _ h))) (by decide +kernel))
set_option maxRecDepth 20000 in
theorem gL_law_L_ofBatch : GoodIn wsL_law (va_wsS RL 169 yL_ofBatch wsL_ofBatch) := goodIn_app (goodIn_of _ (by decide +kernel)) ggL_law_L_ofBatch
set_option maxRecDepth 20000 in
theorem ggL_law_X7_ofBatch : GoodIn wsL_law wsX7_ofBatch := goodIn_r _ [654, 142, 396, 397, 398, 5, 399, 89, 298, 144, 145, 146, 147, 148, 149, 150, 655, 656, 657, 658, 22, 299, 337, 394, 338, 569, 570, 571, 88, 572, 115, 573, 574, 575, 576, 577, 85, 272, 578, 277, 278, 279, 83, 280, 155, 281, 282, 283, 284, 285, 286, 287, 288, 289, 290, 291, 292, 95, 579, 580, 581, 241, 582, 250, 820, 821, 822, 823, 824, 825, 826, 827, 828, 856, 857, 858, 859, 860, 861, 862, 863, 864, 865, 853, 854, 855, 866, 867, 868, 869, 870] (by decide +kernel) (by decide +kernel)
set_option maxRecDepth 20000 in
theorem gL_law_X7_ofBatch : GoodIn wsL_law (wsV RL 171 RX7 yX7_ofBatch wsX7_ofBatch) := goodIn_app (goodIn_of _ (by decide +kernel)) ggL_law_X7_ofBatch
set_option maxRecDepth 20000 in
theorem ggL_law_L_crystal : GoodIn wsL_law wsL_crystal := goodIn_ca (goodIn_r _ [661, 215, 662, 663, 664, 2, 665, 26, 19, 220, 221, 222, 223, 224, 806, 807, 808, 809, 810, 811, 812, 813, 814, 815, 816, 817, 818, 819, 846, 847, 848, 849, 850] (by decide +kernel) (by decide +kernel)) (goodIn_sub (fun _ h => List.mem_append_right _ h) (by decide +kernel))
set_option maxRecDepth 20000 in
theorem gL_law_L_crystal : GoodIn wsL_law (va_wsS RL 172 yL_crystal wsL_crystal) := goodIn_app (goodIn_of _ (by decide +kernel)) ggL_law_L_crystal
set_option maxRecDepth 20000 in
theorem ggL_law_X7_crystal : GoodIn wsL_law wsX7_crystal := goodIn_r _ [669, 142, 89, 339, 396, 397, 398, 5, 399, 298, 144, 145, 146, 147, 148, 149, 150, 820, 821, 822, 823, 824, 825, 826, 827, 828, 856, 857, 858, 859, 860, 861, 862, 863, 864, 865] (by decide +kernel) (by decide +kernel)
set_option maxRecDepth 20000 in
theorem gL_law_X7_crystal : GoodIn wsL_law (wsV RL 175 RX7 yX7_crystal wsX7_crystal) := goodIn_app (goodIn_of _ (by decide +kernel)) ggL_law_X7_crystal
set_option maxRecDepth 20000 in
theorem ggL_law_L_temp : GoodIn wsL_law wsL_temp := goodIn_ca (goodIn_r _ [672, 215, 673, 674, 675, 2, 676, 27, 21, 220, 221, 222, 223, 224, 806, 807, 808, 809, 810, 811, 812, 813, 814, 815, 816, 817, 818, 819, 851, 852] (by decide +kernel) (by decide +kernel)) (goodIn_sub (fun _ h => List.mem_append_right _ h) (by decide +kernel))
set_option maxRecDepth 20000 in
theorem gL_law_L_temp : GoodIn wsL_law (va_wsS RL 176 yL_temp wsL_temp) := goodIn_app (goodIn_of _ (by decide +kernel)) ggL_law_L_temp
set_option maxRecDepth 20000 in
theorem ggL_law_X7_temp : GoodIn wsL_law wsX7_temp := goodIn_r _ [680, 142, 89, 413, 425, 426, 427, 5, 428, 411, 144, 145, 146, 147, 148, 149, 150, 820, 821, 822, 823, 824, 825, 826, 827, 828, 856, 857, 858, 859, 860, 861, 862, 863, 864, 865] (by decide +kernel) (by decide +kernel)
set_option maxRecDepth 20000 in
theorem gL_law_X7_temp : GoodIn wsL_law (wsV RL 178 RX7 yX7_temp wsX7_temp) := goodIn_app (goodIn_of _ (by decide +kernel)) ggL_law_X7_temp
set_option maxRecDepth 20000 in
theorem ggL_law_L_many : GoodIn wsL_law wsL_many := goodIn_ca (goodIn_r _ [683, 122, 684, 685, 686, 2, 687, 24, 25, 26, 27, 28, 29, 23, 30, 31, 128, 129, 130, 131, 132, 436, 437, 438, 439, 19, 806, 807, 808, 809, 810, 811, 812, 813, 814, 815, 816, 817, 818, 819, 846, 847, 848, 849, 850] (by decide +kernel) (by decide +kernel)) (goodIn_sub (fun _ h => List.mem_append_left _ (List.mem_append_left _ (List.mem_append_right _ h))) (by decide +kernel))
set_option maxRecDepth 20000 in
theorem gL_law_L_many : GoodIn wsL_law (va_wsS RL 179 yL_many wsL_many) := goodIn_app (goodIn_of _ (by decide +kernel)) ggL_law_L_many
set_option maxRecDepth 20000 in
theorem ggL_law_X7_many : GoodIn wsL_law wsX7_many := goodIn_r _ [691, 142, 144, 145, 5, 146, 147, 148, 149, 150, 692, 693, 694, 695, 22, 84, 85, 89, 298, 411, 514, 568, 90, 381, 578, 151, 152, 153, 83, 154, 155, 444, 445, 446, 88, 447, 448, 114, 820, 821, 822, 823, 824, 825, 826, 827, 828, 856, 857, 858, 859, 860, 861, 862, 863, 864, 865, 853, 854, 855] (by decide +kernel) (by decide +kernel)
set_option maxRecDepth 20000 in
theorem gL_law_X7_many : GoodIn wsL_law (wsV RL 181 RX7 yX7_many wsX7_many) := goodIn_app (goodIn_of _ (by decide +kernel)) ggL_law_X7_many
set_option maxRecDepth 20000 in
theorem ggL_law_L_day : GoodIn wsL_law wsL_day := goodIn_ca (goodIn_r _ [698, 122, 699, 700, 701, 2, 702, 25, 32, 128, 129, 130, 131, 132, 703, 704, 705, 706, 707, 708, 709, 710, 711, 712, 713, 714, 715, 716, 717, 718, 719, 720, 721, 722, 723, 724, 17, 725, 726, 727, 728, 806, 807, 808, 809, 810, 811, 812, 813, 814, 815, 816, 817, 818, 819, 834, 835, 836, 837, 838, 839, 840, 841, 842, 843, 844, 845] (by decide +kernel) (by decide +kernel)) (goodIn_sub (fun _ h => List.mem_append_left _ (List.mem_append_left _ (List.mem_append_right _ h))) (by decide +kernel))
set_option maxRecDepth 20000 in
theorem gL_law_L_day : GoodIn wsL_law (va_wsS RL 182 yL_day wsL_day) := goodIn_app (goodIn_of _ (by decide +kernel)) ggL_law_L_day
set_option maxRecDepth 20000 in
theorem ggL_law_X7_day : GoodIn wsL_law wsX7_day := goodIn_r _ [732, 142, 85, 151, 152, 153, 83, 154, 155, 144, 145, 5, 146, 147, 148, 149, 150, 733, 734, 735, 736, 737, 738, 739, 740, 741, 742, 743, 744, 745, 746, 747, 272, 277, 278, 279, 280, 281, 282, 283, 284, 285, 286, 287, 288, 289, 290, 291, 292, 95, 349, 350, 351, 241, 352, 248, 250, 353, 354, 355, 820, 821, 822, 823, 824, 825, 826, 827, 828, 853, 854, 855, 866, 867, 868, 869, 870] (by decide +kernel) (by decide +kernel)
set_option maxRecDepth 20000 in
theorem gL_law_X7_day : GoodIn wsL_law (wsV RL 185 RX7 yX7_day wsX7_day) := goodIn_app (goodIn_of _ (by decide +kernel)) ggL_law_X7_day
set_option maxRecDepth 20000 in
theorem ggL_law_L_wouldBe : GoodIn wsL_law wsL_wouldBe := goodIn_ca (goodIn_ca (goodIn_r _ [750, 215, 122, 751, 752, 753, 2, 754, 26, 19, 21, 755, 220, 221, 222, 223, 224, 128, 129, 130, 131, 132, 549, 38, 550, 551, 69, 756, 757, 758, 759, 17, 507, 36, 508, 509, 63, 495, 40, 496, 497, 75, 498, 499, 500, 501, 502, 503, 504, 505, 506, 806, 807, 808, 809, 810, 811, 812, 813, 814, 815, 816, 817, 818, 819, 846, 847, 848, 849, 850, 851, 852, 834, 835, 836, 837, 838, 839, 840, 841, 842, 843, 844, 845] (by decide +kernel) (by decide +kernel)) (goodIn_sub (fun _ h => List.mem_append_right _ h) (by decide +kernel))) (goodIn_sub (fun _ h => List.mem_append_left _ (List.mem_append_left _ (List.mem_append_right _ h))) (by decide +kernel))
set_option maxRecDepth 20000 in
theorem gL_law_L_wouldBe : GoodIn wsL_law (va_wsS RL 186 yL_wouldBe wsL_wouldBe) := goodIn_app (goodIn_of _ (by decide +kernel)) ggL_law_L_wouldBe
set_option maxRecDepth 20000 in
theorem ggL_law_X7_wouldBe : GoodIn wsL_law wsX7_wouldBe := goodIn_r _ [763, 142, 89, 338, 764, 339, 396, 397, 398, 5, 399, 298, 144, 145, 146, 147, 148, 149, 150, 765, 766, 767, 88, 768, 769, 87, 108, 448, 110, 770, 205, 206, 207, 113, 114, 115, 519, 116, 117, 771, 106, 107, 109, 12, 13, 22, 111, 112, 7, 515, 516, 517, 518, 520, 521, 522, 523, 278, 279, 83, 280, 155, 281, 282, 283, 284, 285, 286, 287, 288, 289, 290, 291, 292, 95, 524, 525, 526, 241, 527, 528, 529, 530, 531, 532, 533, 362, 363, 364, 365, 360, 366, 367, 368, 369, 248, 250, 353, 354, 152, 153, 154, 355, 257, 258, 259, 260, 534, 535, 473, 536, 475, 476, 477, 478, 537, 538, 539, 540, 541, 820, 821, 822, 823, 824, 825, 826, 827, 828, 856, 857, 858, 859, 860, 861, 862, 863, 864, 865, 853, 854, 855, 866, 867, 868, 869, 870] (by decide +kernel) (by decide +kernel)
set_option maxRecDepth 20000 in
theorem gL_law_X7_wouldBe : GoodIn wsL_law (wsV RL 188 RX7 yX7_wouldBe wsX7_wouldBe) := goodIn_app (goodIn_of _ (by decide +kernel)) ggL_law_X7_wouldBe
set_option maxRecDepth 20000 in
theorem ggL_law_L_wouldSpoil : GoodIn wsL_law wsL_wouldSpoil := goodIn_ca (goodIn_ca (goodIn_r _ [774, 215, 122, 775, 776, 777, 2, 778, 27, 21, 26, 19, 779, 220, 221, 222, 223, 224, 128, 129, 130, 131, 132, 456, 457, 458, 459, 460, 552, 38, 553, 554, 71, 555, 756, 757, 758, 759, 17, 755, 507, 36, 508, 509, 63, 495, 40, 496, 497, 75, 498, 499, 500, 501, 502, 503, 504, 505, 506, 806, 807, 808, 809, 810, 811, 812, 813, 814, 815, 816, 817, 818, 819, 851, 852, 846, 847, 848, 849, 850, 834, 835, 836, 837, 838, 839, 840, 841, 842, 843, 844, 845] (by decide +kernel) (by decide +kernel)) (goodIn_sub (fun _ h => List.mem_append_right _ h) (by decide +kernel))) (goodIn_sub (fun _ h => List.mem_append_left _ (List.mem_append_left _ (List.mem_append_right _ h))) (by decide +kernel))
set_option maxRecDepth 20000 in
theorem gL_law_L_wouldSpoil : GoodIn wsL_law (va_wsS RL 189 yL_wouldSpoil wsL_wouldSpoil) := goodIn_app (goodIn_of _ (by decide +kernel)) ggL_law_L_wouldSpoil
set_option maxRecDepth 20000 in
theorem ggL_law_X7_wouldSpoil : GoodIn wsL_law wsX7_wouldSpoil := goodIn_r _ [783, 142, 425, 426, 427, 5, 428, 89, 411, 144, 145, 146, 147, 148, 149, 150, 784, 785, 786, 787, 298, 338, 765, 766, 767, 88, 768, 769, 87, 108, 448, 110, 770, 205, 206, 207, 113, 114, 115, 519, 116, 117, 771, 106, 107, 109, 12, 13, 22, 111, 112, 7, 465, 466, 467, 468, 469, 470, 471, 472, 473, 474, 475, 476, 477, 478, 479, 515, 516, 517, 518, 520, 521, 522, 523, 278, 279, 83, 280, 155, 281, 282, 283, 284, 285, 286, 287, 288, 289, 290, 291, 292, 95, 524, 525, 526, 241, 527, 528, 529, 530, 531, 532, 533, 362, 363, 364, 365, 360, 366, 367, 368, 369, 248, 250, 353, 354, 152, 153, 154, 355, 257, 258, 259, 260, 534, 535, 536, 537, 538, 539, 540, 541, 569, 570, 571, 572, 573, 820, 821, 822, 823, 824, 825, 826, 827, 828, 856, 857, 858, 859, 860, 861, 862, 863, 864, 865, 853, 854, 855, 866, 867, 868, 869, 870] (by decide +kernel) (by decide +kernel)
set_option maxRecDepth 20000 in
theorem gL_law_X7_wouldSpoil : GoodIn wsL_law (wsV RL 191 RX7 yX7_wouldSpoil wsX7_wouldSpoil) := goodIn_app (goodIn_of _ (by decide +kernel)) ggL_law_X7_wouldSpoil
set_option maxRecDepth 20000 in
theorem ggL_law_X4_digest : GoodIn wsL_law wsX4_digest := goodIn_ca (goodIn_ca (goodIn_r _ [791, 792, 793, 25, 26, 19, 460, 27, 21, 794, 685, 686, 2, 687, 24, 28, 29, 23, 30, 31, 128, 129, 130, 131, 132, 436, 437, 438, 439, 795, 599, 600, 601, 17, 220, 221, 222, 223, 224, 328, 36, 329, 330, 54, 234, 55, 331, 230, 231, 232, 233, 52, 324, 325, 326, 327, 796, 648, 649, 650, 552, 38, 553, 554, 71, 555, 556, 557, 558, 559, 560, 561, 562, 563, 797, 776, 777, 778, 779, 456, 457, 458, 459, 756, 757, 758, 759, 755, 507, 508, 509, 63, 495, 40, 496, 497, 75, 498, 499, 500, 501, 502, 503, 504, 505, 506, 798, 700, 701, 702, 32, 703, 704, 705, 706, 707, 708, 709, 710, 711, 712, 713, 714, 715, 716, 717, 718, 719, 720, 721, 722, 723, 724, 725, 726, 727, 728, 806, 807, 808, 809, 810, 811, 812, 813, 814, 815, 816, 817, 818, 819, 846, 847, 848, 849, 850, 851, 852, 834, 835, 836, 837, 838, 839, 840, 841, 842, 843, 844, 845] (by decide +kernel) (by decide +kernel)) (goodIn_sub (fun _ h => List.mem_append_left _ (List.mem_append_left _ (List.mem_append_right _ h))) (by decide +kernel))) (goodIn_sub (fun _ h => List.mem_append_right _ h) (by decide +kernel))
set_option maxRecDepth 20000 in
theorem gL_law_X4_digest : GoodIn wsL_law (wsV RL 192 RX4 yX4_digest wsX4_digest) := goodIn_app (goodIn_of _ (by decide +kernel)) ggL_law_X4_digest
set_option maxRecDepth 20000 in
theorem ggL_law_X7_digest : GoodIn wsL_law wsX7_digest := goodIn_r _ [802, 142, 803, 804, 85, 272, 89, 298, 339, 805, 411, 413, 692, 693, 694, 5, 695, 22, 84, 514, 568, 90, 381, 578, 151, 152, 153, 83, 154, 155, 444, 445, 446, 88, 447, 448, 114, 606, 607, 608, 609, 336, 314, 315, 277, 278, 279, 280, 281, 282, 283, 284, 285, 286, 287, 288, 289, 290, 291, 292, 95, 293, 258, 259, 241, 260, 250, 610, 367, 368, 369, 248, 353, 354, 355, 349, 350, 351, 352, 356, 357, 358, 359, 360, 361, 362, 363, 364, 365, 366, 257, 579, 580, 581, 582, 294, 295, 296, 297, 299, 345, 346, 347, 348, 144, 145, 146, 655, 656, 657, 658, 337, 394, 338, 569, 570, 571, 572, 115, 573, 574, 575, 576, 577, 784, 785, 786, 787, 765, 766, 767, 768, 769, 87, 108, 110, 770, 205, 206, 207, 113, 519, 116, 117, 771, 106, 107, 109, 12, 13, 111, 112, 7, 465, 466, 467, 468, 469, 470, 471, 472, 473, 474, 475, 476, 477, 478, 479, 515, 516, 517, 518, 520, 521, 522, 523, 524, 525, 526, 527, 528, 529, 530, 531, 532, 533, 534, 535, 536, 537, 538, 539, 540, 541, 733, 734, 735, 736, 737, 738, 739, 740, 741, 742, 743, 744, 745, 746, 747, 820, 821, 822, 823, 824, 825, 826, 827, 828, 856, 857, 858, 859, 860, 861, 862, 863, 864, 865, 853, 854, 855, 866, 867, 868, 869, 870] (by decide +kernel) (by decide +kernel)
set_option maxRecDepth 20000 in
theorem gL_law_X7_digest : GoodIn wsL_law (wsV RL 196 RX7 yX7_digest wsX7_digest) := goodIn_app (goodIn_of _ (by decide +kernel)) ggL_law_X7_digest
