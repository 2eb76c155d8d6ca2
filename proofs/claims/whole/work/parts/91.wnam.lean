set_option maxRecDepth 20000 in
theorem ggL_point_X10_point : GoodIn wsL_point wsX10_point := goodIn_ca (goodIn_ca (goodIn_r _ [7, 8, 9, 10, 11, 12, 13, 14, 15, 16, 17, 18, 19, 20, 21, 22, 23, 24, 25, 26, 27, 28, 29, 30, 31, 32] (by decide +kernel) (by decide +kernel)) (goodIn_sub (fun _ h => List.mem_cons_of_mem _ (List.mem_append_left _ (List.mem_append_right _ h))) (by decide +kernel))) (goodIn_sub (fun _ h => List.mem_cons_of_mem _ (List.mem_append_right _ h)) (by decide +kernel))
set_option maxRecDepth 20000 in
theorem gL_point_X10_point : GoodIn wsL_point (wsV RL 7 RX10 yX10_point wsX10_point) := goodIn_app (goodIn_of _ (by decide +kernel)) ggL_point_X10_point
theorem dL_point_0 : decode cL_point 0 = .ok (.aload_n 3, 1) := by decide +kernel
theorem dL_point_1 : decode cL_point 1 = .ok (.iconst 0, 1) := by decide +kernel
theorem dL_point_2 : decode cL_point 2 = .ok (.aload_n 0, 1) := by decide +kernel
theorem dL_point_3 : decode cL_point 3 = .ok (.iload_n 1, 1) := by decide +kernel
theorem dL_point_4 : decode cL_point 4 = .ok (.iload_n 2, 1) := by decide +kernel
theorem dL_point_5 : decode cL_point 5 = .ok (.invokevirtual 7, 3) := by decide +kernel
theorem dL_point_8 : decode cL_point 8 = .ok (.i2l, 1) := by decide +kernel
theorem dL_point_9 : decode cL_point 9 = .ok (.lastore, 1) := by decide +kernel
theorem dL_point_10 : decode cL_point 10 = .ok (.goto 11, 3) := by decide +kernel
theorem dL_point_13 : decode cL_point 13 = .ok (.astore 4, 2) := by decide +kernel
theorem dL_point_15 : decode cL_point 15 = .ok (.iconst 1, 1) := by decide +kernel
theorem dL_point_16 : decode cL_point 16 = .ok (.ireturn, 1) := by decide +kernel
theorem dL_point_17 : decode cL_point 17 = .ok (.astore 4, 2) := by decide +kernel
theorem dL_point_19 : decode cL_point 19 = .ok (.iconst 2, 1) := by decide +kernel
theorem dL_point_20 : decode cL_point 20 = .ok (.ireturn, 1) := by decide +kernel
theorem dL_point_21 : decode cL_point 21 = .ok (.iconst 0, 1) := by decide +kernel
theorem dL_point_22 : decode cL_point 22 = .ok (.ireturn, 1) := by decide +kernel
set_option maxRecDepth 20000 in
theorem ggL_advance_X10_advance : GoodIn wsL_advance wsX10_advance := goodIn_ca (goodIn_r _ [6, 7, 8, 9, 10, 11, 12, 13, 14, 15, 16, 17, 18, 19, 20, 21, 22, 23, 24, 25, 26, 27, 28] (by decide +kernel) (by decide +kernel)) (goodIn_sub (fun _ h => List.mem_cons_of_mem _ (List.mem_append_right _ h)) (by decide +kernel))
set_option maxRecDepth 20000 in
theorem gL_advance_X10_advance : GoodIn wsL_advance (wsV RL 17 RX10 yX10_advance wsX10_advance) := goodIn_app (goodIn_of _ (by decide +kernel)) ggL_advance_X10_advance
theorem dL_advance_0 : decode cL_advance 0 = .ok (.aload_n 1, 1) := by decide +kernel
theorem dL_advance_1 : decode cL_advance 1 = .ok (.iconst 0, 1) := by decide +kernel
theorem dL_advance_2 : decode cL_advance 2 = .ok (.aload_n 0, 1) := by decide +kernel
theorem dL_advance_3 : decode cL_advance 3 = .ok (.invokevirtual 17, 3) := by decide +kernel
theorem dL_advance_6 : decode cL_advance 6 = .ok (.i2l, 1) := by decide +kernel
theorem dL_advance_7 : decode cL_advance 7 = .ok (.lastore, 1) := by decide +kernel
theorem dL_advance_8 : decode cL_advance 8 = .ok (.goto 6, 3) := by decide +kernel
theorem dL_advance_11 : decode cL_advance 11 = .ok (.astore_n 2, 1) := by decide +kernel
theorem dL_advance_12 : decode cL_advance 12 = .ok (.iconst 1, 1) := by decide +kernel
theorem dL_advance_13 : decode cL_advance 13 = .ok (.ireturn, 1) := by decide +kernel
theorem dL_advance_14 : decode cL_advance 14 = .ok (.iconst 0, 1) := by decide +kernel
theorem dL_advance_15 : decode cL_advance 15 = .ok (.ireturn, 1) := by decide +kernel
set_option maxRecDepth 20000 in
theorem ggL_disc_X10_disc : GoodIn wsL_disc wsX10_disc := goodIn_ca (goodIn_ca (goodIn_r _ [7, 8, 9, 10, 11, 12, 13, 14, 15, 16, 17, 18, 19, 20, 21, 22, 23, 24, 25, 26, 27, 28, 29, 30, 31, 32, 33, 34, 35, 36, 37, 38, 39, 40, 41, 42, 43, 44, 45, 46, 47, 48, 49, 50, 51, 52, 53, 54, 55, 56, 57, 58, 59, 60, 61, 62, 63, 64, 65] (by decide +kernel) (by decide +kernel)) (goodIn_sub (fun _ h => List.mem_cons_of_mem _ (List.mem_append_left _ (List.mem_append_right _ h))) (by decide +kernel))) (goodIn_sub (fun _ h => List.mem_cons_of_mem _ (List.mem_append_right _ h)) (by decide +kernel))
set_option maxRecDepth 20000 in
theorem gL_disc_X10_disc : GoodIn wsL_disc (wsV RL 21 RX10 yX10_disc wsX10_disc) := goodIn_app (goodIn_of _ (by decide +kernel)) ggL_disc_X10_disc
theorem dL_disc_0 : decode cL_disc 0 = .ok (.aload_n 2, 1) := by decide +kernel
theorem dL_disc_1 : decode cL_disc 1 = .ok (.iconst 0, 1) := by decide +kernel
theorem dL_disc_2 : decode cL_disc 2 = .ok (.aload_n 0, 1) := by decide +kernel
theorem dL_disc_3 : decode cL_disc 3 = .ok (.iload_n 1, 1) := by decide +kernel
theorem dL_disc_4 : decode cL_disc 4 = .ok (.invokevirtual 21, 3) := by decide +kernel
theorem dL_disc_7 : decode cL_disc 7 = .ok (.i2l, 1) := by decide +kernel
theorem dL_disc_8 : decode cL_disc 8 = .ok (.lastore, 1) := by decide +kernel
theorem dL_disc_9 : decode cL_disc 9 = .ok (.goto 9, 3) := by decide +kernel
theorem dL_disc_12 : decode cL_disc 12 = .ok (.astore_n 3, 1) := by decide +kernel
theorem dL_disc_13 : decode cL_disc 13 = .ok (.iconst 1, 1) := by decide +kernel
theorem dL_disc_14 : decode cL_disc 14 = .ok (.ireturn, 1) := by decide +kernel
theorem dL_disc_15 : decode cL_disc 15 = .ok (.astore_n 3, 1) := by decide +kernel
theorem dL_disc_16 : decode cL_disc 16 = .ok (.iconst 2, 1) := by decide +kernel
theorem dL_disc_17 : decode cL_disc 17 = .ok (.ireturn, 1) := by decide +kernel
theorem dL_disc_18 : decode cL_disc 18 = .ok (.iconst 0, 1) := by decide +kernel
theorem dL_disc_19 : decode cL_disc 19 = .ok (.ireturn, 1) := by decide +kernel
set_option maxRecDepth 20000 in
theorem ggL_stitch_X10_stitch : GoodIn wsL_stitch wsX10_stitch := goodIn_ca (goodIn_ca (goodIn_r _ [7, 8, 9, 10, 11, 12, 13, 14, 15, 16, 17, 18, 19, 20, 21, 22, 23, 24, 25, 26, 27, 28, 29, 30, 31] (by decide +kernel) (by decide +kernel)) (goodIn_sub (fun _ h => List.mem_cons_of_mem _ (List.mem_append_left _ (List.mem_append_right _ h))) (by decide +kernel))) (goodIn_sub (fun _ h => List.mem_cons_of_mem _ (List.mem_append_right _ h)) (by decide +kernel))
set_option maxRecDepth 20000 in
theorem gL_stitch_X10_stitch : GoodIn wsL_stitch (wsV RL 25 RX10 yX10_stitch wsX10_stitch) := goodIn_app (goodIn_of _ (by decide +kernel)) ggL_stitch_X10_stitch
theorem dL_stitch_0 : decode cL_stitch 0 = .ok (.aload_n 3, 1) := by decide +kernel
theorem dL_stitch_1 : decode cL_stitch 1 = .ok (.iconst 0, 1) := by decide +kernel
theorem dL_stitch_2 : decode cL_stitch 2 = .ok (.aload_n 0, 1) := by decide +kernel
theorem dL_stitch_3 : decode cL_stitch 3 = .ok (.iload_n 1, 1) := by decide +kernel
theorem dL_stitch_4 : decode cL_stitch 4 = .ok (.iload_n 2, 1) := by decide +kernel
theorem dL_stitch_5 : decode cL_stitch 5 = .ok (.invokevirtual 25, 3) := by decide +kernel
theorem dL_stitch_8 : decode cL_stitch 8 = .ok (.i2l, 1) := by decide +kernel
theorem dL_stitch_9 : decode cL_stitch 9 = .ok (.lastore, 1) := by decide +kernel
theorem dL_stitch_10 : decode cL_stitch 10 = .ok (.goto 11, 3) := by decide +kernel
theorem dL_stitch_13 : decode cL_stitch 13 = .ok (.astore 4, 2) := by decide +kernel
theorem dL_stitch_15 : decode cL_stitch 15 = .ok (.iconst 1, 1) := by decide +kernel
theorem dL_stitch_16 : decode cL_stitch 16 = .ok (.ireturn, 1) := by decide +kernel
theorem dL_stitch_17 : decode cL_stitch 17 = .ok (.astore 4, 2) := by decide +kernel
theorem dL_stitch_19 : decode cL_stitch 19 = .ok (.iconst 2, 1) := by decide +kernel
theorem dL_stitch_20 : decode cL_stitch 20 = .ok (.ireturn, 1) := by decide +kernel
theorem dL_stitch_21 : decode cL_stitch 21 = .ok (.iconst 0, 1) := by decide +kernel
theorem dL_stitch_22 : decode cL_stitch 22 = .ok (.ireturn, 1) := by decide +kernel
set_option maxRecDepth 20000 in
theorem ggL_hem_X10_hem : GoodIn wsL_hem wsX10_hem := goodIn_ca (goodIn_ca (goodIn_r _ [7, 8, 9, 10, 11, 12, 13, 14, 15, 16, 17, 18, 19, 20, 21, 22, 23, 24, 25, 26, 27, 28, 29, 30, 31, 32, 33, 34, 35, 36, 37, 38, 39, 40, 41, 42, 43, 44, 45, 46, 47, 48, 49, 50, 51, 52, 53, 54, 55, 56, 6, 57, 58, 59, 60, 61, 62, 63, 64, 65, 66, 67, 68, 69, 70, 71, 72, 73, 74, 75, 76, 77, 78, 79, 80, 81, 82, 83, 84, 85] (by decide +kernel) (by decide +kernel)) (goodIn_sub (fun _ h => List.mem_cons_of_mem _ (List.mem_append_left _ (List.mem_append_right _ h))) (by decide +kernel))) (goodIn_sub (fun _ h => List.mem_cons_of_mem _ (List.mem_append_right _ h)) (by decide +kernel))
set_option maxRecDepth 20000 in
theorem gL_hem_X10_hem : GoodIn wsL_hem (wsV RL 28 RX10 yX10_hem wsX10_hem) := goodIn_app (goodIn_of _ (by decide +kernel)) ggL_hem_X10_hem
theorem dL_hem_0 : decode cL_hem 0 = .ok (.aload_n 3, 1) := by decide +kernel
theorem dL_hem_1 : decode cL_hem 1 = .ok (.iconst 0, 1) := by decide +kernel
theorem dL_hem_2 : decode cL_hem 2 = .ok (.aload_n 0, 1) := by decide +kernel
theorem dL_hem_3 : decode cL_hem 3 = .ok (.iload_n 1, 1) := by decide +kernel
theorem dL_hem_4 : decode cL_hem 4 = .ok (.iload_n 2, 1) := by decide +kernel
theorem dL_hem_5 : decode cL_hem 5 = .ok (.invokevirtual 28, 3) := by decide +kernel
theorem dL_hem_8 : decode cL_hem 8 = .ok (.i2l, 1) := by decide +kernel
theorem dL_hem_9 : decode cL_hem 9 = .ok (.lastore, 1) := by decide +kernel
theorem dL_hem_10 : decode cL_hem 10 = .ok (.goto 11, 3) := by decide +kernel
theorem dL_hem_13 : decode cL_hem 13 = .ok (.astore 4, 2) := by decide +kernel
theorem dL_hem_15 : decode cL_hem 15 = .ok (.iconst 1, 1) := by decide +kernel
theorem dL_hem_16 : decode cL_hem 16 = .ok (.ireturn, 1) := by decide +kernel
theorem dL_hem_17 : decode cL_hem 17 = .ok (.astore 4, 2) := by decide +kernel
theorem dL_hem_19 : decode cL_hem 19 = .ok (.iconst 2, 1) := by decide +kernel
theorem dL_hem_20 : decode cL_hem 20 = .ok (.ireturn, 1) := by decide +kernel
theorem dL_hem_21 : decode cL_hem 21 = .ok (.iconst 0, 1) := by decide +kernel
theorem dL_hem_22 : decode cL_hem 22 = .ok (.ireturn, 1) := by decide +kernel
set_option maxRecDepth 20000 in
theorem ggL_fed_X10_fed : GoodIn wsL_fed wsX10_fed := goodIn_ca (goodIn_r _ [6, 7, 8, 9, 10, 11, 12, 13, 14, 15, 16, 17, 18, 19, 20, 21, 22, 23, 24, 25, 26, 27, 28, 29, 30, 31, 32, 33, 34, 35, 36, 37, 38, 39, 40, 41, 42, 43, 44, 45, 46, 47, 48, 49, 50, 51, 52, 53, 54, 55, 56, 57, 58, 59, 60, 61, 62, 63, 64, 65, 66, 67] (by decide +kernel) (by decide +kernel)) (goodIn_sub (fun _ h => List.mem_cons_of_mem _ (List.mem_append_right _ h)) (by decide +kernel))
set_option maxRecDepth 20000 in
theorem gL_fed_X10_fed : GoodIn wsL_fed (wsV RL 31 RX10 yX10_fed wsX10_fed) := goodIn_app (goodIn_of _ (by decide +kernel)) ggL_fed_X10_fed
theorem dL_fed_0 : decode cL_fed 0 = .ok (.aload_n 3, 1) := by decide +kernel
theorem dL_fed_1 : decode cL_fed 1 = .ok (.iconst 0, 1) := by decide +kernel
theorem dL_fed_2 : decode cL_fed 2 = .ok (.aload_n 0, 1) := by decide +kernel
theorem dL_fed_3 : decode cL_fed 3 = .ok (.iload_n 1, 1) := by decide +kernel
theorem dL_fed_4 : decode cL_fed 4 = .ok (.iload_n 2, 1) := by decide +kernel
theorem dL_fed_5 : decode cL_fed 5 = .ok (.invokevirtual 31, 3) := by decide +kernel
theorem dL_fed_8 : decode cL_fed 8 = .ok (.i2l, 1) := by decide +kernel
theorem dL_fed_9 : decode cL_fed 9 = .ok (.lastore, 1) := by decide +kernel
theorem dL_fed_10 : decode cL_fed 10 = .ok (.goto 7, 3) := by decide +kernel
theorem dL_fed_13 : decode cL_fed 13 = .ok (.astore 4, 2) := by decide +kernel
theorem dL_fed_15 : decode cL_fed 15 = .ok (.iconst 1, 1) := by decide +kernel
theorem dL_fed_16 : decode cL_fed 16 = .ok (.ireturn, 1) := by decide +kernel
theorem dL_fed_17 : decode cL_fed 17 = .ok (.iconst 0, 1) := by decide +kernel
theorem dL_fed_18 : decode cL_fed 18 = .ok (.ireturn, 1) := by decide +kernel
set_option maxRecDepth 20000 in
theorem ggL_seam_X10_seam : GoodIn wsL_seam wsX10_seam := goodIn_ca (goodIn_ca (goodIn_r _ [7, 8, 9, 10, 11, 12, 13, 14, 15, 16, 17, 18, 19, 20, 21, 22, 23, 24, 25, 26, 27, 28, 29, 30, 31, 32, 33, 34, 35, 36, 37, 38, 39, 40, 41, 42, 43, 44, 45, 46, 47, 48, 49, 50, 51, 52, 53, 54, 55, 56, 57, 58, 59, 60, 61] (by decide +kernel) (by decide +kernel)) (goodIn_sub (fun _ h => List.mem_cons_of_mem _ (List.mem_append_left _ (List.mem_append_right _ h))) (by decide +kernel))) (goodIn_sub (fun _ h => List.mem_cons_of_mem _ (List.mem_append_right _ h)) (by decide +kernel))
set_option maxRecDepth 20000 in
theorem gL_seam_X10_seam : GoodIn wsL_seam (wsV RL 34 RX10 yX10_seam wsX10_seam) := goodIn_app (goodIn_of _ (by decide +kernel)) ggL_seam_X10_seam
theorem dL_seam_0 : decode cL_seam 0 = .ok (.aload_n 2, 1) := by decide +kernel
theorem dL_seam_1 : decode cL_seam 1 = .ok (.iconst 0, 1) := by decide +kernel
theorem dL_seam_2 : decode cL_seam 2 = .ok (.aload_n 0, 1) := by decide +kernel
theorem dL_seam_3 : decode cL_seam 3 = .ok (.iload_n 1, 1) := by decide +kernel
theorem dL_seam_4 : decode cL_seam 4 = .ok (.invokevirtual 34, 3) := by decide +kernel
theorem dL_seam_7 : decode cL_seam 7 = .ok (.i2l, 1) := by decide +kernel
theorem dL_seam_8 : decode cL_seam 8 = .ok (.lastore, 1) := by decide +kernel
theorem dL_seam_9 : decode cL_seam 9 = .ok (.goto 9, 3) := by decide +kernel
theorem dL_seam_12 : decode cL_seam 12 = .ok (.astore_n 3, 1) := by decide +kernel
theorem dL_seam_13 : decode cL_seam 13 = .ok (.iconst 1, 1) := by decide +kernel
theorem dL_seam_14 : decode cL_seam 14 = .ok (.ireturn, 1) := by decide +kernel
theorem dL_seam_15 : decode cL_seam 15 = .ok (.astore_n 3, 1) := by decide +kernel
theorem dL_seam_16 : decode cL_seam 16 = .ok (.iconst 2, 1) := by decide +kernel
theorem dL_seam_17 : decode cL_seam 17 = .ok (.ireturn, 1) := by decide +kernel
theorem dL_seam_18 : decode cL_seam 18 = .ok (.iconst 0, 1) := by decide +kernel
theorem dL_seam_19 : decode cL_seam 19 = .ok (.ireturn, 1) := by decide +kernel
set_option maxRecDepth 20000 in
theorem ggL_sewn_X10_sewn : GoodIn wsL_sewn wsX10_sewn := goodIn_ca (goodIn_ca (goodIn_r _ [7, 8, 9, 10, 11, 12, 13, 14, 15, 16, 17, 18, 19, 20, 21, 22, 23, 24, 25, 26, 27, 28, 29, 30, 31, 32, 33, 34, 35, 36, 37, 38, 39, 40, 41, 42] (by decide +kernel) (by decide +kernel)) (goodIn_sub (fun _ h => List.mem_cons_of_mem _ (List.mem_append_left _ (List.mem_append_right _ h))) (by decide +kernel))) (goodIn_sub (fun _ h => List.mem_cons_of_mem _ (List.mem_append_right _ h)) (by decide +kernel))
set_option maxRecDepth 20000 in
theorem gL_sewn_X10_sewn : GoodIn wsL_sewn (wsV RL 37 RX10 yX10_sewn wsX10_sewn) := goodIn_app (goodIn_of _ (by decide +kernel)) ggL_sewn_X10_sewn
theorem dL_sewn_0 : decode cL_sewn 0 = .ok (.aload_n 3, 1) := by decide +kernel
theorem dL_sewn_1 : decode cL_sewn 1 = .ok (.iconst 0, 1) := by decide +kernel
theorem dL_sewn_2 : decode cL_sewn 2 = .ok (.aload_n 0, 1) := by decide +kernel
theorem dL_sewn_3 : decode cL_sewn 3 = .ok (.iload_n 1, 1) := by decide +kernel
theorem dL_sewn_4 : decode cL_sewn 4 = .ok (.iload_n 2, 1) := by decide +kernel
theorem dL_sewn_5 : decode cL_sewn 5 = .ok (.invokevirtual 37, 3) := by decide +kernel
theorem dL_sewn_8 : decode cL_sewn 8 = .ok (.i2l, 1) := by decide +kernel
theorem dL_sewn_9 : decode cL_sewn 9 = .ok (.lastore, 1) := by decide +kernel
theorem dL_sewn_10 : decode cL_sewn 10 = .ok (.goto 11, 3) := by decide +kernel
theorem dL_sewn_13 : decode cL_sewn 13 = .ok (.astore 4, 2) := by decide +kernel
theorem dL_sewn_15 : decode cL_sewn 15 = .ok (.iconst 1, 1) := by decide +kernel
theorem dL_sewn_16 : decode cL_sewn 16 = .ok (.ireturn, 1) := by decide +kernel
theorem dL_sewn_17 : decode cL_sewn 17 = .ok (.astore 4, 2) := by decide +kernel
theorem dL_sewn_19 : decode cL_sewn 19 = .ok (.iconst 2, 1) := by decide +kernel
theorem dL_sewn_20 : decode cL_sewn 20 = .ok (.ireturn, 1) := by decide +kernel
theorem dL_sewn_21 : decode cL_sewn 21 = .ok (.iconst 0, 1) := by decide +kernel
theorem dL_sewn_22 : decode cL_sewn 22 = .ok (.ireturn, 1) := by decide +kernel
set_option maxRecDepth 20000 in
theorem ggL_at_X10_at : GoodIn wsL_at wsX10_at := goodIn_ca (goodIn_ca (goodIn_r _ [7, 8, 9, 10, 11, 12, 13, 14, 15, 16, 6, 17, 18, 19, 20, 21, 22, 23, 24, 25, 26, 27, 28, 29, 30, 31, 32, 33, 34, 35, 36, 37, 38, 39, 40] (by decide +kernel) (by decide +kernel)) (goodIn_sub (fun _ h => List.mem_cons_of_mem _ (List.mem_append_left _ (List.mem_append_right _ h))) (by decide +kernel))) (goodIn_sub (fun _ h => List.mem_cons_of_mem _ (List.mem_append_right _ h)) (by decide +kernel))
set_option maxRecDepth 20000 in
theorem gL_at_X10_at : GoodIn wsL_at (wsV RL 40 RX10 yX10_at wsX10_at) := goodIn_app (goodIn_of _ (by decide +kernel)) ggL_at_X10_at
theorem dL_at_0 : decode cL_at 0 = .ok (.aload_n 3, 1) := by decide +kernel
theorem dL_at_1 : decode cL_at 1 = .ok (.iconst 0, 1) := by decide +kernel
theorem dL_at_2 : decode cL_at 2 = .ok (.aload_n 0, 1) := by decide +kernel
theorem dL_at_3 : decode cL_at 3 = .ok (.iload_n 1, 1) := by decide +kernel
theorem dL_at_4 : decode cL_at 4 = .ok (.iload_n 2, 1) := by decide +kernel
theorem dL_at_5 : decode cL_at 5 = .ok (.invokevirtual 40, 3) := by decide +kernel
theorem dL_at_8 : decode cL_at 8 = .ok (.lastore, 1) := by decide +kernel
theorem dL_at_9 : decode cL_at 9 = .ok (.goto 11, 3) := by decide +kernel
theorem dL_at_12 : decode cL_at 12 = .ok (.astore 4, 2) := by decide +kernel
theorem dL_at_14 : decode cL_at 14 = .ok (.iconst 1, 1) := by decide +kernel
theorem dL_at_15 : decode cL_at 15 = .ok (.ireturn, 1) := by decide +kernel
theorem dL_at_16 : decode cL_at 16 = .ok (.astore 4, 2) := by decide +kernel
theorem dL_at_18 : decode cL_at 18 = .ok (.iconst 2, 1) := by decide +kernel
theorem dL_at_19 : decode cL_at 19 = .ok (.ireturn, 1) := by decide +kernel
theorem dL_at_20 : decode cL_at 20 = .ok (.iconst 0, 1) := by decide +kernel
theorem dL_at_21 : decode cL_at 21 = .ok (.ireturn, 1) := by decide +kernel
