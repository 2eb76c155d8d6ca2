set_option maxRecDepth 20000 in
theorem ggX0_init_X0_reset : GoodIn wsX0_init wsX0_reset := goodIn_r _ [10, 5, 11, 12, 13, 14, 15, 16, 17, 18, 19, 20] (by decide +kernel) (by decide +kernel)
set_option maxRecDepth 20000 in
theorem gX0_init_X0_reset : GoodIn wsX0_init (wsV RX0 15 RX0 yX0_reset wsX0_reset) := goodIn_app (goodIn_of _ (by decide +kernel)) ggX0_init_X0_reset
theorem dX0_init_0 : decode cX0_init 0 = .ok (.aload_n 0, 1) := by decide +kernel
theorem dX0_init_1 : decode cX0_init 1 = .ok (.invokespecial 3, 3) := by decide +kernel
theorem dX0_init_4 : decode cX0_init 4 = .ok (.aload_n 0, 1) := by decide +kernel
theorem dX0_init_5 : decode cX0_init 5 = .ok (.iconst 2, 1) := by decide +kernel
theorem dX0_init_6 : decode cX0_init 6 = .ok (.newarray .int, 2) := by decide +kernel
theorem dX0_init_8 : decode cX0_init 8 = .ok (.putfield 9, 3) := by decide +kernel
theorem dX0_init_11 : decode cX0_init 11 = .ok (.aload_n 0, 1) := by decide +kernel
theorem dX0_init_12 : decode cX0_init 12 = .ok (.invokevirtual 15, 3) := by decide +kernel
theorem dX0_init_15 : decode cX0_init 15 = .ok (.return_, 1) := by decide +kernel
theorem dX0_reset_0 : decode cX0_reset 0 = .ok (.aload_n 0, 1) := by decide +kernel
theorem dX0_reset_1 : decode cX0_reset 1 = .ok (.getfield 9, 3) := by decide +kernel
theorem dX0_reset_4 : decode cX0_reset 4 = .ok (.iconst 0, 1) := by decide +kernel
theorem dX0_reset_5 : decode cX0_reset 5 = .ok (.iconst 4, 1) := by decide +kernel
theorem dX0_reset_6 : decode cX0_reset 6 = .ok (.iastore, 1) := by decide +kernel
theorem dX0_reset_7 : decode cX0_reset 7 = .ok (.aload_n 0, 1) := by decide +kernel
theorem dX0_reset_8 : decode cX0_reset 8 = .ok (.getfield 9, 3) := by decide +kernel
theorem dX0_reset_11 : decode cX0_reset 11 = .ok (.iconst 1, 1) := by decide +kernel
theorem dX0_reset_12 : decode cX0_reset 12 = .ok (.iconst 0, 1) := by decide +kernel
theorem dX0_reset_13 : decode cX0_reset 13 = .ok (.iastore, 1) := by decide +kernel
theorem dX0_reset_14 : decode cX0_reset 14 = .ok (.aload_n 0, 1) := by decide +kernel
theorem dX0_reset_15 : decode cX0_reset 15 = .ok (.bipush 20, 2) := by decide +kernel
theorem dX0_reset_17 : decode cX0_reset 17 = .ok (.putfield 18, 3) := by decide +kernel
theorem dX0_reset_20 : decode cX0_reset 20 = .ok (.aload_n 0, 1) := by decide +kernel
theorem dX0_reset_21 : decode cX0_reset 21 = .ok (.bipush 20, 2) := by decide +kernel
theorem dX0_reset_23 : decode cX0_reset 23 = .ok (.putfield 22, 3) := by decide +kernel
theorem dX0_reset_26 : decode cX0_reset 26 = .ok (.aload_n 0, 1) := by decide +kernel
theorem dX0_reset_27 : decode cX0_reset 27 = .ok (.ldc 25, 2) := by decide +kernel
theorem dX0_reset_29 : decode cX0_reset 29 = .ok (.putfield 26, 3) := by decide +kernel
theorem dX0_reset_32 : decode cX0_reset 32 = .ok (.aload_n 0, 1) := by decide +kernel
theorem dX0_reset_33 : decode cX0_reset 33 = .ok (.sipush 5000, 3) := by decide +kernel
theorem dX0_reset_36 : decode cX0_reset 36 = .ok (.putfield 29, 3) := by decide +kernel
theorem dX0_reset_39 : decode cX0_reset 39 = .ok (.return_, 1) := by decide +kernel
theorem dX0_bothThicks_0 : decode cX0_bothThicks 0 = .ok (.aload_n 0, 1) := by decide +kernel
theorem dX0_bothThicks_1 : decode cX0_bothThicks 1 = .ok (.getfield 9, 3) := by decide +kernel
theorem dX0_bothThicks_4 : decode cX0_bothThicks 4 = .ok (.iconst 0, 1) := by decide +kernel
theorem dX0_bothThicks_5 : decode cX0_bothThicks 5 = .ok (.iaload, 1) := by decide +kernel
theorem dX0_bothThicks_6 : decode cX0_bothThicks 6 = .ok (.aload_n 0, 1) := by decide +kernel
theorem dX0_bothThicks_7 : decode cX0_bothThicks 7 = .ok (.getfield 9, 3) := by decide +kernel
theorem dX0_bothThicks_10 : decode cX0_bothThicks 10 = .ok (.iconst 1, 1) := by decide +kernel
theorem dX0_bothThicks_11 : decode cX0_bothThicks 11 = .ok (.iaload, 1) := by decide +kernel
theorem dX0_bothThicks_12 : decode cX0_bothThicks 12 = .ok (.iadd, 1) := by decide +kernel
theorem dX0_bothThicks_13 : decode cX0_bothThicks 13 = .ok (.ireturn, 1) := by decide +kernel
set_option maxRecDepth 20000 in
theorem ggX0_depth_X0_bothThicks : GoodIn wsX0_depth wsX0_bothThicks := goodIn_r _ [5, 6, 7, 8, 9, 10, 11] (by decide +kernel) (by decide +kernel)
set_option maxRecDepth 20000 in
theorem gX0_depth_X0_bothThicks : GoodIn wsX0_depth (wsV RX0 32 RX0 yX0_bothThicks wsX0_bothThicks) := goodIn_app (goodIn_of _ (by decide +kernel)) ggX0_depth_X0_bothThicks
theorem dX0_depth_0 : decode cX0_depth 0 = .ok (.iload_n 1, 1) := by decide +kernel
theorem dX0_depth_1 : decode cX0_depth 1 = .ok (.iload_n 2, 1) := by decide +kernel
theorem dX0_depth_2 : decode cX0_depth 2 = .ok (.iadd, 1) := by decide +kernel
theorem dX0_depth_3 : decode cX0_depth 3 = .ok (.iconst 1, 1) := by decide +kernel
theorem dX0_depth_4 : decode cX0_depth 4 = .ok (.if_icmp .ge 7, 3) := by decide +kernel
theorem dX0_depth_7 : decode cX0_depth 7 = .ok (.iconst 0, 1) := by decide +kernel
theorem dX0_depth_8 : decode cX0_depth 8 = .ok (.goto 13, 3) := by decide +kernel
theorem dX0_depth_11 : decode cX0_depth 11 = .ok (.aload_n 0, 1) := by decide +kernel
theorem dX0_depth_12 : decode cX0_depth 12 = .ok (.invokevirtual 32, 3) := by decide +kernel
theorem dX0_depth_15 : decode cX0_depth 15 = .ok (.iload_n 2, 1) := by decide +kernel
theorem dX0_depth_16 : decode cX0_depth 16 = .ok (.imul, 1) := by decide +kernel
theorem dX0_depth_17 : decode cX0_depth 17 = .ok (.iload_n 1, 1) := by decide +kernel
theorem dX0_depth_18 : decode cX0_depth 18 = .ok (.iload_n 2, 1) := by decide +kernel
theorem dX0_depth_19 : decode cX0_depth 19 = .ok (.iadd, 1) := by decide +kernel
theorem dX0_depth_20 : decode cX0_depth 20 = .ok (.idiv, 1) := by decide +kernel
theorem dX0_depth_21 : decode cX0_depth 21 = .ok (.ireturn, 1) := by decide +kernel
set_option maxRecDepth 20000 in
theorem ggX0_whereLies_X0_bothThicks : GoodIn wsX0_whereLies wsX0_bothThicks := goodIn_r _ [6, 1, 7, 8, 9, 10, 11] (by decide +kernel) (by decide +kernel)
set_option maxRecDepth 20000 in
theorem gX0_whereLies_X0_bothThicks : GoodIn wsX0_whereLies (wsV RX0 32 RX0 yX0_bothThicks wsX0_bothThicks) := goodIn_app (goodIn_of _ (by decide +kernel)) ggX0_whereLies_X0_bothThicks
theorem dX0_whereLies_0 : decode cX0_whereLies 0 = .ok (.iload_n 1, 1) := by decide +kernel
theorem dX0_whereLies_1 : decode cX0_whereLies 1 = .ok (.ifCond .le 15, 3) := by decide +kernel
theorem dX0_whereLies_4 : decode cX0_whereLies 4 = .ok (.iload_n 1, 1) := by decide +kernel
theorem dX0_whereLies_5 : decode cX0_whereLies 5 = .ok (.aload_n 0, 1) := by decide +kernel
theorem dX0_whereLies_6 : decode cX0_whereLies 6 = .ok (.getfield 9, 3) := by decide +kernel
theorem dX0_whereLies_9 : decode cX0_whereLies 9 = .ok (.iconst 0, 1) := by decide +kernel
theorem dX0_whereLies_10 : decode cX0_whereLies 10 = .ok (.iaload, 1) := by decide +kernel
theorem dX0_whereLies_11 : decode cX0_whereLies 11 = .ok (.if_icmp .ge 5, 3) := by decide +kernel
theorem dX0_whereLies_14 : decode cX0_whereLies 14 = .ok (.iconst 0, 1) := by decide +kernel
theorem dX0_whereLies_15 : decode cX0_whereLies 15 = .ok (.ireturn, 1) := by decide +kernel
theorem dX0_whereLies_16 : decode cX0_whereLies 16 = .ok (.iload_n 1, 1) := by decide +kernel
theorem dX0_whereLies_17 : decode cX0_whereLies 17 = .ok (.aload_n 0, 1) := by decide +kernel
theorem dX0_whereLies_18 : decode cX0_whereLies 18 = .ok (.getfield 9, 3) := by decide +kernel
theorem dX0_whereLies_21 : decode cX0_whereLies 21 = .ok (.iconst 0, 1) := by decide +kernel
theorem dX0_whereLies_22 : decode cX0_whereLies 22 = .ok (.iaload, 1) := by decide +kernel
theorem dX0_whereLies_23 : decode cX0_whereLies 23 = .ok (.if_icmp .le 13, 3) := by decide +kernel
theorem dX0_whereLies_26 : decode cX0_whereLies 26 = .ok (.iload_n 1, 1) := by decide +kernel
theorem dX0_whereLies_27 : decode cX0_whereLies 27 = .ok (.aload_n 0, 1) := by decide +kernel
theorem dX0_whereLies_28 : decode cX0_whereLies 28 = .ok (.invokevirtual 32, 3) := by decide +kernel
theorem dX0_whereLies_31 : decode cX0_whereLies 31 = .ok (.if_icmp .ge 5, 3) := by decide +kernel
theorem dX0_whereLies_34 : decode cX0_whereLies 34 = .ok (.iconst 1, 1) := by decide +kernel
theorem dX0_whereLies_35 : decode cX0_whereLies 35 = .ok (.ireturn, 1) := by decide +kernel
theorem dX0_whereLies_36 : decode cX0_whereLies 36 = .ok (.iload_n 1, 1) := by decide +kernel
theorem dX0_whereLies_37 : decode cX0_whereLies 37 = .ok (.ifCond .ne 5, 3) := by decide +kernel
theorem dX0_whereLies_40 : decode cX0_whereLies 40 = .ok (.iconst 2, 1) := by decide +kernel
theorem dX0_whereLies_41 : decode cX0_whereLies 41 = .ok (.ireturn, 1) := by decide +kernel
theorem dX0_whereLies_42 : decode cX0_whereLies 42 = .ok (.iload_n 1, 1) := by decide +kernel
theorem dX0_whereLies_43 : decode cX0_whereLies 43 = .ok (.aload_n 0, 1) := by decide +kernel
theorem dX0_whereLies_44 : decode cX0_whereLies 44 = .ok (.invokevirtual 32, 3) := by decide +kernel
theorem dX0_whereLies_47 : decode cX0_whereLies 47 = .ok (.if_icmp .ne 7, 3) := by decide +kernel
theorem dX0_whereLies_50 : decode cX0_whereLies 50 = .ok (.iconst 3, 1) := by decide +kernel
theorem dX0_whereLies_51 : decode cX0_whereLies 51 = .ok (.goto 4, 3) := by decide +kernel
theorem dX0_whereLies_54 : decode cX0_whereLies 54 = .ok (.iconst 4, 1) := by decide +kernel
theorem dX0_whereLies_55 : decode cX0_whereLies 55 = .ok (.ireturn, 1) := by decide +kernel
set_option maxRecDepth 20000 in
theorem ggX0_leastTensions_X0_depth : GoodIn wsX0_leastTensions wsX0_depth := goodIn_r _ [9, 10, 11, 12, 8, 13, 14, 19, 20, 21, 22, 23] (by decide +kernel) (by decide +kernel)
set_option maxRecDepth 20000 in
theorem gX0_leastTensions_X0_depth : GoodIn wsX0_leastTensions (wsV RX0 42 RX0 yX0_depth wsX0_depth) := goodIn_app (goodIn_of _ (by decide +kernel)) ggX0_leastTensions_X0_depth
set_option maxRecDepth 20000 in
theorem ggX0_leastTensions_X0_whereLies : GoodIn wsX0_leastTensions wsX0_whereLies := goodIn_r _ [18, 14, 10, 11, 12, 8, 13, 19, 20, 21, 22, 23] (by decide +kernel) (by decide +kernel)
set_option maxRecDepth 20000 in
theorem gX0_leastTensions_X0_whereLies : GoodIn wsX0_leastTensions (wsV RX0 45 RX0 yX0_whereLies wsX0_whereLies) := goodIn_app (goodIn_of _ (by decide +kernel)) ggX0_leastTensions_X0_whereLies
theorem dX0_leastTensions_0 : decode cX0_leastTensions 0 = .ok (.iconst 2, 1) := by decide +kernel
theorem dX0_leastTensions_1 : decode cX0_leastTensions 1 = .ok (.istore_n 2, 1) := by decide +kernel
theorem dX0_leastTensions_2 : decode cX0_leastTensions 2 = .ok (.iload_n 2, 1) := by decide +kernel
theorem dX0_leastTensions_3 : decode cX0_leastTensions 3 = .ok (.sipush 198, 3) := by decide +kernel
theorem dX0_leastTensions_6 : decode cX0_leastTensions 6 = .ok (.if_icmp .gt 60, 3) := by decide +kernel
theorem dX0_leastTensions_9 : decode cX0_leastTensions 9 = .ok (.iconst 1, 1) := by decide +kernel
theorem dX0_leastTensions_10 : decode cX0_leastTensions 10 = .ok (.iload_n 2, 1) := by decide +kernel
theorem dX0_leastTensions_11 : decode cX0_leastTensions 11 = .ok (.bipush 99, 2) := by decide +kernel
theorem dX0_leastTensions_13 : decode cX0_leastTensions 13 = .ok (.isub, 1) := by decide +kernel
theorem dX0_leastTensions_14 : decode cX0_leastTensions 14 = .ok (.invokestatic 36, 3) := by decide +kernel
theorem dX0_leastTensions_17 : decode cX0_leastTensions 17 = .ok (.istore_n 3, 1) := by decide +kernel
theorem dX0_leastTensions_18 : decode cX0_leastTensions 18 = .ok (.iload_n 3, 1) := by decide +kernel
theorem dX0_leastTensions_19 : decode cX0_leastTensions 19 = .ok (.bipush 99, 2) := by decide +kernel
theorem dX0_leastTensions_21 : decode cX0_leastTensions 21 = .ok (.if_icmp .gt 39, 3) := by decide +kernel
theorem dX0_leastTensions_24 : decode cX0_leastTensions 24 = .ok (.iload_n 3, 1) := by decide +kernel
theorem dX0_leastTensions_25 : decode cX0_leastTensions 25 = .ok (.iload_n 2, 1) := by decide +kernel
theorem dX0_leastTensions_26 : decode cX0_leastTensions 26 = .ok (.if_icmp .ge 34, 3) := by decide +kernel
theorem dX0_leastTensions_29 : decode cX0_leastTensions 29 = .ok (.aload_n 0, 1) := by decide +kernel
theorem dX0_leastTensions_30 : decode cX0_leastTensions 30 = .ok (.aload_n 0, 1) := by decide +kernel
theorem dX0_leastTensions_31 : decode cX0_leastTensions 31 = .ok (.iload_n 3, 1) := by decide +kernel
theorem dX0_leastTensions_32 : decode cX0_leastTensions 32 = .ok (.iload_n 2, 1) := by decide +kernel
theorem dX0_leastTensions_33 : decode cX0_leastTensions 33 = .ok (.iload_n 3, 1) := by decide +kernel
theorem dX0_leastTensions_34 : decode cX0_leastTensions 34 = .ok (.isub, 1) := by decide +kernel
theorem dX0_leastTensions_35 : decode cX0_leastTensions 35 = .ok (.invokevirtual 42, 3) := by decide +kernel
theorem dX0_leastTensions_38 : decode cX0_leastTensions 38 = .ok (.invokevirtual 45, 3) := by decide +kernel
theorem dX0_leastTensions_41 : decode cX0_leastTensions 41 = .ok (.iload_n 1, 1) := by decide +kernel
theorem dX0_leastTensions_42 : decode cX0_leastTensions 42 = .ok (.if_icmp .ne 12, 3) := by decide +kernel
theorem dX0_leastTensions_45 : decode cX0_leastTensions 45 = .ok (.bipush 100, 2) := by decide +kernel
theorem dX0_leastTensions_47 : decode cX0_leastTensions 47 = .ok (.iload_n 3, 1) := by decide +kernel
theorem dX0_leastTensions_48 : decode cX0_leastTensions 48 = .ok (.imul, 1) := by decide +kernel
theorem dX0_leastTensions_49 : decode cX0_leastTensions 49 = .ok (.iload_n 2, 1) := by decide +kernel
theorem dX0_leastTensions_50 : decode cX0_leastTensions 50 = .ok (.iadd, 1) := by decide +kernel
theorem dX0_leastTensions_51 : decode cX0_leastTensions 51 = .ok (.iload_n 3, 1) := by decide +kernel
theorem dX0_leastTensions_52 : decode cX0_leastTensions 52 = .ok (.isub, 1) := by decide +kernel
theorem dX0_leastTensions_53 : decode cX0_leastTensions 53 = .ok (.ireturn, 1) := by decide +kernel
theorem dX0_leastTensions_54 : decode cX0_leastTensions 54 = .ok (.iinc 3 1, 3) := by decide +kernel
theorem dX0_leastTensions_57 : decode cX0_leastTensions 57 = .ok (.goto (-39), 3) := by decide +kernel
theorem dX0_leastTensions_60 : decode cX0_leastTensions 60 = .ok (.iinc 2 1, 3) := by decide +kernel
theorem dX0_leastTensions_63 : decode cX0_leastTensions 63 = .ok (.goto (-61), 3) := by decide +kernel
theorem dX0_leastTensions_66 : decode cX0_leastTensions 66 = .ok (.bipush (-4), 2) := by decide +kernel
theorem dX0_leastTensions_68 : decode cX0_leastTensions 68 = .ok (.ireturn, 1) := by decide +kernel
theorem dX1_init_0 : decode cX1_init 0 = .ok (.aload_n 0, 1) := by decide +kernel
theorem dX1_init_1 : decode cX1_init 1 = .ok (.invokespecial 3, 3) := by decide +kernel
theorem dX1_init_4 : decode cX1_init 4 = .ok (.aload_n 0, 1) := by decide +kernel
theorem dX1_init_5 : decode cX1_init 5 = .ok (.bipush 48, 2) := by decide +kernel
theorem dX1_init_7 : decode cX1_init 7 = .ok (.newarray .int, 2) := by decide +kernel
theorem dX1_init_9 : decode cX1_init 9 = .ok (.putfield 9, 3) := by decide +kernel
theorem dX1_init_12 : decode cX1_init 12 = .ok (.aload_n 0, 1) := by decide +kernel
theorem dX1_init_13 : decode cX1_init 13 = .ok (.bipush 48, 2) := by decide +kernel
theorem dX1_init_15 : decode cX1_init 15 = .ok (.newarray .int, 2) := by decide +kernel
theorem dX1_init_17 : decode cX1_init 17 = .ok (.putfield 15, 3) := by decide +kernel
theorem dX1_init_20 : decode cX1_init 20 = .ok (.return_, 1) := by decide +kernel
theorem dX1_forget_0 : decode cX1_forget 0 = .ok (.aload_n 0, 1) := by decide +kernel
theorem dX1_forget_1 : decode cX1_forget 1 = .ok (.iconst 0, 1) := by decide +kernel
theorem dX1_forget_2 : decode cX1_forget 2 = .ok (.putfield 18, 3) := by decide +kernel
theorem dX1_forget_5 : decode cX1_forget 5 = .ok (.return_, 1) := by decide +kernel
theorem dX1_become_0 : decode cX1_become 0 = .ok (.aload_n 1, 1) := by decide +kernel
theorem dX1_become_1 : decode cX1_become 1 = .ok (.getfield 9, 3) := by decide +kernel
theorem dX1_become_4 : decode cX1_become 4 = .ok (.iconst 0, 1) := by decide +kernel
theorem dX1_become_5 : decode cX1_become 5 = .ok (.aload_n 0, 1) := by decide +kernel
theorem dX1_become_6 : decode cX1_become 6 = .ok (.getfield 9, 3) := by decide +kernel
theorem dX1_become_9 : decode cX1_become 9 = .ok (.iconst 0, 1) := by decide +kernel
theorem dX1_become_10 : decode cX1_become 10 = .ok (.bipush 48, 2) := by decide +kernel
theorem dX1_become_12 : decode cX1_become 12 = .ok (.invokestatic 22, 3) := by decide +kernel
theorem dX1_become_15 : decode cX1_become 15 = .ok (.aload_n 1, 1) := by decide +kernel
theorem dX1_become_16 : decode cX1_become 16 = .ok (.getfield 15, 3) := by decide +kernel
theorem dX1_become_19 : decode cX1_become 19 = .ok (.iconst 0, 1) := by decide +kernel
theorem dX1_become_20 : decode cX1_become 20 = .ok (.aload_n 0, 1) := by decide +kernel
theorem dX1_become_21 : decode cX1_become 21 = .ok (.getfield 15, 3) := by decide +kernel
theorem dX1_become_24 : decode cX1_become 24 = .ok (.iconst 0, 1) := by decide +kernel
theorem dX1_become_25 : decode cX1_become 25 = .ok (.bipush 48, 2) := by decide +kernel
theorem dX1_become_27 : decode cX1_become 27 = .ok (.invokestatic 22, 3) := by decide +kernel
theorem dX1_become_30 : decode cX1_become 30 = .ok (.aload_n 0, 1) := by decide +kernel
theorem dX1_become_31 : decode cX1_become 31 = .ok (.aload_n 1, 1) := by decide +kernel
theorem dX1_become_32 : decode cX1_become 32 = .ok (.getfield 18, 3) := by decide +kernel
theorem dX1_become_35 : decode cX1_become 35 = .ok (.putfield 18, 3) := by decide +kernel
theorem dX1_become_38 : decode cX1_become 38 = .ok (.return_, 1) := by decide +kernel
set_option maxRecDepth 20000 in
theorem ggX1_becomesMadeFrom_X1_parts : GoodIn wsX1_becomesMadeFrom wsX1_parts := goodIn_r _ [6, 7, 8, 9, 10, 11, 12, 13, 14, 15, 16, 17, 18, 19, 20, 21, 22, 23, 24, 25, 26, 27, 28, 29, 30, 5, 31, 42, 43, 44, 45] (by decide +kernel) (by decide +kernel)
set_option maxRecDepth 20000 in
theorem gX1_becomesMadeFrom_X1_parts : GoodIn wsX1_becomesMadeFrom (va_wsS RX1 33 yX1_parts wsX1_parts) := goodIn_app (goodIn_of _ (by decide +kernel)) ggX1_becomesMadeFrom_X1_parts
set_option maxRecDepth 20000 in
theorem ggX1_becomesMadeFrom_X1_addWay : GoodIn wsX1_becomesMadeFrom wsX1_addWay := goodIn_r _ [35, 7, 12, 2, 36, 37, 16, 17, 18, 19, 20, 21, 22, 23, 24, 25, 26, 27, 28, 38, 39, 40, 41, 42, 43, 44, 45, 46, 47, 48] (by decide +kernel) (by decide +kernel)
set_option maxRecDepth 20000 in
theorem gX1_becomesMadeFrom_X1_addWay : GoodIn wsX1_becomesMadeFrom (wsV RX1 37 RX1 yX1_addWay wsX1_addWay) := goodIn_app (goodIn_of _ (by decide +kernel)) ggX1_becomesMadeFrom_X1_addWay
theorem dX1_becomesMadeFrom_0 : decode cX1_becomesMadeFrom 0 = .ok (.iconst 0, 1) := by decide +kernel
theorem dX1_becomesMadeFrom_1 : decode cX1_becomesMadeFrom 1 = .ok (.istore 4, 2) := by decide +kernel
theorem dX1_becomesMadeFrom_3 : decode cX1_becomesMadeFrom 3 = .ok (.iconst 0, 1) := by decide +kernel
theorem dX1_becomesMadeFrom_4 : decode cX1_becomesMadeFrom 4 = .ok (.istore 5, 2) := by decide +kernel
theorem dX1_becomesMadeFrom_6 : decode cX1_becomesMadeFrom 6 = .ok (.iload 5, 2) := by decide +kernel
theorem dX1_becomesMadeFrom_8 : decode cX1_becomesMadeFrom 8 = .ok (.aload_n 1, 1) := by decide +kernel
theorem dX1_becomesMadeFrom_9 : decode cX1_becomesMadeFrom 9 = .ok (.getfield 28, 3) := by decide +kernel
theorem dX1_becomesMadeFrom_12 : decode cX1_becomesMadeFrom 12 = .ok (.if_icmp .ge 22, 3) := by decide +kernel
theorem dX1_becomesMadeFrom_15 : decode cX1_becomesMadeFrom 15 = .ok (.iload 4, 2) := by decide +kernel
theorem dX1_becomesMadeFrom_17 : decode cX1_becomesMadeFrom 17 = .ok (.aload_n 1, 1) := by decide +kernel
theorem dX1_becomesMadeFrom_18 : decode cX1_becomesMadeFrom 18 = .ok (.iload 5, 2) := by decide +kernel
theorem dX1_becomesMadeFrom_20 : decode cX1_becomesMadeFrom 20 = .ok (.iload_n 2, 1) := by decide +kernel
theorem dX1_becomesMadeFrom_21 : decode cX1_becomesMadeFrom 21 = .ok (.iload_n 3, 1) := by decide +kernel
theorem dX1_becomesMadeFrom_22 : decode cX1_becomesMadeFrom 22 = .ok (.invokestatic 33, 3) := by decide +kernel
theorem dX1_becomesMadeFrom_25 : decode cX1_becomesMadeFrom 25 = .ok (.iadd, 1) := by decide +kernel
theorem dX1_becomesMadeFrom_26 : decode cX1_becomesMadeFrom 26 = .ok (.istore 4, 2) := by decide +kernel
theorem dX1_becomesMadeFrom_28 : decode cX1_becomesMadeFrom 28 = .ok (.iinc 5 1, 3) := by decide +kernel
theorem dX1_becomesMadeFrom_31 : decode cX1_becomesMadeFrom 31 = .ok (.goto (-25), 3) := by decide +kernel
theorem dX1_becomesMadeFrom_34 : decode cX1_becomesMadeFrom 34 = .ok (.iload 4, 2) := by decide +kernel
theorem dX1_becomesMadeFrom_36 : decode cX1_becomesMadeFrom 36 = .ok (.bipush 48, 2) := by decide +kernel
theorem dX1_becomesMadeFrom_38 : decode cX1_becomesMadeFrom 38 = .ok (.if_icmp .le 5, 3) := by decide +kernel
theorem dX1_becomesMadeFrom_41 : decode cX1_becomesMadeFrom 41 = .ok (.iconst 0, 1) := by decide +kernel
theorem dX1_becomesMadeFrom_42 : decode cX1_becomesMadeFrom 42 = .ok (.ireturn, 1) := by decide +kernel
theorem dX1_becomesMadeFrom_43 : decode cX1_becomesMadeFrom 43 = .ok (.aload_n 0, 1) := by decide +kernel
theorem dX1_becomesMadeFrom_44 : decode cX1_becomesMadeFrom 44 = .ok (.iconst 0, 1) := by decide +kernel
theorem dX1_becomesMadeFrom_45 : decode cX1_becomesMadeFrom 45 = .ok (.putfield 18, 3) := by decide +kernel
theorem dX1_becomesMadeFrom_48 : decode cX1_becomesMadeFrom 48 = .ok (.iconst 0, 1) := by decide +kernel
theorem dX1_becomesMadeFrom_49 : decode cX1_becomesMadeFrom 49 = .ok (.istore 5, 2) := by decide +kernel
theorem dX1_becomesMadeFrom_51 : decode cX1_becomesMadeFrom 51 = .ok (.iload 5, 2) := by decide +kernel
theorem dX1_becomesMadeFrom_53 : decode cX1_becomesMadeFrom 53 = .ok (.aload_n 1, 1) := by decide +kernel
theorem dX1_becomesMadeFrom_54 : decode cX1_becomesMadeFrom 54 = .ok (.getfield 28, 3) := by decide +kernel
theorem dX1_becomesMadeFrom_57 : decode cX1_becomesMadeFrom 57 = .ok (.if_icmp .ge 24, 3) := by decide +kernel
theorem dX1_becomesMadeFrom_60 : decode cX1_becomesMadeFrom 60 = .ok (.aload_n 0, 1) := by decide +kernel
theorem dX1_becomesMadeFrom_61 : decode cX1_becomesMadeFrom 61 = .ok (.aload_n 1, 1) := by decide +kernel
theorem dX1_becomesMadeFrom_62 : decode cX1_becomesMadeFrom 62 = .ok (.iload 5, 2) := by decide +kernel
theorem dX1_becomesMadeFrom_64 : decode cX1_becomesMadeFrom 64 = .ok (.aload_n 1, 1) := by decide +kernel
theorem dX1_becomesMadeFrom_65 : decode cX1_becomesMadeFrom 65 = .ok (.iload 5, 2) := by decide +kernel
theorem dX1_becomesMadeFrom_67 : decode cX1_becomesMadeFrom 67 = .ok (.iload_n 2, 1) := by decide +kernel
theorem dX1_becomesMadeFrom_68 : decode cX1_becomesMadeFrom 68 = .ok (.iload_n 3, 1) := by decide +kernel
theorem dX1_becomesMadeFrom_69 : decode cX1_becomesMadeFrom 69 = .ok (.invokestatic 33, 3) := by decide +kernel
theorem dX1_becomesMadeFrom_72 : decode cX1_becomesMadeFrom 72 = .ok (.invokevirtual 37, 3) := by decide +kernel
theorem dX1_becomesMadeFrom_75 : decode cX1_becomesMadeFrom 75 = .ok (.iinc 5 1, 3) := by decide +kernel
theorem dX1_becomesMadeFrom_78 : decode cX1_becomesMadeFrom 78 = .ok (.goto (-27), 3) := by decide +kernel
theorem dX1_becomesMadeFrom_81 : decode cX1_becomesMadeFrom 81 = .ok (.iconst 1, 1) := by decide +kernel
theorem dX1_becomesMadeFrom_82 : decode cX1_becomesMadeFrom 82 = .ok (.ireturn, 1) := by decide +kernel
set_option maxRecDepth 20000 in
theorem ggX1_parts_X5_nextX : GoodIn wsX1_parts wsX5_nextX := goodIn_r _ [14, 15, 16, 27, 28, 29, 30] (by decide +kernel) (by decide +kernel)
set_option maxRecDepth 20000 in
theorem gX1_parts_X5_nextX : GoodIn wsX1_parts (wsV RX1 41 RX5 yX5_nextX wsX5_nextX) := goodIn_app (goodIn_of _ (by decide +kernel)) ggX1_parts_X5_nextX
set_option maxRecDepth 20000 in
theorem ggX1_parts_X5_nextY : GoodIn wsX1_parts wsX5_nextY := goodIn_r _ [20, 15, 21, 22, 27, 28, 29, 30] (by decide +kernel) (by decide +kernel)
set_option maxRecDepth 20000 in
theorem gX1_parts_X5_nextY : GoodIn wsX1_parts (wsV RX1 53 RX5 yX5_nextY wsX5_nextY) := goodIn_app (goodIn_of _ (by decide +kernel)) ggX1_parts_X5_nextY
set_option maxRecDepth 20000 in
theorem ggX1_parts_X1_roundedUp : GoodIn wsX1_parts wsX1_roundedUp := goodIn_r _ [26] (by decide +kernel) (by decide +kernel)
set_option maxRecDepth 20000 in
theorem gX1_parts_X1_roundedUp : GoodIn wsX1_parts (va_wsS RX1 59 yX1_roundedUp wsX1_roundedUp) := goodIn_app (goodIn_of _ (by decide +kernel)) ggX1_parts_X1_roundedUp
theorem dX1_parts_0 : decode cX1_parts 0 = .ok (.aload_n 0, 1) := by decide +kernel
theorem dX1_parts_1 : decode cX1_parts 1 = .ok (.iload_n 1, 1) := by decide +kernel
theorem dX1_parts_2 : decode cX1_parts 2 = .ok (.invokevirtual 41, 3) := by decide +kernel
theorem dX1_parts_5 : decode cX1_parts 5 = .ok (.aload_n 0, 1) := by decide +kernel
theorem dX1_parts_6 : decode cX1_parts 6 = .ok (.getfield 45, 3) := by decide +kernel
theorem dX1_parts_9 : decode cX1_parts 9 = .ok (.iload_n 1, 1) := by decide +kernel
theorem dX1_parts_10 : decode cX1_parts 10 = .ok (.iaload, 1) := by decide +kernel
theorem dX1_parts_11 : decode cX1_parts 11 = .ok (.isub, 1) := by decide +kernel
theorem dX1_parts_12 : decode cX1_parts 12 = .ok (.invokestatic 48, 3) := by decide +kernel
theorem dX1_parts_15 : decode cX1_parts 15 = .ok (.istore 4, 2) := by decide +kernel
theorem dX1_parts_17 : decode cX1_parts 17 = .ok (.aload_n 0, 1) := by decide +kernel
theorem dX1_parts_18 : decode cX1_parts 18 = .ok (.iload_n 1, 1) := by decide +kernel
theorem dX1_parts_19 : decode cX1_parts 19 = .ok (.invokevirtual 53, 3) := by decide +kernel
theorem dX1_parts_22 : decode cX1_parts 22 = .ok (.aload_n 0, 1) := by decide +kernel
theorem dX1_parts_23 : decode cX1_parts 23 = .ok (.getfield 56, 3) := by decide +kernel
theorem dX1_parts_26 : decode cX1_parts 26 = .ok (.iload_n 1, 1) := by decide +kernel
theorem dX1_parts_27 : decode cX1_parts 27 = .ok (.iaload, 1) := by decide +kernel
theorem dX1_parts_28 : decode cX1_parts 28 = .ok (.isub, 1) := by decide +kernel
theorem dX1_parts_29 : decode cX1_parts 29 = .ok (.invokestatic 48, 3) := by decide +kernel
theorem dX1_parts_32 : decode cX1_parts 32 = .ok (.istore 5, 2) := by decide +kernel
theorem dX1_parts_34 : decode cX1_parts 34 = .ok (.iconst 1, 1) := by decide +kernel
theorem dX1_parts_35 : decode cX1_parts 35 = .ok (.iload 4, 2) := by decide +kernel
theorem dX1_parts_37 : decode cX1_parts 37 = .ok (.iload_n 2, 1) := by decide +kernel
theorem dX1_parts_38 : decode cX1_parts 38 = .ok (.invokestatic 59, 3) := by decide +kernel
theorem dX1_parts_41 : decode cX1_parts 41 = .ok (.iload 5, 2) := by decide +kernel
theorem dX1_parts_43 : decode cX1_parts 43 = .ok (.iload_n 3, 1) := by decide +kernel
theorem dX1_parts_44 : decode cX1_parts 44 = .ok (.invokestatic 59, 3) := by decide +kernel
theorem dX1_parts_47 : decode cX1_parts 47 = .ok (.invokestatic 63, 3) := by decide +kernel
theorem dX1_parts_50 : decode cX1_parts 50 = .ok (.invokestatic 63, 3) := by decide +kernel
theorem dX1_parts_53 : decode cX1_parts 53 = .ok (.ireturn, 1) := by decide +kernel
theorem dX1_roundedUp_0 : decode cX1_roundedUp 0 = .ok (.iload_n 1, 1) := by decide +kernel
theorem dX1_roundedUp_1 : decode cX1_roundedUp 1 = .ok (.iconst 1, 1) := by decide +kernel
theorem dX1_roundedUp_2 : decode cX1_roundedUp 2 = .ok (.if_icmp .ge 7, 3) := by decide +kernel
theorem dX1_roundedUp_5 : decode cX1_roundedUp 5 = .ok (.iconst 0, 1) := by decide +kernel
theorem dX1_roundedUp_6 : decode cX1_roundedUp 6 = .ok (.goto 10, 3) := by decide +kernel
theorem dX1_roundedUp_9 : decode cX1_roundedUp 9 = .ok (.iload_n 0, 1) := by decide +kernel
theorem dX1_roundedUp_10 : decode cX1_roundedUp 10 = .ok (.iload_n 1, 1) := by decide +kernel
theorem dX1_roundedUp_11 : decode cX1_roundedUp 11 = .ok (.iadd, 1) := by decide +kernel
theorem dX1_roundedUp_12 : decode cX1_roundedUp 12 = .ok (.iconst 1, 1) := by decide +kernel
theorem dX1_roundedUp_13 : decode cX1_roundedUp 13 = .ok (.isub, 1) := by decide +kernel
theorem dX1_roundedUp_14 : decode cX1_roundedUp 14 = .ok (.iload_n 1, 1) := by decide +kernel
theorem dX1_roundedUp_15 : decode cX1_roundedUp 15 = .ok (.idiv, 1) := by decide +kernel
theorem dX1_roundedUp_16 : decode cX1_roundedUp 16 = .ok (.ireturn, 1) := by decide +kernel
set_option maxRecDepth 20000 in
theorem ggX1_addWay_X5_nextX : GoodIn wsX1_addWay wsX5_nextX := goodIn_r _ [10, 11, 12, 23, 24, 25, 26] (by decide +kernel) (by decide +kernel)
set_option maxRecDepth 20000 in
theorem gX1_addWay_X5_nextX : GoodIn wsX1_addWay (wsV RX1 41 RX5 yX5_nextX wsX5_nextX) := goodIn_app (goodIn_of _ (by decide +kernel)) ggX1_addWay_X5_nextX
set_option maxRecDepth 20000 in
theorem ggX1_addWay_X5_nextY : GoodIn wsX1_addWay wsX5_nextY := goodIn_r _ [16, 11, 17, 18, 23, 24, 25, 26] (by decide +kernel) (by decide +kernel)
set_option maxRecDepth 20000 in
theorem gX1_addWay_X5_nextY : GoodIn wsX1_addWay (wsV RX1 53 RX5 yX5_nextY wsX5_nextY) := goodIn_app (goodIn_of _ (by decide +kernel)) ggX1_addWay_X5_nextY
set_option maxRecDepth 20000 in
theorem ggX1_addWay_J9_floorDiv_7cf53 : GoodIn wsX1_addWay wsJ9_floorDiv_7cf53 := goodIn_r _ [22] (by decide +kernel) (by decide +kernel)
set_option maxRecDepth 20000 in
theorem gX1_addWay_J9_floorDiv_7cf53 : GoodIn wsX1_addWay (va_wsS RX1 66 yJ9_floorDiv_7cf53 wsJ9_floorDiv_7cf53) := goodIn_app (goodIn_of _ (by decide +kernel)) ggX1_addWay_J9_floorDiv_7cf53
theorem dX1_addWay_0 : decode cX1_addWay 0 = .ok (.aload_n 1, 1) := by decide +kernel
theorem dX1_addWay_1 : decode cX1_addWay 1 = .ok (.iload_n 2, 1) := by decide +kernel
theorem dX1_addWay_2 : decode cX1_addWay 2 = .ok (.invokevirtual 41, 3) := by decide +kernel
theorem dX1_addWay_5 : decode cX1_addWay 5 = .ok (.aload_n 1, 1) := by decide +kernel
theorem dX1_addWay_6 : decode cX1_addWay 6 = .ok (.getfield 45, 3) := by decide +kernel
theorem dX1_addWay_9 : decode cX1_addWay 9 = .ok (.iload_n 2, 1) := by decide +kernel
theorem dX1_addWay_10 : decode cX1_addWay 10 = .ok (.iaload, 1) := by decide +kernel
theorem dX1_addWay_11 : decode cX1_addWay 11 = .ok (.isub, 1) := by decide +kernel
theorem dX1_addWay_12 : decode cX1_addWay 12 = .ok (.istore 4, 2) := by decide +kernel
theorem dX1_addWay_14 : decode cX1_addWay 14 = .ok (.aload_n 1, 1) := by decide +kernel
theorem dX1_addWay_15 : decode cX1_addWay 15 = .ok (.iload_n 2, 1) := by decide +kernel
theorem dX1_addWay_16 : decode cX1_addWay 16 = .ok (.invokevirtual 53, 3) := by decide +kernel
theorem dX1_addWay_19 : decode cX1_addWay 19 = .ok (.aload_n 1, 1) := by decide +kernel
theorem dX1_addWay_20 : decode cX1_addWay 20 = .ok (.getfield 56, 3) := by decide +kernel
theorem dX1_addWay_23 : decode cX1_addWay 23 = .ok (.iload_n 2, 1) := by decide +kernel
theorem dX1_addWay_24 : decode cX1_addWay 24 = .ok (.iaload, 1) := by decide +kernel
theorem dX1_addWay_25 : decode cX1_addWay 25 = .ok (.isub, 1) := by decide +kernel
theorem dX1_addWay_26 : decode cX1_addWay 26 = .ok (.istore 5, 2) := by decide +kernel
theorem dX1_addWay_28 : decode cX1_addWay 28 = .ok (.iconst 0, 1) := by decide +kernel
theorem dX1_addWay_29 : decode cX1_addWay 29 = .ok (.istore 6, 2) := by decide +kernel
theorem dX1_addWay_31 : decode cX1_addWay 31 = .ok (.iconst 1, 1) := by decide +kernel
theorem dX1_addWay_32 : decode cX1_addWay 32 = .ok (.istore 7, 2) := by decide +kernel
theorem dX1_addWay_34 : decode cX1_addWay 34 = .ok (.iload 7, 2) := by decide +kernel
theorem dX1_addWay_36 : decode cX1_addWay 36 = .ok (.iload_n 3, 1) := by decide +kernel
theorem dX1_addWay_37 : decode cX1_addWay 37 = .ok (.if_icmp .gt 82, 3) := by decide +kernel
theorem dX1_addWay_40 : decode cX1_addWay 40 = .ok (.aload_n 0, 1) := by decide +kernel
theorem dX1_addWay_41 : decode cX1_addWay 41 = .ok (.getfield 18, 3) := by decide +kernel
theorem dX1_addWay_44 : decode cX1_addWay 44 = .ok (.bipush 48, 2) := by decide +kernel
theorem dX1_addWay_46 : decode cX1_addWay 46 = .ok (.if_icmp .ge 73, 3) := by decide +kernel
theorem dX1_addWay_49 : decode cX1_addWay 49 = .ok (.iload 5, 2) := by decide +kernel
theorem dX1_addWay_51 : decode cX1_addWay 51 = .ok (.iload 7, 2) := by decide +kernel
theorem dX1_addWay_53 : decode cX1_addWay 53 = .ok (.imul, 1) := by decide +kernel
theorem dX1_addWay_54 : decode cX1_addWay 54 = .ok (.iload_n 3, 1) := by decide +kernel
theorem dX1_addWay_55 : decode cX1_addWay 55 = .ok (.invokestatic 66, 3) := by decide +kernel
theorem dX1_addWay_58 : decode cX1_addWay 58 = .ok (.istore 8, 2) := by decide +kernel
theorem dX1_addWay_60 : decode cX1_addWay 60 = .ok (.aload_n 0, 1) := by decide +kernel
theorem dX1_addWay_61 : decode cX1_addWay 61 = .ok (.getfield 9, 3) := by decide +kernel
theorem dX1_addWay_64 : decode cX1_addWay 64 = .ok (.aload_n 0, 1) := by decide +kernel
theorem dX1_addWay_65 : decode cX1_addWay 65 = .ok (.getfield 18, 3) := by decide +kernel
theorem dX1_addWay_68 : decode cX1_addWay 68 = .ok (.aload_n 1, 1) := by decide +kernel
theorem dX1_addWay_69 : decode cX1_addWay 69 = .ok (.getfield 45, 3) := by decide +kernel
theorem dX1_addWay_72 : decode cX1_addWay 72 = .ok (.iload_n 2, 1) := by decide +kernel
theorem dX1_addWay_73 : decode cX1_addWay 73 = .ok (.iaload, 1) := by decide +kernel
theorem dX1_addWay_74 : decode cX1_addWay 74 = .ok (.iload 4, 2) := by decide +kernel
theorem dX1_addWay_76 : decode cX1_addWay 76 = .ok (.iload 7, 2) := by decide +kernel
theorem dX1_addWay_78 : decode cX1_addWay 78 = .ok (.imul, 1) := by decide +kernel
theorem dX1_addWay_79 : decode cX1_addWay 79 = .ok (.iload_n 3, 1) := by decide +kernel
theorem dX1_addWay_80 : decode cX1_addWay 80 = .ok (.invokestatic 66, 3) := by decide +kernel
theorem dX1_addWay_83 : decode cX1_addWay 83 = .ok (.iadd, 1) := by decide +kernel
theorem dX1_addWay_84 : decode cX1_addWay 84 = .ok (.iastore, 1) := by decide +kernel
theorem dX1_addWay_85 : decode cX1_addWay 85 = .ok (.aload_n 0, 1) := by decide +kernel
theorem dX1_addWay_86 : decode cX1_addWay 86 = .ok (.getfield 15, 3) := by decide +kernel
theorem dX1_addWay_89 : decode cX1_addWay 89 = .ok (.aload_n 0, 1) := by decide +kernel
theorem dX1_addWay_90 : decode cX1_addWay 90 = .ok (.getfield 18, 3) := by decide +kernel
theorem dX1_addWay_93 : decode cX1_addWay 93 = .ok (.iload 8, 2) := by decide +kernel
theorem dX1_addWay_95 : decode cX1_addWay 95 = .ok (.iload 6, 2) := by decide +kernel
theorem dX1_addWay_97 : decode cX1_addWay 97 = .ok (.isub, 1) := by decide +kernel
theorem dX1_addWay_98 : decode cX1_addWay 98 = .ok (.iastore, 1) := by decide +kernel
theorem dX1_addWay_99 : decode cX1_addWay 99 = .ok (.aload_n 0, 1) := by decide +kernel
theorem dX1_addWay_100 : decode cX1_addWay 100 = .ok (.dup, 1) := by decide +kernel
theorem dX1_addWay_101 : decode cX1_addWay 101 = .ok (.getfield 18, 3) := by decide +kernel
theorem dX1_addWay_104 : decode cX1_addWay 104 = .ok (.iconst 1, 1) := by decide +kernel
theorem dX1_addWay_105 : decode cX1_addWay 105 = .ok (.iadd, 1) := by decide +kernel
theorem dX1_addWay_106 : decode cX1_addWay 106 = .ok (.putfield 18, 3) := by decide +kernel
theorem dX1_addWay_109 : decode cX1_addWay 109 = .ok (.iload 8, 2) := by decide +kernel
theorem dX1_addWay_111 : decode cX1_addWay 111 = .ok (.istore 6, 2) := by decide +kernel
theorem dX1_addWay_113 : decode cX1_addWay 113 = .ok (.iinc 7 1, 3) := by decide +kernel
theorem dX1_addWay_116 : decode cX1_addWay 116 = .ok (.goto (-82), 3) := by decide +kernel
theorem dX1_addWay_119 : decode cX1_addWay 119 = .ok (.return_, 1) := by decide +kernel
theorem dX1_becomeTurned_0 : decode cX1_becomeTurned 0 = .ok (.iconst 0, 1) := by decide +kernel
theorem dX1_becomeTurned_1 : decode cX1_becomeTurned 1 = .ok (.istore 4, 2) := by decide +kernel
theorem dX1_becomeTurned_3 : decode cX1_becomeTurned 3 = .ok (.iload 4, 2) := by decide +kernel
theorem dX1_becomeTurned_5 : decode cX1_becomeTurned 5 = .ok (.aload_n 1, 1) := by decide +kernel
theorem dX1_becomeTurned_6 : decode cX1_becomeTurned 6 = .ok (.getfield 18, 3) := by decide +kernel
theorem dX1_becomeTurned_9 : decode cX1_becomeTurned 9 = .ok (.if_icmp .ge 50, 3) := by decide +kernel
theorem dX1_becomeTurned_12 : decode cX1_becomeTurned 12 = .ok (.iload_n 2, 1) := by decide +kernel
theorem dX1_becomeTurned_13 : decode cX1_becomeTurned 13 = .ok (.iload 4, 2) := by decide +kernel
theorem dX1_becomeTurned_15 : decode cX1_becomeTurned 15 = .ok (.iadd, 1) := by decide +kernel
theorem dX1_becomeTurned_16 : decode cX1_becomeTurned 16 = .ok (.aload_n 1, 1) := by decide +kernel
theorem dX1_becomeTurned_17 : decode cX1_becomeTurned 17 = .ok (.getfield 18, 3) := by decide +kernel
theorem dX1_becomeTurned_20 : decode cX1_becomeTurned 20 = .ok (.irem, 1) := by decide +kernel
theorem dX1_becomeTurned_21 : decode cX1_becomeTurned 21 = .ok (.istore 5, 2) := by decide +kernel
theorem dX1_becomeTurned_23 : decode cX1_becomeTurned 23 = .ok (.aload_n 0, 1) := by decide +kernel
theorem dX1_becomeTurned_24 : decode cX1_becomeTurned 24 = .ok (.getfield 9, 3) := by decide +kernel
theorem dX1_becomeTurned_27 : decode cX1_becomeTurned 27 = .ok (.iload 4, 2) := by decide +kernel
theorem dX1_becomeTurned_29 : decode cX1_becomeTurned 29 = .ok (.iload_n 3, 1) := by decide +kernel
theorem dX1_becomeTurned_30 : decode cX1_becomeTurned 30 = .ok (.aload_n 1, 1) := by decide +kernel
theorem dX1_becomeTurned_31 : decode cX1_becomeTurned 31 = .ok (.getfield 9, 3) := by decide +kernel
theorem dX1_becomeTurned_34 : decode cX1_becomeTurned 34 = .ok (.iload 5, 2) := by decide +kernel
theorem dX1_becomeTurned_36 : decode cX1_becomeTurned 36 = .ok (.iaload, 1) := by decide +kernel
theorem dX1_becomeTurned_37 : decode cX1_becomeTurned 37 = .ok (.imul, 1) := by decide +kernel
theorem dX1_becomeTurned_38 : decode cX1_becomeTurned 38 = .ok (.iastore, 1) := by decide +kernel
theorem dX1_becomeTurned_39 : decode cX1_becomeTurned 39 = .ok (.aload_n 0, 1) := by decide +kernel
theorem dX1_becomeTurned_40 : decode cX1_becomeTurned 40 = .ok (.getfield 15, 3) := by decide +kernel
theorem dX1_becomeTurned_43 : decode cX1_becomeTurned 43 = .ok (.iload 4, 2) := by decide +kernel
theorem dX1_becomeTurned_45 : decode cX1_becomeTurned 45 = .ok (.aload_n 1, 1) := by decide +kernel
theorem dX1_becomeTurned_46 : decode cX1_becomeTurned 46 = .ok (.getfield 15, 3) := by decide +kernel
theorem dX1_becomeTurned_49 : decode cX1_becomeTurned 49 = .ok (.iload 5, 2) := by decide +kernel
theorem dX1_becomeTurned_51 : decode cX1_becomeTurned 51 = .ok (.iaload, 1) := by decide +kernel
theorem dX1_becomeTurned_52 : decode cX1_becomeTurned 52 = .ok (.iastore, 1) := by decide +kernel
theorem dX1_becomeTurned_53 : decode cX1_becomeTurned 53 = .ok (.iinc 4 1, 3) := by decide +kernel
theorem dX1_becomeTurned_56 : decode cX1_becomeTurned 56 = .ok (.goto (-53), 3) := by decide +kernel
theorem dX1_becomeTurned_59 : decode cX1_becomeTurned 59 = .ok (.return_, 1) := by decide +kernel
theorem dX1_needle_0 : decode cX1_needle 0 = .ok (.aload_n 0, 1) := by decide +kernel
theorem dX1_needle_1 : decode cX1_needle 1 = .ok (.getfield 18, 3) := by decide +kernel
theorem dX1_needle_4 : decode cX1_needle 4 = .ok (.ifCond .le 17, 3) := by decide +kernel
theorem dX1_needle_7 : decode cX1_needle 7 = .ok (.aload_n 0, 1) := by decide +kernel
theorem dX1_needle_8 : decode cX1_needle 8 = .ok (.getfield 9, 3) := by decide +kernel
theorem dX1_needle_11 : decode cX1_needle 11 = .ok (.aload_n 0, 1) := by decide +kernel
theorem dX1_needle_12 : decode cX1_needle 12 = .ok (.getfield 18, 3) := by decide +kernel
theorem dX1_needle_15 : decode cX1_needle 15 = .ok (.iconst 1, 1) := by decide +kernel
theorem dX1_needle_16 : decode cX1_needle 16 = .ok (.isub, 1) := by decide +kernel
theorem dX1_needle_17 : decode cX1_needle 17 = .ok (.iaload, 1) := by decide +kernel
theorem dX1_needle_18 : decode cX1_needle 18 = .ok (.goto 4, 3) := by decide +kernel
theorem dX1_needle_21 : decode cX1_needle 21 = .ok (.iconst 0, 1) := by decide +kernel
theorem dX1_needle_22 : decode cX1_needle 22 = .ok (.ireturn, 1) := by decide +kernel
theorem dX1_sumOfFeeds_0 : decode cX1_sumOfFeeds 0 = .ok (.iconst 0, 1) := by decide +kernel
theorem dX1_sumOfFeeds_1 : decode cX1_sumOfFeeds 1 = .ok (.istore_n 1, 1) := by decide +kernel
theorem dX1_sumOfFeeds_2 : decode cX1_sumOfFeeds 2 = .ok (.iconst 0, 1) := by decide +kernel
theorem dX1_sumOfFeeds_3 : decode cX1_sumOfFeeds 3 = .ok (.istore_n 2, 1) := by decide +kernel
theorem dX1_sumOfFeeds_4 : decode cX1_sumOfFeeds 4 = .ok (.iload_n 2, 1) := by decide +kernel
theorem dX1_sumOfFeeds_5 : decode cX1_sumOfFeeds 5 = .ok (.aload_n 0, 1) := by decide +kernel
theorem dX1_sumOfFeeds_6 : decode cX1_sumOfFeeds 6 = .ok (.getfield 18, 3) := by decide +kernel
theorem dX1_sumOfFeeds_9 : decode cX1_sumOfFeeds 9 = .ok (.if_icmp .ge 18, 3) := by decide +kernel
theorem dX1_sumOfFeeds_12 : decode cX1_sumOfFeeds 12 = .ok (.iload_n 1, 1) := by decide +kernel
theorem dX1_sumOfFeeds_13 : decode cX1_sumOfFeeds 13 = .ok (.aload_n 0, 1) := by decide +kernel
theorem dX1_sumOfFeeds_14 : decode cX1_sumOfFeeds 14 = .ok (.getfield 15, 3) := by decide +kernel
theorem dX1_sumOfFeeds_17 : decode cX1_sumOfFeeds 17 = .ok (.iload_n 2, 1) := by decide +kernel
theorem dX1_sumOfFeeds_18 : decode cX1_sumOfFeeds 18 = .ok (.iaload, 1) := by decide +kernel
theorem dX1_sumOfFeeds_19 : decode cX1_sumOfFeeds 19 = .ok (.iadd, 1) := by decide +kernel
theorem dX1_sumOfFeeds_20 : decode cX1_sumOfFeeds 20 = .ok (.istore_n 1, 1) := by decide +kernel
theorem dX1_sumOfFeeds_21 : decode cX1_sumOfFeeds 21 = .ok (.iinc 2 1, 3) := by decide +kernel
theorem dX1_sumOfFeeds_24 : decode cX1_sumOfFeeds 24 = .ok (.goto (-20), 3) := by decide +kernel
theorem dX1_sumOfFeeds_27 : decode cX1_sumOfFeeds 27 = .ok (.iload_n 1, 1) := by decide +kernel
theorem dX1_sumOfFeeds_28 : decode cX1_sumOfFeeds 28 = .ok (.ireturn, 1) := by decide +kernel
set_option maxRecDepth 20000 in
theorem ggX1_steepness_X1_needle : GoodIn wsX1_steepness wsX1_needle := goodIn_r _ [14, 1, 2, 15, 16, 17] (by decide +kernel) (by decide +kernel)
set_option maxRecDepth 20000 in
theorem gX1_steepness_X1_needle : GoodIn wsX1_steepness (wsV RX1 69 RX1 yX1_needle wsX1_needle) := goodIn_app (goodIn_of _ (by decide +kernel)) ggX1_steepness_X1_needle
theorem dX1_steepness_0 : decode cX1_steepness 0 = .ok (.iconst 0, 1) := by decide +kernel
theorem dX1_steepness_1 : decode cX1_steepness 1 = .ok (.istore_n 1, 1) := by decide +kernel
theorem dX1_steepness_2 : decode cX1_steepness 2 = .ok (.aload_n 0, 1) := by decide +kernel
theorem dX1_steepness_3 : decode cX1_steepness 3 = .ok (.invokevirtual 69, 3) := by decide +kernel
theorem dX1_steepness_6 : decode cX1_steepness 6 = .ok (.istore_n 2, 1) := by decide +kernel
theorem dX1_steepness_7 : decode cX1_steepness 7 = .ok (.iconst 0, 1) := by decide +kernel
theorem dX1_steepness_8 : decode cX1_steepness 8 = .ok (.istore_n 3, 1) := by decide +kernel
theorem dX1_steepness_9 : decode cX1_steepness 9 = .ok (.iload_n 3, 1) := by decide +kernel
theorem dX1_steepness_10 : decode cX1_steepness 10 = .ok (.aload_n 0, 1) := by decide +kernel
theorem dX1_steepness_11 : decode cX1_steepness 11 = .ok (.getfield 18, 3) := by decide +kernel
theorem dX1_steepness_14 : decode cX1_steepness 14 = .ok (.if_icmp .ge 32, 3) := by decide +kernel
theorem dX1_steepness_17 : decode cX1_steepness 17 = .ok (.iload_n 1, 1) := by decide +kernel
theorem dX1_steepness_18 : decode cX1_steepness 18 = .ok (.aload_n 0, 1) := by decide +kernel
theorem dX1_steepness_19 : decode cX1_steepness 19 = .ok (.getfield 9, 3) := by decide +kernel
theorem dX1_steepness_22 : decode cX1_steepness 22 = .ok (.iload_n 3, 1) := by decide +kernel
theorem dX1_steepness_23 : decode cX1_steepness 23 = .ok (.iaload, 1) := by decide +kernel
theorem dX1_steepness_24 : decode cX1_steepness 24 = .ok (.iload_n 2, 1) := by decide +kernel
theorem dX1_steepness_25 : decode cX1_steepness 25 = .ok (.isub, 1) := by decide +kernel
theorem dX1_steepness_26 : decode cX1_steepness 26 = .ok (.invokestatic 48, 3) := by decide +kernel
theorem dX1_steepness_29 : decode cX1_steepness 29 = .ok (.invokestatic 63, 3) := by decide +kernel
theorem dX1_steepness_32 : decode cX1_steepness 32 = .ok (.istore_n 1, 1) := by decide +kernel
theorem dX1_steepness_33 : decode cX1_steepness 33 = .ok (.aload_n 0, 1) := by decide +kernel
theorem dX1_steepness_34 : decode cX1_steepness 34 = .ok (.getfield 9, 3) := by decide +kernel
theorem dX1_steepness_37 : decode cX1_steepness 37 = .ok (.iload_n 3, 1) := by decide +kernel
theorem dX1_steepness_38 : decode cX1_steepness 38 = .ok (.iaload, 1) := by decide +kernel
theorem dX1_steepness_39 : decode cX1_steepness 39 = .ok (.istore_n 2, 1) := by decide +kernel
theorem dX1_steepness_40 : decode cX1_steepness 40 = .ok (.iinc 3 1, 3) := by decide +kernel
theorem dX1_steepness_43 : decode cX1_steepness 43 = .ok (.goto (-34), 3) := by decide +kernel
theorem dX1_steepness_46 : decode cX1_steepness 46 = .ok (.iload_n 1, 1) := by decide +kernel
theorem dX1_steepness_47 : decode cX1_steepness 47 = .ok (.ireturn, 1) := by decide +kernel
theorem dX1_greatestOf_0 : decode cX1_greatestOf 0 = .ok (.aload_n 1, 1) := by decide +kernel
theorem dX1_greatestOf_1 : decode cX1_greatestOf 1 = .ok (.iconst 0, 1) := by decide +kernel
theorem dX1_greatestOf_2 : decode cX1_greatestOf 2 = .ok (.iaload, 1) := by decide +kernel
theorem dX1_greatestOf_3 : decode cX1_greatestOf 3 = .ok (.istore_n 2, 1) := by decide +kernel
theorem dX1_greatestOf_4 : decode cX1_greatestOf 4 = .ok (.iconst 1, 1) := by decide +kernel
theorem dX1_greatestOf_5 : decode cX1_greatestOf 5 = .ok (.istore_n 3, 1) := by decide +kernel
theorem dX1_greatestOf_6 : decode cX1_greatestOf 6 = .ok (.iload_n 3, 1) := by decide +kernel
theorem dX1_greatestOf_7 : decode cX1_greatestOf 7 = .ok (.aload_n 0, 1) := by decide +kernel
theorem dX1_greatestOf_8 : decode cX1_greatestOf 8 = .ok (.getfield 18, 3) := by decide +kernel
theorem dX1_greatestOf_11 : decode cX1_greatestOf 11 = .ok (.if_icmp .ge 17, 3) := by decide +kernel
theorem dX1_greatestOf_14 : decode cX1_greatestOf 14 = .ok (.iload_n 2, 1) := by decide +kernel
theorem dX1_greatestOf_15 : decode cX1_greatestOf 15 = .ok (.aload_n 1, 1) := by decide +kernel
theorem dX1_greatestOf_16 : decode cX1_greatestOf 16 = .ok (.iload_n 3, 1) := by decide +kernel
theorem dX1_greatestOf_17 : decode cX1_greatestOf 17 = .ok (.iaload, 1) := by decide +kernel
theorem dX1_greatestOf_18 : decode cX1_greatestOf 18 = .ok (.invokestatic 63, 3) := by decide +kernel
theorem dX1_greatestOf_21 : decode cX1_greatestOf 21 = .ok (.istore_n 2, 1) := by decide +kernel
theorem dX1_greatestOf_22 : decode cX1_greatestOf 22 = .ok (.iinc 3 1, 3) := by decide +kernel
theorem dX1_greatestOf_25 : decode cX1_greatestOf 25 = .ok (.goto (-19), 3) := by decide +kernel
theorem dX1_greatestOf_28 : decode cX1_greatestOf 28 = .ok (.iload_n 2, 1) := by decide +kernel
theorem dX1_greatestOf_29 : decode cX1_greatestOf 29 = .ok (.ireturn, 1) := by decide +kernel
theorem dX1_leastOf_0 : decode cX1_leastOf 0 = .ok (.aload_n 1, 1) := by decide +kernel
theorem dX1_leastOf_1 : decode cX1_leastOf 1 = .ok (.iconst 0, 1) := by decide +kernel
theorem dX1_leastOf_2 : decode cX1_leastOf 2 = .ok (.iaload, 1) := by decide +kernel
theorem dX1_leastOf_3 : decode cX1_leastOf 3 = .ok (.istore_n 2, 1) := by decide +kernel
theorem dX1_leastOf_4 : decode cX1_leastOf 4 = .ok (.iconst 1, 1) := by decide +kernel
theorem dX1_leastOf_5 : decode cX1_leastOf 5 = .ok (.istore_n 3, 1) := by decide +kernel
theorem dX1_leastOf_6 : decode cX1_leastOf 6 = .ok (.iload_n 3, 1) := by decide +kernel
theorem dX1_leastOf_7 : decode cX1_leastOf 7 = .ok (.aload_n 0, 1) := by decide +kernel
theorem dX1_leastOf_8 : decode cX1_leastOf 8 = .ok (.getfield 18, 3) := by decide +kernel
theorem dX1_leastOf_11 : decode cX1_leastOf 11 = .ok (.if_icmp .ge 17, 3) := by decide +kernel
theorem dX1_leastOf_14 : decode cX1_leastOf 14 = .ok (.iload_n 2, 1) := by decide +kernel
theorem dX1_leastOf_15 : decode cX1_leastOf 15 = .ok (.aload_n 1, 1) := by decide +kernel
theorem dX1_leastOf_16 : decode cX1_leastOf 16 = .ok (.iload_n 3, 1) := by decide +kernel
theorem dX1_leastOf_17 : decode cX1_leastOf 17 = .ok (.iaload, 1) := by decide +kernel
theorem dX1_leastOf_18 : decode cX1_leastOf 18 = .ok (.invokestatic 73, 3) := by decide +kernel
theorem dX1_leastOf_21 : decode cX1_leastOf 21 = .ok (.istore_n 2, 1) := by decide +kernel
theorem dX1_leastOf_22 : decode cX1_leastOf 22 = .ok (.iinc 3 1, 3) := by decide +kernel
theorem dX1_leastOf_25 : decode cX1_leastOf 25 = .ok (.goto (-19), 3) := by decide +kernel
theorem dX1_leastOf_28 : decode cX1_leastOf 28 = .ok (.iload_n 2, 1) := by decide +kernel
theorem dX1_leastOf_29 : decode cX1_leastOf 29 = .ok (.ireturn, 1) := by decide +kernel
set_option maxRecDepth 20000 in
theorem ggX1_firstMissed_X1_needle : GoodIn wsX1_firstMissed wsX1_needle := goodIn_r _ [12, 2, 5, 17, 18, 19] (by decide +kernel) (by decide +kernel)
set_option maxRecDepth 20000 in
theorem gX1_firstMissed_X1_needle : GoodIn wsX1_firstMissed (wsV RX1 69 RX1 yX1_needle wsX1_needle) := goodIn_app (goodIn_of _ (by decide +kernel)) ggX1_firstMissed_X1_needle
theorem dX1_firstMissed_0 : decode cX1_firstMissed 0 = .ok (.iconst 1, 1) := by decide +kernel
theorem dX1_firstMissed_1 : decode cX1_firstMissed 1 = .ok (.istore_n 2, 1) := by decide +kernel
theorem dX1_firstMissed_2 : decode cX1_firstMissed 2 = .ok (.aload_n 1, 1) := by decide +kernel
theorem dX1_firstMissed_3 : decode cX1_firstMissed 3 = .ok (.getfield 56, 3) := by decide +kernel
theorem dX1_firstMissed_6 : decode cX1_firstMissed 6 = .ok (.iconst 0, 1) := by decide +kernel
theorem dX1_firstMissed_7 : decode cX1_firstMissed 7 = .ok (.iaload, 1) := by decide +kernel
theorem dX1_firstMissed_8 : decode cX1_firstMissed 8 = .ok (.istore_n 3, 1) := by decide +kernel
theorem dX1_firstMissed_9 : decode cX1_firstMissed 9 = .ok (.iconst 0, 1) := by decide +kernel
theorem dX1_firstMissed_10 : decode cX1_firstMissed 10 = .ok (.istore 4, 2) := by decide +kernel
theorem dX1_firstMissed_12 : decode cX1_firstMissed 12 = .ok (.iconst 0, 1) := by decide +kernel
theorem dX1_firstMissed_13 : decode cX1_firstMissed 13 = .ok (.istore 5, 2) := by decide +kernel
theorem dX1_firstMissed_15 : decode cX1_firstMissed 15 = .ok (.iload 5, 2) := by decide +kernel
theorem dX1_firstMissed_17 : decode cX1_firstMissed 17 = .ok (.aload_n 0, 1) := by decide +kernel
theorem dX1_firstMissed_18 : decode cX1_firstMissed 18 = .ok (.getfield 18, 3) := by decide +kernel
theorem dX1_firstMissed_21 : decode cX1_firstMissed 21 = .ok (.if_icmp .ge 68, 3) := by decide +kernel
theorem dX1_firstMissed_24 : decode cX1_firstMissed 24 = .ok (.iload_n 3, 1) := by decide +kernel
theorem dX1_firstMissed_25 : decode cX1_firstMissed 25 = .ok (.aload_n 0, 1) := by decide +kernel
theorem dX1_firstMissed_26 : decode cX1_firstMissed 26 = .ok (.getfield 15, 3) := by decide +kernel
theorem dX1_firstMissed_29 : decode cX1_firstMissed 29 = .ok (.iload 5, 2) := by decide +kernel
theorem dX1_firstMissed_31 : decode cX1_firstMissed 31 = .ok (.iaload, 1) := by decide +kernel
theorem dX1_firstMissed_32 : decode cX1_firstMissed 32 = .ok (.iadd, 1) := by decide +kernel
theorem dX1_firstMissed_33 : decode cX1_firstMissed 33 = .ok (.istore_n 3, 1) := by decide +kernel
theorem dX1_firstMissed_34 : decode cX1_firstMissed 34 = .ok (.iload_n 2, 1) := by decide +kernel
theorem dX1_firstMissed_35 : decode cX1_firstMissed 35 = .ok (.aload_n 1, 1) := by decide +kernel
theorem dX1_firstMissed_36 : decode cX1_firstMissed 36 = .ok (.getfield 28, 3) := by decide +kernel
theorem dX1_firstMissed_39 : decode cX1_firstMissed 39 = .ok (.if_icmp .ge 33, 3) := by decide +kernel
theorem dX1_firstMissed_42 : decode cX1_firstMissed 42 = .ok (.aload_n 0, 1) := by decide +kernel
theorem dX1_firstMissed_43 : decode cX1_firstMissed 43 = .ok (.getfield 9, 3) := by decide +kernel
theorem dX1_firstMissed_46 : decode cX1_firstMissed 46 = .ok (.iload 5, 2) := by decide +kernel
theorem dX1_firstMissed_48 : decode cX1_firstMissed 48 = .ok (.iaload, 1) := by decide +kernel
theorem dX1_firstMissed_49 : decode cX1_firstMissed 49 = .ok (.aload_n 1, 1) := by decide +kernel
theorem dX1_firstMissed_50 : decode cX1_firstMissed 50 = .ok (.getfield 45, 3) := by decide +kernel
theorem dX1_firstMissed_53 : decode cX1_firstMissed 53 = .ok (.iload_n 2, 1) := by decide +kernel
theorem dX1_firstMissed_54 : decode cX1_firstMissed 54 = .ok (.iaload, 1) := by decide +kernel
theorem dX1_firstMissed_55 : decode cX1_firstMissed 55 = .ok (.if_icmp .ne 17, 3) := by decide +kernel
theorem dX1_firstMissed_58 : decode cX1_firstMissed 58 = .ok (.iload_n 3, 1) := by decide +kernel
theorem dX1_firstMissed_59 : decode cX1_firstMissed 59 = .ok (.aload_n 1, 1) := by decide +kernel
theorem dX1_firstMissed_60 : decode cX1_firstMissed 60 = .ok (.getfield 56, 3) := by decide +kernel
theorem dX1_firstMissed_63 : decode cX1_firstMissed 63 = .ok (.iload_n 2, 1) := by decide +kernel
theorem dX1_firstMissed_64 : decode cX1_firstMissed 64 = .ok (.iaload, 1) := by decide +kernel
theorem dX1_firstMissed_65 : decode cX1_firstMissed 65 = .ok (.if_icmp .ne 7, 3) := by decide +kernel
theorem dX1_firstMissed_68 : decode cX1_firstMissed 68 = .ok (.iconst 1, 1) := by decide +kernel
theorem dX1_firstMissed_69 : decode cX1_firstMissed 69 = .ok (.goto 4, 3) := by decide +kernel
theorem dX1_firstMissed_72 : decode cX1_firstMissed 72 = .ok (.iconst 0, 1) := by decide +kernel
theorem dX1_firstMissed_73 : decode cX1_firstMissed 73 = .ok (.istore 4, 2) := by decide +kernel
theorem dX1_firstMissed_75 : decode cX1_firstMissed 75 = .ok (.iload 4, 2) := by decide +kernel
theorem dX1_firstMissed_77 : decode cX1_firstMissed 77 = .ok (.ifCond .eq 6, 3) := by decide +kernel
theorem dX1_firstMissed_80 : decode cX1_firstMissed 80 = .ok (.iinc 2 1, 3) := by decide +kernel
theorem dX1_firstMissed_83 : decode cX1_firstMissed 83 = .ok (.iinc 5 1, 3) := by decide +kernel
theorem dX1_firstMissed_86 : decode cX1_firstMissed 86 = .ok (.goto (-71), 3) := by decide +kernel
theorem dX1_firstMissed_89 : decode cX1_firstMissed 89 = .ok (.iload_n 2, 1) := by decide +kernel
theorem dX1_firstMissed_90 : decode cX1_firstMissed 90 = .ok (.aload_n 1, 1) := by decide +kernel
theorem dX1_firstMissed_91 : decode cX1_firstMissed 91 = .ok (.getfield 28, 3) := by decide +kernel
theorem dX1_firstMissed_94 : decode cX1_firstMissed 94 = .ok (.if_icmp .lt 8, 3) := by decide +kernel
theorem dX1_firstMissed_97 : decode cX1_firstMissed 97 = .ok (.iload 4, 2) := by decide +kernel
theorem dX1_firstMissed_99 : decode cX1_firstMissed 99 = .ok (.ifCond .eq 5, 3) := by decide +kernel
theorem dX1_firstMissed_102 : decode cX1_firstMissed 102 = .ok (.iload_n 2, 1) := by decide +kernel
theorem dX1_firstMissed_103 : decode cX1_firstMissed 103 = .ok (.ireturn, 1) := by decide +kernel
theorem dX1_firstMissed_104 : decode cX1_firstMissed 104 = .ok (.aload_n 0, 1) := by decide +kernel
theorem dX1_firstMissed_105 : decode cX1_firstMissed 105 = .ok (.invokevirtual 69, 3) := by decide +kernel
theorem dX1_firstMissed_108 : decode cX1_firstMissed 108 = .ok (.aload_n 1, 1) := by decide +kernel
theorem dX1_firstMissed_109 : decode cX1_firstMissed 109 = .ok (.getfield 45, 3) := by decide +kernel
theorem dX1_firstMissed_112 : decode cX1_firstMissed 112 = .ok (.iconst 0, 1) := by decide +kernel
theorem dX1_firstMissed_113 : decode cX1_firstMissed 113 = .ok (.iaload, 1) := by decide +kernel
theorem dX1_firstMissed_114 : decode cX1_firstMissed 114 = .ok (.if_icmp .ne 22, 3) := by decide +kernel
theorem dX1_firstMissed_117 : decode cX1_firstMissed 117 = .ok (.iload_n 3, 1) := by decide +kernel
theorem dX1_firstMissed_118 : decode cX1_firstMissed 118 = .ok (.aload_n 1, 1) := by decide +kernel
theorem dX1_firstMissed_119 : decode cX1_firstMissed 119 = .ok (.getfield 56, 3) := by decide +kernel
theorem dX1_firstMissed_122 : decode cX1_firstMissed 122 = .ok (.iconst 0, 1) := by decide +kernel
theorem dX1_firstMissed_123 : decode cX1_firstMissed 123 = .ok (.iaload, 1) := by decide +kernel
theorem dX1_firstMissed_124 : decode cX1_firstMissed 124 = .ok (.aload_n 1, 1) := by decide +kernel
theorem dX1_firstMissed_125 : decode cX1_firstMissed 125 = .ok (.getfield 76, 3) := by decide +kernel
theorem dX1_firstMissed_128 : decode cX1_firstMissed 128 = .ok (.iadd, 1) := by decide +kernel
theorem dX1_firstMissed_129 : decode cX1_firstMissed 129 = .ok (.if_icmp .ne 7, 3) := by decide +kernel
theorem dX1_firstMissed_132 : decode cX1_firstMissed 132 = .ok (.iconst 1, 1) := by decide +kernel
theorem dX1_firstMissed_133 : decode cX1_firstMissed 133 = .ok (.goto 4, 3) := by decide +kernel
theorem dX1_firstMissed_136 : decode cX1_firstMissed 136 = .ok (.iconst 0, 1) := by decide +kernel
theorem dX1_firstMissed_137 : decode cX1_firstMissed 137 = .ok (.istore 5, 2) := by decide +kernel
theorem dX1_firstMissed_139 : decode cX1_firstMissed 139 = .ok (.iload 5, 2) := by decide +kernel
theorem dX1_firstMissed_141 : decode cX1_firstMissed 141 = .ok (.ifCond .eq 9, 3) := by decide +kernel
theorem dX1_firstMissed_144 : decode cX1_firstMissed 144 = .ok (.iload_n 2, 1) := by decide +kernel
theorem dX1_firstMissed_145 : decode cX1_firstMissed 145 = .ok (.iconst 1, 1) := by decide +kernel
theorem dX1_firstMissed_146 : decode cX1_firstMissed 146 = .ok (.iadd, 1) := by decide +kernel
theorem dX1_firstMissed_147 : decode cX1_firstMissed 147 = .ok (.goto 4, 3) := by decide +kernel
theorem dX1_firstMissed_150 : decode cX1_firstMissed 150 = .ok (.iload_n 2, 1) := by decide +kernel
theorem dX1_firstMissed_151 : decode cX1_firstMissed 151 = .ok (.ireturn, 1) := by decide +kernel
theorem dX2_init_0 : decode cX2_init 0 = .ok (.aload_n 0, 1) := by decide +kernel
theorem dX2_init_1 : decode cX2_init 1 = .ok (.invokespecial 3, 3) := by decide +kernel
theorem dX2_init_4 : decode cX2_init 4 = .ok (.aload_n 0, 1) := by decide +kernel
theorem dX2_init_5 : decode cX2_init 5 = .ok (.bipush 24, 2) := by decide +kernel
theorem dX2_init_7 : decode cX2_init 7 = .ok (.newarray .int, 2) := by decide +kernel
theorem dX2_init_9 : decode cX2_init 9 = .ok (.putfield 9, 3) := by decide +kernel
theorem dX2_init_12 : decode cX2_init 12 = .ok (.aload_n 0, 1) := by decide +kernel
theorem dX2_init_13 : decode cX2_init 13 = .ok (.bipush 24, 2) := by decide +kernel
theorem dX2_init_15 : decode cX2_init 15 = .ok (.newarray .int, 2) := by decide +kernel
theorem dX2_init_17 : decode cX2_init 17 = .ok (.putfield 15, 3) := by decide +kernel
theorem dX2_init_20 : decode cX2_init 20 = .ok (.aload_n 0, 1) := by decide +kernel
theorem dX2_init_21 : decode cX2_init 21 = .ok (.sipush 252, 3) := by decide +kernel
theorem dX2_init_24 : decode cX2_init 24 = .ok (.newarray .int, 2) := by decide +kernel
theorem dX2_init_26 : decode cX2_init 26 = .ok (.putfield 18, 3) := by decide +kernel
theorem dX2_init_29 : decode cX2_init 29 = .ok (.aload_n 0, 1) := by decide +kernel
theorem dX2_init_30 : decode cX2_init 30 = .ok (.sipush 252, 3) := by decide +kernel
theorem dX2_init_33 : decode cX2_init 33 = .ok (.newarray .int, 2) := by decide +kernel
theorem dX2_init_35 : decode cX2_init 35 = .ok (.putfield 21, 3) := by decide +kernel
theorem dX2_init_38 : decode cX2_init 38 = .ok (.return_, 1) := by decide +kernel
set_option maxRecDepth 20000 in
theorem ggX2_outcomeOf_X2_pullsWith : GoodIn wsX2_outcomeOf wsX2_pullsWith := goodIn_r _ [4, 5, 6, 3, 7, 8, 9, 10, 11, 12, 13, 14, 15, 16, 17, 18, 19, 20, 21, 22, 23, 24, 25, 26, 27, 28, 29, 30, 31, 32, 33, 34, 35, 36, 37, 38] (by decide +kernel) (by decide +kernel)
set_option maxRecDepth 20000 in
theorem gX2_outcomeOf_X2_pullsWith : GoodIn wsX2_outcomeOf (va_wsS RX2 24 yX2_pullsWith wsX2_pullsWith) := goodIn_app (goodIn_of _ (by decide +kernel)) ggX2_outcomeOf_X2_pullsWith
theorem dX2_outcomeOf_0 : decode cX2_outcomeOf 0 = .ok (.iload_n 0, 1) := by decide +kernel
theorem dX2_outcomeOf_1 : decode cX2_outcomeOf 1 = .ok (.bipush 11, 2) := by decide +kernel
theorem dX2_outcomeOf_3 : decode cX2_outcomeOf 3 = .ok (.idiv, 1) := by decide +kernel
theorem dX2_outcomeOf_4 : decode cX2_outcomeOf 4 = .ok (.istore_n 2, 1) := by decide +kernel
theorem dX2_outcomeOf_5 : decode cX2_outcomeOf 5 = .ok (.iconst 1, 1) := by decide +kernel
theorem dX2_outcomeOf_6 : decode cX2_outcomeOf 6 = .ok (.iload_n 0, 1) := by decide +kernel
theorem dX2_outcomeOf_7 : decode cX2_outcomeOf 7 = .ok (.bipush 11, 2) := by decide +kernel
theorem dX2_outcomeOf_9 : decode cX2_outcomeOf 9 = .ok (.irem, 1) := by decide +kernel
theorem dX2_outcomeOf_10 : decode cX2_outcomeOf 10 = .ok (.ishl, 1) := by decide +kernel
theorem dX2_outcomeOf_11 : decode cX2_outcomeOf 11 = .ok (.istore_n 3, 1) := by decide +kernel
theorem dX2_outcomeOf_12 : decode cX2_outcomeOf 12 = .ok (.iconst 0, 1) := by decide +kernel
theorem dX2_outcomeOf_13 : decode cX2_outcomeOf 13 = .ok (.istore 4, 2) := by decide +kernel
theorem dX2_outcomeOf_15 : decode cX2_outcomeOf 15 = .ok (.iload 4, 2) := by decide +kernel
theorem dX2_outcomeOf_17 : decode cX2_outcomeOf 17 = .ok (.iconst 4, 1) := by decide +kernel
theorem dX2_outcomeOf_18 : decode cX2_outcomeOf 18 = .ok (.if_icmp .ge 24, 3) := by decide +kernel
theorem dX2_outcomeOf_21 : decode cX2_outcomeOf 21 = .ok (.iload_n 2, 1) := by decide +kernel
theorem dX2_outcomeOf_22 : decode cX2_outcomeOf 22 = .ok (.iload_n 1, 1) := by decide +kernel
theorem dX2_outcomeOf_23 : decode cX2_outcomeOf 23 = .ok (.iload 4, 2) := by decide +kernel
theorem dX2_outcomeOf_25 : decode cX2_outcomeOf 25 = .ok (.invokestatic 24, 3) := by decide +kernel
theorem dX2_outcomeOf_28 : decode cX2_outcomeOf 28 = .ok (.iload_n 3, 1) := by decide +kernel
theorem dX2_outcomeOf_29 : decode cX2_outcomeOf 29 = .ok (.iand, 1) := by decide +kernel
theorem dX2_outcomeOf_30 : decode cX2_outcomeOf 30 = .ok (.ifCond .eq 6, 3) := by decide +kernel
theorem dX2_outcomeOf_33 : decode cX2_outcomeOf 33 = .ok (.iload 4, 2) := by decide +kernel
theorem dX2_outcomeOf_35 : decode cX2_outcomeOf 35 = .ok (.ireturn, 1) := by decide +kernel
theorem dX2_outcomeOf_36 : decode cX2_outcomeOf 36 = .ok (.iinc 4 1, 3) := by decide +kernel
theorem dX2_outcomeOf_39 : decode cX2_outcomeOf 39 = .ok (.goto (-24), 3) := by decide +kernel
theorem dX2_outcomeOf_42 : decode cX2_outcomeOf 42 = .ok (.iconst 4, 1) := by decide +kernel
theorem dX2_outcomeOf_43 : decode cX2_outcomeOf 43 = .ok (.ireturn, 1) := by decide +kernel
theorem dX2_timingOf_0 : decode cX2_timingOf 0 = .ok (.iload_n 0, 1) := by decide +kernel
theorem dX2_timingOf_1 : decode cX2_timingOf 1 = .ok (.bipush 28, 2) := by decide +kernel
theorem dX2_timingOf_3 : decode cX2_timingOf 3 = .ok (.idiv, 1) := by decide +kernel
theorem dX2_timingOf_4 : decode cX2_timingOf 4 = .ok (.iconst 4, 1) := by decide +kernel
theorem dX2_timingOf_5 : decode cX2_timingOf 5 = .ok (.isub, 1) := by decide +kernel
theorem dX2_timingOf_6 : decode cX2_timingOf 6 = .ok (.ireturn, 1) := by decide +kernel
theorem dX2_bentOf_0 : decode cX2_bentOf 0 = .ok (.iload_n 0, 1) := by decide +kernel
theorem dX2_bentOf_1 : decode cX2_bentOf 1 = .ok (.iconst 4, 1) := by decide +kernel
theorem dX2_bentOf_2 : decode cX2_bentOf 2 = .ok (.idiv, 1) := by decide +kernel
theorem dX2_bentOf_3 : decode cX2_bentOf 3 = .ok (.bipush 7, 2) := by decide +kernel
theorem dX2_bentOf_5 : decode cX2_bentOf 5 = .ok (.irem, 1) := by decide +kernel
theorem dX2_bentOf_6 : decode cX2_bentOf 6 = .ok (.iconst 3, 1) := by decide +kernel
theorem dX2_bentOf_7 : decode cX2_bentOf 7 = .ok (.isub, 1) := by decide +kernel
theorem dX2_bentOf_8 : decode cX2_bentOf 8 = .ok (.ireturn, 1) := by decide +kernel
theorem dX2_wornOf_0 : decode cX2_wornOf 0 = .ok (.iload_n 0, 1) := by decide +kernel
theorem dX2_wornOf_1 : decode cX2_wornOf 1 = .ok (.iconst 4, 1) := by decide +kernel
theorem dX2_wornOf_2 : decode cX2_wornOf 2 = .ok (.irem, 1) := by decide +kernel
theorem dX2_wornOf_3 : decode cX2_wornOf 3 = .ok (.ireturn, 1) := by decide +kernel
theorem dX2_speedOf_0 : decode cX2_speedOf 0 = .ok (.iload_n 0, 1) := by decide +kernel
theorem dX2_speedOf_1 : decode cX2_speedOf 1 = .ok (.bipush 65, 2) := by decide +kernel
theorem dX2_speedOf_3 : decode cX2_speedOf 3 = .ok (.idiv, 1) := by decide +kernel
theorem dX2_speedOf_4 : decode cX2_speedOf 4 = .ok (.iconst 1, 1) := by decide +kernel
theorem dX2_speedOf_5 : decode cX2_speedOf 5 = .ok (.iadd, 1) := by decide +kernel
theorem dX2_speedOf_6 : decode cX2_speedOf 6 = .ok (.ireturn, 1) := by decide +kernel
theorem dX2_clothOf_0 : decode cX2_clothOf 0 = .ok (.iload_n 0, 1) := by decide +kernel
theorem dX2_clothOf_1 : decode cX2_clothOf 1 = .ok (.bipush 13, 2) := by decide +kernel
theorem dX2_clothOf_3 : decode cX2_clothOf 3 = .ok (.idiv, 1) := by decide +kernel
theorem dX2_clothOf_4 : decode cX2_clothOf 4 = .ok (.iconst 5, 1) := by decide +kernel
theorem dX2_clothOf_5 : decode cX2_clothOf 5 = .ok (.irem, 1) := by decide +kernel
theorem dX2_clothOf_6 : decode cX2_clothOf 6 = .ok (.iconst 1, 1) := by decide +kernel
theorem dX2_clothOf_7 : decode cX2_clothOf 7 = .ok (.iadd, 1) := by decide +kernel
theorem dX2_clothOf_8 : decode cX2_clothOf 8 = .ok (.ireturn, 1) := by decide +kernel
theorem dX2_swingOf_0 : decode cX2_swingOf 0 = .ok (.iload_n 0, 1) := by decide +kernel
theorem dX2_swingOf_1 : decode cX2_swingOf 1 = .ok (.bipush 13, 2) := by decide +kernel
theorem dX2_swingOf_3 : decode cX2_swingOf 3 = .ok (.irem, 1) := by decide +kernel
theorem dX2_swingOf_4 : decode cX2_swingOf 4 = .ok (.bipush 6, 2) := by decide +kernel
theorem dX2_swingOf_6 : decode cX2_swingOf 6 = .ok (.isub, 1) := by decide +kernel
theorem dX2_swingOf_7 : decode cX2_swingOf 7 = .ok (.ireturn, 1) := by decide +kernel
set_option maxRecDepth 20000 in
theorem ggX2_skips_X2_timingOf : GoodIn wsX2_skips wsX2_timingOf := goodIn_r _ [8] (by decide +kernel) (by decide +kernel)
set_option maxRecDepth 20000 in
theorem gX2_skips_X2_timingOf : GoodIn wsX2_skips (va_wsS RX2 28 yX2_timingOf wsX2_timingOf) := goodIn_app (goodIn_of _ (by decide +kernel)) ggX2_skips_X2_timingOf
set_option maxRecDepth 20000 in
theorem ggX2_skips_X2_bentOf : GoodIn wsX2_skips wsX2_bentOf := goodIn_r _ [11] (by decide +kernel) (by decide +kernel)
set_option maxRecDepth 20000 in
theorem gX2_skips_X2_bentOf : GoodIn wsX2_skips (va_wsS RX2 32 yX2_bentOf wsX2_bentOf) := goodIn_app (goodIn_of _ (by decide +kernel)) ggX2_skips_X2_bentOf
set_option maxRecDepth 20000 in
theorem ggX2_skips_X2_wornOf : GoodIn wsX2_skips wsX2_wornOf := goodIn_r _ [14] (by decide +kernel) (by decide +kernel)
set_option maxRecDepth 20000 in
theorem gX2_skips_X2_wornOf : GoodIn wsX2_skips (va_wsS RX2 40 yX2_wornOf wsX2_wornOf) := goodIn_app (goodIn_of _ (by decide +kernel)) ggX2_skips_X2_wornOf
theorem dX2_skips_0 : decode cX2_skips 0 = .ok (.iconst 2, 1) := by decide +kernel
theorem dX2_skips_1 : decode cX2_skips 1 = .ok (.iload_n 0, 1) := by decide +kernel
theorem dX2_skips_2 : decode cX2_skips 2 = .ok (.invokestatic 28, 3) := by decide +kernel
theorem dX2_skips_5 : decode cX2_skips 5 = .ok (.imul, 1) := by decide +kernel
theorem dX2_skips_6 : decode cX2_skips 6 = .ok (.iload_n 0, 1) := by decide +kernel
theorem dX2_skips_7 : decode cX2_skips 7 = .ok (.invokestatic 32, 3) := by decide +kernel
theorem dX2_skips_10 : decode cX2_skips 10 = .ok (.iload_n 2, 1) := by decide +kernel
theorem dX2_skips_11 : decode cX2_skips 11 = .ok (.imul, 1) := by decide +kernel
theorem dX2_skips_12 : decode cX2_skips 12 = .ok (.iadd, 1) := by decide +kernel
theorem dX2_skips_13 : decode cX2_skips 13 = .ok (.invokestatic 35, 3) := by decide +kernel
theorem dX2_skips_16 : decode cX2_skips 16 = .ok (.bipush 9, 2) := by decide +kernel
theorem dX2_skips_18 : decode cX2_skips 18 = .ok (.iload_n 0, 1) := by decide +kernel
theorem dX2_skips_19 : decode cX2_skips 19 = .ok (.invokestatic 40, 3) := by decide +kernel
theorem dX2_skips_22 : decode cX2_skips 22 = .ok (.isub, 1) := by decide +kernel
theorem dX2_skips_23 : decode cX2_skips 23 = .ok (.iload_n 1, 1) := by decide +kernel
theorem dX2_skips_24 : decode cX2_skips 24 = .ok (.isub, 1) := by decide +kernel
theorem dX2_skips_25 : decode cX2_skips 25 = .ok (.if_icmp .le 7, 3) := by decide +kernel
theorem dX2_skips_28 : decode cX2_skips 28 = .ok (.iconst 1, 1) := by decide +kernel
theorem dX2_skips_29 : decode cX2_skips 29 = .ok (.goto 4, 3) := by decide +kernel
theorem dX2_skips_32 : decode cX2_skips 32 = .ok (.iconst 0, 1) := by decide +kernel
theorem dX2_skips_33 : decode cX2_skips 33 = .ok (.ireturn, 1) := by decide +kernel
set_option maxRecDepth 20000 in
theorem ggX2_breaks_X2_bentOf : GoodIn wsX2_breaks wsX2_bentOf := goodIn_r _ [8] (by decide +kernel) (by decide +kernel)
set_option maxRecDepth 20000 in
theorem gX2_breaks_X2_bentOf : GoodIn wsX2_breaks (va_wsS RX2 32 yX2_bentOf wsX2_bentOf) := goodIn_app (goodIn_of _ (by decide +kernel)) ggX2_breaks_X2_bentOf
theorem dX2_breaks_0 : decode cX2_breaks 0 = .ok (.iload_n 0, 1) := by decide +kernel
theorem dX2_breaks_1 : decode cX2_breaks 1 = .ok (.invokestatic 32, 3) := by decide +kernel
theorem dX2_breaks_4 : decode cX2_breaks 4 = .ok (.invokestatic 35, 3) := by decide +kernel
theorem dX2_breaks_7 : decode cX2_breaks 7 = .ok (.iconst 3, 1) := by decide +kernel
theorem dX2_breaks_8 : decode cX2_breaks 8 = .ok (.if_icmp .ne 20, 3) := by decide +kernel
theorem dX2_breaks_11 : decode cX2_breaks 11 = .ok (.iload_n 1, 1) := by decide +kernel
theorem dX2_breaks_12 : decode cX2_breaks 12 = .ok (.iconst 4, 1) := by decide +kernel
theorem dX2_breaks_13 : decode cX2_breaks 13 = .ok (.if_icmp .lt 15, 3) := by decide +kernel
theorem dX2_breaks_16 : decode cX2_breaks 16 = .ok (.iload_n 2, 1) := by decide +kernel
theorem dX2_breaks_17 : decode cX2_breaks 17 = .ok (.invokestatic 35, 3) := by decide +kernel
theorem dX2_breaks_20 : decode cX2_breaks 20 = .ok (.iconst 4, 1) := by decide +kernel
theorem dX2_breaks_21 : decode cX2_breaks 21 = .ok (.if_icmp .lt 7, 3) := by decide +kernel
theorem dX2_breaks_24 : decode cX2_breaks 24 = .ok (.iconst 1, 1) := by decide +kernel
theorem dX2_breaks_25 : decode cX2_breaks 25 = .ok (.goto 4, 3) := by decide +kernel
theorem dX2_breaks_28 : decode cX2_breaks 28 = .ok (.iconst 0, 1) := by decide +kernel
theorem dX2_breaks_29 : decode cX2_breaks 29 = .ok (.ireturn, 1) := by decide +kernel
theorem dX2_pullsAbove_0 : decode cX2_pullsAbove 0 = .ok (.iconst 0, 1) := by decide +kernel
theorem dX2_pullsAbove_1 : decode cX2_pullsAbove 1 = .ok (.istore_n 1, 1) := by decide +kernel
theorem dX2_pullsAbove_2 : decode cX2_pullsAbove 2 = .ok (.iconst 0, 1) := by decide +kernel
theorem dX2_pullsAbove_3 : decode cX2_pullsAbove 3 = .ok (.istore_n 2, 1) := by decide +kernel
theorem dX2_pullsAbove_4 : decode cX2_pullsAbove 4 = .ok (.iload_n 2, 1) := by decide +kernel
theorem dX2_pullsAbove_5 : decode cX2_pullsAbove 5 = .ok (.bipush 11, 2) := by decide +kernel
theorem dX2_pullsAbove_7 : decode cX2_pullsAbove 7 = .ok (.if_icmp .ge 28, 3) := by decide +kernel
theorem dX2_pullsAbove_10 : decode cX2_pullsAbove 10 = .ok (.bipush 10, 2) := by decide +kernel
theorem dX2_pullsAbove_12 : decode cX2_pullsAbove 12 = .ok (.iload_n 2, 1) := by decide +kernel
theorem dX2_pullsAbove_13 : decode cX2_pullsAbove 13 = .ok (.iconst 5, 1) := by decide +kernel
theorem dX2_pullsAbove_14 : decode cX2_pullsAbove 14 = .ok (.isub, 1) := by decide +kernel
theorem dX2_pullsAbove_15 : decode cX2_pullsAbove 15 = .ok (.imul, 1) := by decide +kernel
theorem dX2_pullsAbove_16 : decode cX2_pullsAbove 16 = .ok (.bipush 6, 2) := by decide +kernel
theorem dX2_pullsAbove_18 : decode cX2_pullsAbove 18 = .ok (.iload_n 0, 1) := by decide +kernel
theorem dX2_pullsAbove_19 : decode cX2_pullsAbove 19 = .ok (.imul, 1) := by decide +kernel
theorem dX2_pullsAbove_20 : decode cX2_pullsAbove 20 = .ok (.if_icmp .le 9, 3) := by decide +kernel
theorem dX2_pullsAbove_23 : decode cX2_pullsAbove 23 = .ok (.iload_n 1, 1) := by decide +kernel
theorem dX2_pullsAbove_24 : decode cX2_pullsAbove 24 = .ok (.iconst 1, 1) := by decide +kernel
theorem dX2_pullsAbove_25 : decode cX2_pullsAbove 25 = .ok (.iload_n 2, 1) := by decide +kernel
theorem dX2_pullsAbove_26 : decode cX2_pullsAbove 26 = .ok (.ishl, 1) := by decide +kernel
theorem dX2_pullsAbove_27 : decode cX2_pullsAbove 27 = .ok (.ior, 1) := by decide +kernel
theorem dX2_pullsAbove_28 : decode cX2_pullsAbove 28 = .ok (.istore_n 1, 1) := by decide +kernel
theorem dX2_pullsAbove_29 : decode cX2_pullsAbove 29 = .ok (.iinc 2 1, 3) := by decide +kernel
theorem dX2_pullsAbove_32 : decode cX2_pullsAbove 32 = .ok (.goto (-28), 3) := by decide +kernel
theorem dX2_pullsAbove_35 : decode cX2_pullsAbove 35 = .ok (.iload_n 1, 1) := by decide +kernel
theorem dX2_pullsAbove_36 : decode cX2_pullsAbove 36 = .ok (.ireturn, 1) := by decide +kernel
theorem dX2_pullsBelow_0 : decode cX2_pullsBelow 0 = .ok (.iconst 0, 1) := by decide +kernel
theorem dX2_pullsBelow_1 : decode cX2_pullsBelow 1 = .ok (.istore_n 1, 1) := by decide +kernel
theorem dX2_pullsBelow_2 : decode cX2_pullsBelow 2 = .ok (.iconst 0, 1) := by decide +kernel
theorem dX2_pullsBelow_3 : decode cX2_pullsBelow 3 = .ok (.istore_n 2, 1) := by decide +kernel
theorem dX2_pullsBelow_4 : decode cX2_pullsBelow 4 = .ok (.iload_n 2, 1) := by decide +kernel
theorem dX2_pullsBelow_5 : decode cX2_pullsBelow 5 = .ok (.bipush 11, 2) := by decide +kernel
theorem dX2_pullsBelow_7 : decode cX2_pullsBelow 7 = .ok (.if_icmp .ge 28, 3) := by decide +kernel
theorem dX2_pullsBelow_10 : decode cX2_pullsBelow 10 = .ok (.bipush 10, 2) := by decide +kernel
theorem dX2_pullsBelow_12 : decode cX2_pullsBelow 12 = .ok (.iload_n 2, 1) := by decide +kernel
theorem dX2_pullsBelow_13 : decode cX2_pullsBelow 13 = .ok (.iconst 5, 1) := by decide +kernel
theorem dX2_pullsBelow_14 : decode cX2_pullsBelow 14 = .ok (.isub, 1) := by decide +kernel
theorem dX2_pullsBelow_15 : decode cX2_pullsBelow 15 = .ok (.imul, 1) := by decide +kernel
theorem dX2_pullsBelow_16 : decode cX2_pullsBelow 16 = .ok (.bipush (-6), 2) := by decide +kernel
theorem dX2_pullsBelow_18 : decode cX2_pullsBelow 18 = .ok (.iload_n 0, 1) := by decide +kernel
theorem dX2_pullsBelow_19 : decode cX2_pullsBelow 19 = .ok (.imul, 1) := by decide +kernel
theorem dX2_pullsBelow_20 : decode cX2_pullsBelow 20 = .ok (.if_icmp .ge 9, 3) := by decide +kernel
theorem dX2_pullsBelow_23 : decode cX2_pullsBelow 23 = .ok (.iload_n 1, 1) := by decide +kernel
theorem dX2_pullsBelow_24 : decode cX2_pullsBelow 24 = .ok (.iconst 1, 1) := by decide +kernel
theorem dX2_pullsBelow_25 : decode cX2_pullsBelow 25 = .ok (.iload_n 2, 1) := by decide +kernel
theorem dX2_pullsBelow_26 : decode cX2_pullsBelow 26 = .ok (.ishl, 1) := by decide +kernel
theorem dX2_pullsBelow_27 : decode cX2_pullsBelow 27 = .ok (.ior, 1) := by decide +kernel
theorem dX2_pullsBelow_28 : decode cX2_pullsBelow 28 = .ok (.istore_n 1, 1) := by decide +kernel
theorem dX2_pullsBelow_29 : decode cX2_pullsBelow 29 = .ok (.iinc 2 1, 3) := by decide +kernel
theorem dX2_pullsBelow_32 : decode cX2_pullsBelow 32 = .ok (.goto (-28), 3) := by decide +kernel
theorem dX2_pullsBelow_35 : decode cX2_pullsBelow 35 = .ok (.iload_n 1, 1) := by decide +kernel
theorem dX2_pullsBelow_36 : decode cX2_pullsBelow 36 = .ok (.ireturn, 1) := by decide +kernel
set_option maxRecDepth 20000 in
theorem ggX2_pullsWith_X2_speedOf : GoodIn wsX2_pullsWith wsX2_speedOf := goodIn_r _ [4] (by decide +kernel) (by decide +kernel)
set_option maxRecDepth 20000 in
theorem gX2_pullsWith_X2_speedOf : GoodIn wsX2_pullsWith (va_wsS RX2 43 yX2_speedOf wsX2_speedOf) := goodIn_app (goodIn_of _ (by decide +kernel)) ggX2_pullsWith_X2_speedOf
set_option maxRecDepth 20000 in
theorem ggX2_pullsWith_X2_swingOf : GoodIn wsX2_pullsWith wsX2_swingOf := goodIn_r _ [7] (by decide +kernel) (by decide +kernel)
set_option maxRecDepth 20000 in
theorem gX2_pullsWith_X2_swingOf : GoodIn wsX2_pullsWith (va_wsS RX2 46 yX2_swingOf wsX2_swingOf) := goodIn_app (goodIn_of _ (by decide +kernel)) ggX2_pullsWith_X2_swingOf
set_option maxRecDepth 20000 in
theorem ggX2_pullsWith_X2_skips : GoodIn wsX2_pullsWith wsX2_skips := goodIn_r _ [10, 11, 12, 13, 14, 15, 16, 3, 17, 18, 19, 20, 21, 22, 23] (by decide +kernel) (by decide +kernel)
set_option maxRecDepth 20000 in
theorem gX2_pullsWith_X2_skips : GoodIn wsX2_pullsWith (va_wsS RX2 49 yX2_skips wsX2_skips) := goodIn_app (goodIn_of _ (by decide +kernel)) ggX2_pullsWith_X2_skips
set_option maxRecDepth 20000 in
theorem ggX2_pullsWith_X2_clothOf : GoodIn wsX2_pullsWith wsX2_clothOf := goodIn_r _ [26] (by decide +kernel) (by decide +kernel)
set_option maxRecDepth 20000 in
theorem gX2_pullsWith_X2_clothOf : GoodIn wsX2_pullsWith (va_wsS RX2 53 yX2_clothOf wsX2_clothOf) := goodIn_app (goodIn_of _ (by decide +kernel)) ggX2_pullsWith_X2_clothOf
set_option maxRecDepth 20000 in
theorem ggX2_pullsWith_X2_pullsAbove : GoodIn wsX2_pullsWith wsX2_pullsAbove := goodIn_r _ [29] (by decide +kernel) (by decide +kernel)
set_option maxRecDepth 20000 in
theorem gX2_pullsWith_X2_pullsAbove : GoodIn wsX2_pullsWith (va_wsS RX2 56 yX2_pullsAbove wsX2_pullsAbove) := goodIn_app (goodIn_of _ (by decide +kernel)) ggX2_pullsWith_X2_pullsAbove
set_option maxRecDepth 20000 in
theorem ggX2_pullsWith_X2_pullsBelow : GoodIn wsX2_pullsWith wsX2_pullsBelow := goodIn_r _ [32] (by decide +kernel) (by decide +kernel)
set_option maxRecDepth 20000 in
theorem gX2_pullsWith_X2_pullsBelow : GoodIn wsX2_pullsWith (va_wsS RX2 59 yX2_pullsBelow wsX2_pullsBelow) := goodIn_app (goodIn_of _ (by decide +kernel)) ggX2_pullsWith_X2_pullsBelow
set_option maxRecDepth 20000 in
theorem ggX2_pullsWith_X2_breaks : GoodIn wsX2_pullsWith wsX2_breaks := goodIn_r _ [35, 11, 12, 13, 14, 18, 19, 3, 20] (by decide +kernel) (by decide +kernel)
set_option maxRecDepth 20000 in
theorem gX2_pullsWith_X2_breaks : GoodIn wsX2_pullsWith (va_wsS RX2 62 yX2_breaks wsX2_breaks) := goodIn_app (goodIn_of _ (by decide +kernel)) ggX2_pullsWith_X2_breaks
theorem dX2_pullsWith_0 : decode cX2_pullsWith 0 = .ok (.iload_n 1, 1) := by decide +kernel
theorem dX2_pullsWith_1 : decode cX2_pullsWith 1 = .ok (.invokestatic 43, 3) := by decide +kernel
theorem dX2_pullsWith_4 : decode cX2_pullsWith 4 = .ok (.istore_n 3, 1) := by decide +kernel
theorem dX2_pullsWith_5 : decode cX2_pullsWith 5 = .ok (.iload_n 1, 1) := by decide +kernel
theorem dX2_pullsWith_6 : decode cX2_pullsWith 6 = .ok (.invokestatic 46, 3) := by decide +kernel
theorem dX2_pullsWith_9 : decode cX2_pullsWith 9 = .ok (.istore 4, 2) := by decide +kernel
theorem dX2_pullsWith_11 : decode cX2_pullsWith 11 = .ok (.iload_n 0, 1) := by decide +kernel
theorem dX2_pullsWith_12 : decode cX2_pullsWith 12 = .ok (.iload_n 3, 1) := by decide +kernel
theorem dX2_pullsWith_13 : decode cX2_pullsWith 13 = .ok (.iload 4, 2) := by decide +kernel
theorem dX2_pullsWith_15 : decode cX2_pullsWith 15 = .ok (.invokestatic 49, 3) := by decide +kernel
theorem dX2_pullsWith_18 : decode cX2_pullsWith 18 = .ok (.ifCond .eq 16, 3) := by decide +kernel
theorem dX2_pullsWith_21 : decode cX2_pullsWith 21 = .ok (.iload_n 2, 1) := by decide +kernel
theorem dX2_pullsWith_22 : decode cX2_pullsWith 22 = .ok (.iconst 1, 1) := by decide +kernel
theorem dX2_pullsWith_23 : decode cX2_pullsWith 23 = .ok (.if_icmp .ne 9, 3) := by decide +kernel
theorem dX2_pullsWith_26 : decode cX2_pullsWith 26 = .ok (.sipush 2047, 3) := by decide +kernel
theorem dX2_pullsWith_29 : decode cX2_pullsWith 29 = .ok (.goto 4, 3) := by decide +kernel
theorem dX2_pullsWith_32 : decode cX2_pullsWith 32 = .ok (.iconst 0, 1) := by decide +kernel
theorem dX2_pullsWith_33 : decode cX2_pullsWith 33 = .ok (.ireturn, 1) := by decide +kernel
theorem dX2_pullsWith_34 : decode cX2_pullsWith 34 = .ok (.iload_n 1, 1) := by decide +kernel
theorem dX2_pullsWith_35 : decode cX2_pullsWith 35 = .ok (.invokestatic 53, 3) := by decide +kernel
theorem dX2_pullsWith_38 : decode cX2_pullsWith 38 = .ok (.invokestatic 56, 3) := by decide +kernel
theorem dX2_pullsWith_41 : decode cX2_pullsWith 41 = .ok (.istore 5, 2) := by decide +kernel
theorem dX2_pullsWith_43 : decode cX2_pullsWith 43 = .ok (.iload_n 1, 1) := by decide +kernel
theorem dX2_pullsWith_44 : decode cX2_pullsWith 44 = .ok (.invokestatic 53, 3) := by decide +kernel
theorem dX2_pullsWith_47 : decode cX2_pullsWith 47 = .ok (.invokestatic 59, 3) := by decide +kernel
theorem dX2_pullsWith_50 : decode cX2_pullsWith 50 = .ok (.istore 6, 2) := by decide +kernel
theorem dX2_pullsWith_52 : decode cX2_pullsWith 52 = .ok (.iload_n 2, 1) := by decide +kernel
theorem dX2_pullsWith_53 : decode cX2_pullsWith 53 = .ok (.tableswitch 97 0 4 #[41, 97, 38, 35, 69], 35) := by decide +kernel
theorem dX2_pullsWith_88 : decode cX2_pullsWith 88 = .ok (.iload 5, 2) := by decide +kernel
theorem dX2_pullsWith_90 : decode cX2_pullsWith 90 = .ok (.ireturn, 1) := by decide +kernel
theorem dX2_pullsWith_91 : decode cX2_pullsWith 91 = .ok (.iload 6, 2) := by decide +kernel
theorem dX2_pullsWith_93 : decode cX2_pullsWith 93 = .ok (.ireturn, 1) := by decide +kernel
theorem dX2_pullsWith_94 : decode cX2_pullsWith 94 = .ok (.iload_n 0, 1) := by decide +kernel
theorem dX2_pullsWith_95 : decode cX2_pullsWith 95 = .ok (.iload_n 3, 1) := by decide +kernel
theorem dX2_pullsWith_96 : decode cX2_pullsWith 96 = .ok (.iload 4, 2) := by decide +kernel
theorem dX2_pullsWith_98 : decode cX2_pullsWith 98 = .ok (.invokestatic 62, 3) := by decide +kernel
theorem dX2_pullsWith_101 : decode cX2_pullsWith 101 = .ok (.ifCond .eq 7, 3) := by decide +kernel
theorem dX2_pullsWith_104 : decode cX2_pullsWith 104 = .ok (.iconst 0, 1) := by decide +kernel
theorem dX2_pullsWith_105 : decode cX2_pullsWith 105 = .ok (.goto 16, 3) := by decide +kernel
theorem dX2_pullsWith_108 : decode cX2_pullsWith 108 = .ok (.sipush 2047, 3) := by decide +kernel
theorem dX2_pullsWith_111 : decode cX2_pullsWith 111 = .ok (.iload 5, 2) := by decide +kernel
theorem dX2_pullsWith_113 : decode cX2_pullsWith 113 = .ok (.iconst (-1), 1) := by decide +kernel
theorem dX2_pullsWith_114 : decode cX2_pullsWith 114 = .ok (.ixor, 1) := by decide +kernel
theorem dX2_pullsWith_115 : decode cX2_pullsWith 115 = .ok (.iand, 1) := by decide +kernel
theorem dX2_pullsWith_116 : decode cX2_pullsWith 116 = .ok (.iload 6, 2) := by decide +kernel
theorem dX2_pullsWith_118 : decode cX2_pullsWith 118 = .ok (.iconst (-1), 1) := by decide +kernel
theorem dX2_pullsWith_119 : decode cX2_pullsWith 119 = .ok (.ixor, 1) := by decide +kernel
theorem dX2_pullsWith_120 : decode cX2_pullsWith 120 = .ok (.iand, 1) := by decide +kernel
theorem dX2_pullsWith_121 : decode cX2_pullsWith 121 = .ok (.ireturn, 1) := by decide +kernel
theorem dX2_pullsWith_122 : decode cX2_pullsWith 122 = .ok (.iload_n 0, 1) := by decide +kernel
theorem dX2_pullsWith_123 : decode cX2_pullsWith 123 = .ok (.iload_n 3, 1) := by decide +kernel
theorem dX2_pullsWith_124 : decode cX2_pullsWith 124 = .ok (.iload 4, 2) := by decide +kernel
theorem dX2_pullsWith_126 : decode cX2_pullsWith 126 = .ok (.invokestatic 62, 3) := by decide +kernel
theorem dX2_pullsWith_129 : decode cX2_pullsWith 129 = .ok (.ifCond .eq 19, 3) := by decide +kernel
theorem dX2_pullsWith_132 : decode cX2_pullsWith 132 = .ok (.sipush 2047, 3) := by decide +kernel
theorem dX2_pullsWith_135 : decode cX2_pullsWith 135 = .ok (.iload 5, 2) := by decide +kernel
theorem dX2_pullsWith_137 : decode cX2_pullsWith 137 = .ok (.iconst (-1), 1) := by decide +kernel
theorem dX2_pullsWith_138 : decode cX2_pullsWith 138 = .ok (.ixor, 1) := by decide +kernel
theorem dX2_pullsWith_139 : decode cX2_pullsWith 139 = .ok (.iand, 1) := by decide +kernel
theorem dX2_pullsWith_140 : decode cX2_pullsWith 140 = .ok (.iload 6, 2) := by decide +kernel
theorem dX2_pullsWith_142 : decode cX2_pullsWith 142 = .ok (.iconst (-1), 1) := by decide +kernel
theorem dX2_pullsWith_143 : decode cX2_pullsWith 143 = .ok (.ixor, 1) := by decide +kernel
theorem dX2_pullsWith_144 : decode cX2_pullsWith 144 = .ok (.iand, 1) := by decide +kernel
theorem dX2_pullsWith_145 : decode cX2_pullsWith 145 = .ok (.goto 4, 3) := by decide +kernel
theorem dX2_pullsWith_148 : decode cX2_pullsWith 148 = .ok (.iconst 0, 1) := by decide +kernel
theorem dX2_pullsWith_149 : decode cX2_pullsWith 149 = .ok (.ireturn, 1) := by decide +kernel
theorem dX2_pullsWith_150 : decode cX2_pullsWith 150 = .ok (.iconst 0, 1) := by decide +kernel
theorem dX2_pullsWith_151 : decode cX2_pullsWith 151 = .ok (.ireturn, 1) := by decide +kernel
set_option maxRecDepth 20000 in
theorem ggX2_causesOf_X2_timingOf : GoodIn wsX2_causesOf wsX2_timingOf := goodIn_r _ [4] (by decide +kernel) (by decide +kernel)
set_option maxRecDepth 20000 in
theorem gX2_causesOf_X2_timingOf : GoodIn wsX2_causesOf (va_wsS RX2 28 yX2_timingOf wsX2_timingOf) := goodIn_app (goodIn_of _ (by decide +kernel)) ggX2_causesOf_X2_timingOf
set_option maxRecDepth 20000 in
theorem ggX2_causesOf_X2_bentOf : GoodIn wsX2_causesOf wsX2_bentOf := goodIn_r _ [7] (by decide +kernel) (by decide +kernel)
set_option maxRecDepth 20000 in
theorem gX2_causesOf_X2_bentOf : GoodIn wsX2_causesOf (va_wsS RX2 32 yX2_bentOf wsX2_bentOf) := goodIn_app (goodIn_of _ (by decide +kernel)) ggX2_causesOf_X2_bentOf
set_option maxRecDepth 20000 in
theorem ggX2_causesOf_X2_wornOf : GoodIn wsX2_causesOf wsX2_wornOf := goodIn_r _ [10] (by decide +kernel) (by decide +kernel)
set_option maxRecDepth 20000 in
theorem gX2_causesOf_X2_wornOf : GoodIn wsX2_causesOf (va_wsS RX2 40 yX2_wornOf wsX2_wornOf) := goodIn_app (goodIn_of _ (by decide +kernel)) ggX2_causesOf_X2_wornOf
theorem dX2_causesOf_0 : decode cX2_causesOf 0 = .ok (.iload_n 0, 1) := by decide +kernel
theorem dX2_causesOf_1 : decode cX2_causesOf 1 = .ok (.invokestatic 28, 3) := by decide +kernel
theorem dX2_causesOf_4 : decode cX2_causesOf 4 = .ok (.ifCond .eq 7, 3) := by decide +kernel
theorem dX2_causesOf_7 : decode cX2_causesOf 7 = .ok (.iconst 1, 1) := by decide +kernel
theorem dX2_causesOf_8 : decode cX2_causesOf 8 = .ok (.goto 4, 3) := by decide +kernel
theorem dX2_causesOf_11 : decode cX2_causesOf 11 = .ok (.iconst 0, 1) := by decide +kernel
theorem dX2_causesOf_12 : decode cX2_causesOf 12 = .ok (.istore_n 1, 1) := by decide +kernel
theorem dX2_causesOf_13 : decode cX2_causesOf 13 = .ok (.iload_n 1, 1) := by decide +kernel
theorem dX2_causesOf_14 : decode cX2_causesOf 14 = .ok (.iload_n 0, 1) := by decide +kernel
theorem dX2_causesOf_15 : decode cX2_causesOf 15 = .ok (.invokestatic 32, 3) := by decide +kernel
theorem dX2_causesOf_18 : decode cX2_causesOf 18 = .ok (.ifCond .eq 7, 3) := by decide +kernel
theorem dX2_causesOf_21 : decode cX2_causesOf 21 = .ok (.iconst 1, 1) := by decide +kernel
theorem dX2_causesOf_22 : decode cX2_causesOf 22 = .ok (.goto 4, 3) := by decide +kernel
theorem dX2_causesOf_25 : decode cX2_causesOf 25 = .ok (.iconst 0, 1) := by decide +kernel
theorem dX2_causesOf_26 : decode cX2_causesOf 26 = .ok (.iadd, 1) := by decide +kernel
theorem dX2_causesOf_27 : decode cX2_causesOf 27 = .ok (.istore_n 1, 1) := by decide +kernel
theorem dX2_causesOf_28 : decode cX2_causesOf 28 = .ok (.iload_n 1, 1) := by decide +kernel
theorem dX2_causesOf_29 : decode cX2_causesOf 29 = .ok (.iload_n 0, 1) := by decide +kernel
theorem dX2_causesOf_30 : decode cX2_causesOf 30 = .ok (.invokestatic 40, 3) := by decide +kernel
theorem dX2_causesOf_33 : decode cX2_causesOf 33 = .ok (.ifCond .eq 7, 3) := by decide +kernel
theorem dX2_causesOf_36 : decode cX2_causesOf 36 = .ok (.iconst 1, 1) := by decide +kernel
theorem dX2_causesOf_37 : decode cX2_causesOf 37 = .ok (.goto 4, 3) := by decide +kernel
theorem dX2_causesOf_40 : decode cX2_causesOf 40 = .ok (.iconst 0, 1) := by decide +kernel
theorem dX2_causesOf_41 : decode cX2_causesOf 41 = .ok (.iadd, 1) := by decide +kernel
theorem dX2_causesOf_42 : decode cX2_causesOf 42 = .ok (.ireturn, 1) := by decide +kernel
set_option maxRecDepth 20000 in
theorem ggX2_gather_X2_causesOf : GoodIn wsX2_gather wsX2_causesOf := goodIn_r _ [6, 7, 8, 5, 9, 10, 11, 12, 13, 14, 15] (by decide +kernel) (by decide +kernel)
set_option maxRecDepth 20000 in
theorem gX2_gather_X2_causesOf : GoodIn wsX2_gather (va_wsS RX2 72 yX2_causesOf wsX2_causesOf) := goodIn_app (goodIn_of _ (by decide +kernel)) ggX2_gather_X2_causesOf
set_option maxRecDepth 20000 in
theorem ggX2_gather_X2_keepKind : GoodIn wsX2_gather wsX2_keepKind := goodIn_r _ [19, 1, 20, 21, 2, 22, 23, 24, 25, 26, 27, 28, 29, 30, 31, 32, 33, 34, 35, 36] (by decide +kernel) (by decide +kernel)
set_option maxRecDepth 20000 in
theorem gX2_gather_X2_keepKind : GoodIn wsX2_gather (wsV RX2 75 RX2 yX2_keepKind wsX2_keepKind) := goodIn_app (goodIn_of _ (by decide +kernel)) ggX2_gather_X2_keepKind
theorem dX2_gather_0 : decode cX2_gather 0 = .ok (.aload_n 0, 1) := by decide +kernel
theorem dX2_gather_1 : decode cX2_gather 1 = .ok (.iconst 0, 1) := by decide +kernel
theorem dX2_gather_2 : decode cX2_gather 2 = .ok (.putfield 65, 3) := by decide +kernel
theorem dX2_gather_5 : decode cX2_gather 5 = .ok (.aload_n 0, 1) := by decide +kernel
theorem dX2_gather_6 : decode cX2_gather 6 = .ok (.iconst 0, 1) := by decide +kernel
theorem dX2_gather_7 : decode cX2_gather 7 = .ok (.putfield 69, 3) := by decide +kernel
theorem dX2_gather_10 : decode cX2_gather 10 = .ok (.iconst 0, 1) := by decide +kernel
theorem dX2_gather_11 : decode cX2_gather 11 = .ok (.istore_n 2, 1) := by decide +kernel
theorem dX2_gather_12 : decode cX2_gather 12 = .ok (.iload_n 2, 1) := by decide +kernel
theorem dX2_gather_13 : decode cX2_gather 13 = .ok (.sipush 252, 3) := by decide +kernel
theorem dX2_gather_16 : decode cX2_gather 16 = .ok (.if_icmp .ge 37, 3) := by decide +kernel
theorem dX2_gather_19 : decode cX2_gather 19 = .ok (.iload_n 2, 1) := by decide +kernel
theorem dX2_gather_20 : decode cX2_gather 20 = .ok (.invokestatic 72, 3) := by decide +kernel
theorem dX2_gather_23 : decode cX2_gather 23 = .ok (.istore_n 3, 1) := by decide +kernel
theorem dX2_gather_24 : decode cX2_gather 24 = .ok (.iload_n 3, 1) := by decide +kernel
theorem dX2_gather_25 : decode cX2_gather 25 = .ok (.iload_n 1, 1) := by decide +kernel
theorem dX2_gather_26 : decode cX2_gather 26 = .ok (.if_icmp .gt 21, 3) := by decide +kernel
theorem dX2_gather_29 : decode cX2_gather 29 = .ok (.aload_n 0, 1) := by decide +kernel
theorem dX2_gather_30 : decode cX2_gather 30 = .ok (.iload_n 2, 1) := by decide +kernel
theorem dX2_gather_31 : decode cX2_gather 31 = .ok (.iload_n 3, 1) := by decide +kernel
theorem dX2_gather_32 : decode cX2_gather 32 = .ok (.iload_n 1, 1) := by decide +kernel
theorem dX2_gather_33 : decode cX2_gather 33 = .ok (.if_icmp .ge 9, 3) := by decide +kernel
theorem dX2_gather_36 : decode cX2_gather 36 = .ok (.sipush 2047, 3) := by decide +kernel
theorem dX2_gather_39 : decode cX2_gather 39 = .ok (.goto 5, 3) := by decide +kernel
theorem dX2_gather_42 : decode cX2_gather 42 = .ok (.bipush 32, 2) := by decide +kernel
theorem dX2_gather_44 : decode cX2_gather 44 = .ok (.invokevirtual 75, 3) := by decide +kernel
theorem dX2_gather_47 : decode cX2_gather 47 = .ok (.iinc 2 1, 3) := by decide +kernel
theorem dX2_gather_50 : decode cX2_gather 50 = .ok (.goto (-38), 3) := by decide +kernel
theorem dX2_gather_53 : decode cX2_gather 53 = .ok (.return_, 1) := by decide +kernel
set_option maxRecDepth 20000 in
theorem ggX2_keepKind_J6_bitCount_0f7a4 : GoodIn wsX2_keepKind wsJ6_bitCount_0f7a4 := goodIn_r _ [8, 9, 10, 11] (by decide +kernel) (by decide +kernel)
set_option maxRecDepth 20000 in
theorem gX2_keepKind_J6_bitCount_0f7a4 : GoodIn wsX2_keepKind (va_wsS RX2 79 yJ6_bitCount_0f7a4 wsJ6_bitCount_0f7a4) := goodIn_app (goodIn_of _ (by decide +kernel)) ggX2_keepKind_J6_bitCount_0f7a4
theorem dX2_keepKind_0 : decode cX2_keepKind 0 = .ok (.iload_n 2, 1) := by decide +kernel
theorem dX2_keepKind_1 : decode cX2_keepKind 1 = .ok (.ifCond .eq 56, 3) := by decide +kernel
theorem dX2_keepKind_4 : decode cX2_keepKind 4 = .ok (.aload_n 0, 1) := by decide +kernel
theorem dX2_keepKind_5 : decode cX2_keepKind 5 = .ok (.getfield 65, 3) := by decide +kernel
theorem dX2_keepKind_8 : decode cX2_keepKind 8 = .ok (.sipush 252, 3) := by decide +kernel
theorem dX2_keepKind_11 : decode cX2_keepKind 11 = .ok (.if_icmp .ge 46, 3) := by decide +kernel
theorem dX2_keepKind_14 : decode cX2_keepKind 14 = .ok (.aload_n 0, 1) := by decide +kernel
theorem dX2_keepKind_15 : decode cX2_keepKind 15 = .ok (.getfield 18, 3) := by decide +kernel
theorem dX2_keepKind_18 : decode cX2_keepKind 18 = .ok (.aload_n 0, 1) := by decide +kernel
theorem dX2_keepKind_19 : decode cX2_keepKind 19 = .ok (.getfield 65, 3) := by decide +kernel
theorem dX2_keepKind_22 : decode cX2_keepKind 22 = .ok (.iload_n 1, 1) := by decide +kernel
theorem dX2_keepKind_23 : decode cX2_keepKind 23 = .ok (.iastore, 1) := by decide +kernel
theorem dX2_keepKind_24 : decode cX2_keepKind 24 = .ok (.aload_n 0, 1) := by decide +kernel
theorem dX2_keepKind_25 : decode cX2_keepKind 25 = .ok (.getfield 21, 3) := by decide +kernel
theorem dX2_keepKind_28 : decode cX2_keepKind 28 = .ok (.aload_n 0, 1) := by decide +kernel
theorem dX2_keepKind_29 : decode cX2_keepKind 29 = .ok (.getfield 65, 3) := by decide +kernel
theorem dX2_keepKind_32 : decode cX2_keepKind 32 = .ok (.iload_n 2, 1) := by decide +kernel
theorem dX2_keepKind_33 : decode cX2_keepKind 33 = .ok (.iastore, 1) := by decide +kernel
theorem dX2_keepKind_34 : decode cX2_keepKind 34 = .ok (.aload_n 0, 1) := by decide +kernel
theorem dX2_keepKind_35 : decode cX2_keepKind 35 = .ok (.dup, 1) := by decide +kernel
theorem dX2_keepKind_36 : decode cX2_keepKind 36 = .ok (.getfield 65, 3) := by decide +kernel
theorem dX2_keepKind_39 : decode cX2_keepKind 39 = .ok (.iconst 1, 1) := by decide +kernel
theorem dX2_keepKind_40 : decode cX2_keepKind 40 = .ok (.iadd, 1) := by decide +kernel
theorem dX2_keepKind_41 : decode cX2_keepKind 41 = .ok (.putfield 65, 3) := by decide +kernel
theorem dX2_keepKind_44 : decode cX2_keepKind 44 = .ok (.aload_n 0, 1) := by decide +kernel
theorem dX2_keepKind_45 : decode cX2_keepKind 45 = .ok (.dup, 1) := by decide +kernel
theorem dX2_keepKind_46 : decode cX2_keepKind 46 = .ok (.getfield 69, 3) := by decide +kernel
theorem dX2_keepKind_49 : decode cX2_keepKind 49 = .ok (.iload_n 2, 1) := by decide +kernel
theorem dX2_keepKind_50 : decode cX2_keepKind 50 = .ok (.invokestatic 79, 3) := by decide +kernel
theorem dX2_keepKind_53 : decode cX2_keepKind 53 = .ok (.iadd, 1) := by decide +kernel
theorem dX2_keepKind_54 : decode cX2_keepKind 54 = .ok (.putfield 69, 3) := by decide +kernel
theorem dX2_keepKind_57 : decode cX2_keepKind 57 = .ok (.return_, 1) := by decide +kernel
set_option maxRecDepth 20000 in
theorem ggX2_narrow_X2_pullsWith : GoodIn wsX2_narrow wsX2_pullsWith := goodIn_r _ [8, 9, 10, 7, 11, 12, 13, 14, 15, 16, 17, 18, 19, 20, 21, 22, 23, 24, 25, 26, 27, 28, 29, 30, 31, 32, 33, 34, 35, 36, 37, 38, 39, 40, 41, 42] (by decide +kernel) (by decide +kernel)
set_option maxRecDepth 20000 in
theorem gX2_narrow_X2_pullsWith : GoodIn wsX2_narrow (va_wsS RX2 24 yX2_pullsWith wsX2_pullsWith) := goodIn_app (goodIn_of _ (by decide +kernel)) ggX2_narrow_X2_pullsWith
set_option maxRecDepth 20000 in
theorem ggX2_narrow_X2_keepKind : GoodIn wsX2_narrow wsX2_keepKind := goodIn_r _ [46, 1, 3, 4, 2, 47, 48, 49, 50, 51, 52, 53, 54, 55, 56, 57, 58, 59, 60, 61] (by decide +kernel) (by decide +kernel)
set_option maxRecDepth 20000 in
theorem gX2_narrow_X2_keepKind : GoodIn wsX2_narrow (wsV RX2 75 RX2 yX2_keepKind wsX2_keepKind) := goodIn_app (goodIn_of _ (by decide +kernel)) ggX2_narrow_X2_keepKind
theorem dX2_narrow_0 : decode cX2_narrow 0 = .ok (.aload_n 0, 1) := by decide +kernel
theorem dX2_narrow_1 : decode cX2_narrow 1 = .ok (.getfield 65, 3) := by decide +kernel
theorem dX2_narrow_4 : decode cX2_narrow 4 = .ok (.istore_n 3, 1) := by decide +kernel
theorem dX2_narrow_5 : decode cX2_narrow 5 = .ok (.aload_n 0, 1) := by decide +kernel
theorem dX2_narrow_6 : decode cX2_narrow 6 = .ok (.iconst 0, 1) := by decide +kernel
theorem dX2_narrow_7 : decode cX2_narrow 7 = .ok (.putfield 65, 3) := by decide +kernel
theorem dX2_narrow_10 : decode cX2_narrow 10 = .ok (.aload_n 0, 1) := by decide +kernel
theorem dX2_narrow_11 : decode cX2_narrow 11 = .ok (.iconst 0, 1) := by decide +kernel
theorem dX2_narrow_12 : decode cX2_narrow 12 = .ok (.putfield 69, 3) := by decide +kernel
theorem dX2_narrow_15 : decode cX2_narrow 15 = .ok (.iconst 0, 1) := by decide +kernel
theorem dX2_narrow_16 : decode cX2_narrow 16 = .ok (.istore 4, 2) := by decide +kernel
theorem dX2_narrow_18 : decode cX2_narrow 18 = .ok (.iload 4, 2) := by decide +kernel
theorem dX2_narrow_20 : decode cX2_narrow 20 = .ok (.iload_n 3, 1) := by decide +kernel
theorem dX2_narrow_21 : decode cX2_narrow 21 = .ok (.if_icmp .ge 40, 3) := by decide +kernel
theorem dX2_narrow_24 : decode cX2_narrow 24 = .ok (.aload_n 0, 1) := by decide +kernel
theorem dX2_narrow_25 : decode cX2_narrow 25 = .ok (.aload_n 0, 1) := by decide +kernel
theorem dX2_narrow_26 : decode cX2_narrow 26 = .ok (.getfield 18, 3) := by decide +kernel
theorem dX2_narrow_29 : decode cX2_narrow 29 = .ok (.iload 4, 2) := by decide +kernel
theorem dX2_narrow_31 : decode cX2_narrow 31 = .ok (.iaload, 1) := by decide +kernel
theorem dX2_narrow_32 : decode cX2_narrow 32 = .ok (.aload_n 0, 1) := by decide +kernel
theorem dX2_narrow_33 : decode cX2_narrow 33 = .ok (.getfield 21, 3) := by decide +kernel
theorem dX2_narrow_36 : decode cX2_narrow 36 = .ok (.iload 4, 2) := by decide +kernel
theorem dX2_narrow_38 : decode cX2_narrow 38 = .ok (.iaload, 1) := by decide +kernel
theorem dX2_narrow_39 : decode cX2_narrow 39 = .ok (.aload_n 0, 1) := by decide +kernel
theorem dX2_narrow_40 : decode cX2_narrow 40 = .ok (.getfield 18, 3) := by decide +kernel
theorem dX2_narrow_43 : decode cX2_narrow 43 = .ok (.iload 4, 2) := by decide +kernel
theorem dX2_narrow_45 : decode cX2_narrow 45 = .ok (.iaload, 1) := by decide +kernel
theorem dX2_narrow_46 : decode cX2_narrow 46 = .ok (.iload_n 1, 1) := by decide +kernel
theorem dX2_narrow_47 : decode cX2_narrow 47 = .ok (.iload_n 2, 1) := by decide +kernel
theorem dX2_narrow_48 : decode cX2_narrow 48 = .ok (.invokestatic 24, 3) := by decide +kernel
theorem dX2_narrow_51 : decode cX2_narrow 51 = .ok (.iand, 1) := by decide +kernel
theorem dX2_narrow_52 : decode cX2_narrow 52 = .ok (.invokevirtual 75, 3) := by decide +kernel
theorem dX2_narrow_55 : decode cX2_narrow 55 = .ok (.iinc 4 1, 3) := by decide +kernel
theorem dX2_narrow_58 : decode cX2_narrow 58 = .ok (.goto (-40), 3) := by decide +kernel
theorem dX2_narrow_61 : decode cX2_narrow 61 = .ok (.return_, 1) := by decide +kernel
set_option maxRecDepth 20000 in
theorem ggX2_gatherNoted_X2_gather : GoodIn wsX2_gatherNoted wsX2_gather := goodIn_r _ [8, 9, 10, 11, 12, 7, 13, 14, 15, 16, 17, 18, 19, 20, 21, 22, 23, 24, 25, 26, 27, 28, 29, 30, 31, 32, 33, 34, 35, 68, 69, 70, 71, 72, 73, 74, 75] (by decide +kernel) (by decide +kernel)
set_option maxRecDepth 20000 in
theorem gX2_gatherNoted_X2_gather : GoodIn wsX2_gatherNoted (wsV RX2 84 RX2 yX2_gather wsX2_gather) := goodIn_app (goodIn_of _ (by decide +kernel)) ggX2_gatherNoted_X2_gather
set_option maxRecDepth 20000 in
theorem ggX2_gatherNoted_X2_narrow : GoodIn wsX2_gatherNoted wsX2_narrow := goodIn_r _ [39, 9, 10, 27, 28, 40, 41, 7, 42, 43, 44, 45, 46, 47, 48, 49, 50, 51, 52, 53, 54, 55, 14, 15, 16, 17, 18, 19, 20, 21, 22, 56, 57, 58, 59, 60, 61, 62, 63, 64, 65, 66, 67, 23, 24, 25, 26, 29, 30, 31, 32, 33, 34, 35, 68, 69, 70, 71, 72, 73, 74, 75] (by decide +kernel) (by decide +kernel)
set_option maxRecDepth 20000 in
theorem gX2_gatherNoted_X2_narrow : GoodIn wsX2_gatherNoted (wsV RX2 91 RX2 yX2_narrow wsX2_narrow) := goodIn_app (goodIn_of _ (by decide +kernel)) ggX2_gatherNoted_X2_narrow
theorem dX2_gatherNoted_0 : decode cX2_gatherNoted 0 = .ok (.aload_n 0, 1) := by decide +kernel
theorem dX2_gatherNoted_1 : decode cX2_gatherNoted 1 = .ok (.iload_n 1, 1) := by decide +kernel
theorem dX2_gatherNoted_2 : decode cX2_gatherNoted 2 = .ok (.invokevirtual 84, 3) := by decide +kernel
theorem dX2_gatherNoted_5 : decode cX2_gatherNoted 5 = .ok (.iconst 0, 1) := by decide +kernel
theorem dX2_gatherNoted_6 : decode cX2_gatherNoted 6 = .ok (.istore_n 2, 1) := by decide +kernel
theorem dX2_gatherNoted_7 : decode cX2_gatherNoted 7 = .ok (.iload_n 2, 1) := by decide +kernel
theorem dX2_gatherNoted_8 : decode cX2_gatherNoted 8 = .ok (.aload_n 0, 1) := by decide +kernel
theorem dX2_gatherNoted_9 : decode cX2_gatherNoted 9 = .ok (.getfield 88, 3) := by decide +kernel
theorem dX2_gatherNoted_12 : decode cX2_gatherNoted 12 = .ok (.if_icmp .ge 25, 3) := by decide +kernel
theorem dX2_gatherNoted_15 : decode cX2_gatherNoted 15 = .ok (.aload_n 0, 1) := by decide +kernel
theorem dX2_gatherNoted_16 : decode cX2_gatherNoted 16 = .ok (.aload_n 0, 1) := by decide +kernel
theorem dX2_gatherNoted_17 : decode cX2_gatherNoted 17 = .ok (.getfield 9, 3) := by decide +kernel
theorem dX2_gatherNoted_20 : decode cX2_gatherNoted 20 = .ok (.iload_n 2, 1) := by decide +kernel
theorem dX2_gatherNoted_21 : decode cX2_gatherNoted 21 = .ok (.iaload, 1) := by decide +kernel
theorem dX2_gatherNoted_22 : decode cX2_gatherNoted 22 = .ok (.aload_n 0, 1) := by decide +kernel
theorem dX2_gatherNoted_23 : decode cX2_gatherNoted 23 = .ok (.getfield 15, 3) := by decide +kernel
theorem dX2_gatherNoted_26 : decode cX2_gatherNoted 26 = .ok (.iload_n 2, 1) := by decide +kernel
theorem dX2_gatherNoted_27 : decode cX2_gatherNoted 27 = .ok (.iaload, 1) := by decide +kernel
theorem dX2_gatherNoted_28 : decode cX2_gatherNoted 28 = .ok (.invokevirtual 91, 3) := by decide +kernel
theorem dX2_gatherNoted_31 : decode cX2_gatherNoted 31 = .ok (.iinc 2 1, 3) := by decide +kernel
theorem dX2_gatherNoted_34 : decode cX2_gatherNoted 34 = .ok (.goto (-27), 3) := by decide +kernel
theorem dX2_gatherNoted_37 : decode cX2_gatherNoted 37 = .ok (.return_, 1) := by decide +kernel
theorem dX2_numberOf_0 : decode cX2_numberOf 0 = .ok (.iconst 0, 1) := by decide +kernel
theorem dX2_numberOf_1 : decode cX2_numberOf 1 = .ok (.istore_n 2, 1) := by decide +kernel
theorem dX2_numberOf_2 : decode cX2_numberOf 2 = .ok (.iconst 0, 1) := by decide +kernel
theorem dX2_numberOf_3 : decode cX2_numberOf 3 = .ok (.istore_n 3, 1) := by decide +kernel
theorem dX2_numberOf_4 : decode cX2_numberOf 4 = .ok (.iload_n 3, 1) := by decide +kernel
theorem dX2_numberOf_5 : decode cX2_numberOf 5 = .ok (.aload_n 0, 1) := by decide +kernel
theorem dX2_numberOf_6 : decode cX2_numberOf 6 = .ok (.getfield 65, 3) := by decide +kernel
theorem dX2_numberOf_9 : decode cX2_numberOf 9 = .ok (.if_icmp .ge 60, 3) := by decide +kernel
theorem dX2_numberOf_12 : decode cX2_numberOf 12 = .ok (.iconst 0, 1) := by decide +kernel
theorem dX2_numberOf_13 : decode cX2_numberOf 13 = .ok (.istore 4, 2) := by decide +kernel
theorem dX2_numberOf_15 : decode cX2_numberOf 15 = .ok (.iload 4, 2) := by decide +kernel
theorem dX2_numberOf_17 : decode cX2_numberOf 17 = .ok (.bipush 11, 2) := by decide +kernel
theorem dX2_numberOf_19 : decode cX2_numberOf 19 = .ok (.if_icmp .ge 44, 3) := by decide +kernel
theorem dX2_numberOf_22 : decode cX2_numberOf 22 = .ok (.aload_n 0, 1) := by decide +kernel
theorem dX2_numberOf_23 : decode cX2_numberOf 23 = .ok (.getfield 21, 3) := by decide +kernel
theorem dX2_numberOf_26 : decode cX2_numberOf 26 = .ok (.iload_n 3, 1) := by decide +kernel
theorem dX2_numberOf_27 : decode cX2_numberOf 27 = .ok (.iaload, 1) := by decide +kernel
theorem dX2_numberOf_28 : decode cX2_numberOf 28 = .ok (.iconst 1, 1) := by decide +kernel
theorem dX2_numberOf_29 : decode cX2_numberOf 29 = .ok (.iload 4, 2) := by decide +kernel
theorem dX2_numberOf_31 : decode cX2_numberOf 31 = .ok (.ishl, 1) := by decide +kernel
theorem dX2_numberOf_32 : decode cX2_numberOf 32 = .ok (.iand, 1) := by decide +kernel
theorem dX2_numberOf_33 : decode cX2_numberOf 33 = .ok (.ifCond .eq 24, 3) := by decide +kernel
theorem dX2_numberOf_36 : decode cX2_numberOf 36 = .ok (.iload_n 2, 1) := by decide +kernel
theorem dX2_numberOf_37 : decode cX2_numberOf 37 = .ok (.iload_n 1, 1) := by decide +kernel
theorem dX2_numberOf_38 : decode cX2_numberOf 38 = .ok (.if_icmp .ne 16, 3) := by decide +kernel
theorem dX2_numberOf_41 : decode cX2_numberOf 41 = .ok (.aload_n 0, 1) := by decide +kernel
theorem dX2_numberOf_42 : decode cX2_numberOf 42 = .ok (.getfield 18, 3) := by decide +kernel
theorem dX2_numberOf_45 : decode cX2_numberOf 45 = .ok (.iload_n 3, 1) := by decide +kernel
theorem dX2_numberOf_46 : decode cX2_numberOf 46 = .ok (.iaload, 1) := by decide +kernel
theorem dX2_numberOf_47 : decode cX2_numberOf 47 = .ok (.bipush 11, 2) := by decide +kernel
theorem dX2_numberOf_49 : decode cX2_numberOf 49 = .ok (.imul, 1) := by decide +kernel
theorem dX2_numberOf_50 : decode cX2_numberOf 50 = .ok (.iload 4, 2) := by decide +kernel
theorem dX2_numberOf_52 : decode cX2_numberOf 52 = .ok (.iadd, 1) := by decide +kernel
theorem dX2_numberOf_53 : decode cX2_numberOf 53 = .ok (.ireturn, 1) := by decide +kernel
theorem dX2_numberOf_54 : decode cX2_numberOf 54 = .ok (.iinc 2 1, 3) := by decide +kernel
theorem dX2_numberOf_57 : decode cX2_numberOf 57 = .ok (.iinc 4 1, 3) := by decide +kernel
theorem dX2_numberOf_60 : decode cX2_numberOf 60 = .ok (.goto (-45), 3) := by decide +kernel
theorem dX2_numberOf_63 : decode cX2_numberOf 63 = .ok (.iinc 3 1, 3) := by decide +kernel
theorem dX2_numberOf_66 : decode cX2_numberOf 66 = .ok (.goto (-62), 3) := by decide +kernel
theorem dX2_numberOf_69 : decode cX2_numberOf 69 = .ok (.iconst (-1), 1) := by decide +kernel
theorem dX2_numberOf_70 : decode cX2_numberOf 70 = .ok (.ireturn, 1) := by decide +kernel
theorem dX2_holds_0 : decode cX2_holds 0 = .ok (.iconst 0, 1) := by decide +kernel
theorem dX2_holds_1 : decode cX2_holds 1 = .ok (.istore_n 2, 1) := by decide +kernel
theorem dX2_holds_2 : decode cX2_holds 2 = .ok (.iload_n 2, 1) := by decide +kernel
theorem dX2_holds_3 : decode cX2_holds 3 = .ok (.aload_n 0, 1) := by decide +kernel
theorem dX2_holds_4 : decode cX2_holds 4 = .ok (.getfield 65, 3) := by decide +kernel
theorem dX2_holds_7 : decode cX2_holds 7 = .ok (.if_icmp .ge 44, 3) := by decide +kernel
theorem dX2_holds_10 : decode cX2_holds 10 = .ok (.aload_n 0, 1) := by decide +kernel
theorem dX2_holds_11 : decode cX2_holds 11 = .ok (.getfield 18, 3) := by decide +kernel
theorem dX2_holds_14 : decode cX2_holds 14 = .ok (.iload_n 2, 1) := by decide +kernel
theorem dX2_holds_15 : decode cX2_holds 15 = .ok (.iaload, 1) := by decide +kernel
theorem dX2_holds_16 : decode cX2_holds 16 = .ok (.iload_n 1, 1) := by decide +kernel
theorem dX2_holds_17 : decode cX2_holds 17 = .ok (.bipush 11, 2) := by decide +kernel
theorem dX2_holds_19 : decode cX2_holds 19 = .ok (.idiv, 1) := by decide +kernel
theorem dX2_holds_20 : decode cX2_holds 20 = .ok (.if_icmp .ne 25, 3) := by decide +kernel
theorem dX2_holds_23 : decode cX2_holds 23 = .ok (.aload_n 0, 1) := by decide +kernel
theorem dX2_holds_24 : decode cX2_holds 24 = .ok (.getfield 21, 3) := by decide +kernel
theorem dX2_holds_27 : decode cX2_holds 27 = .ok (.iload_n 2, 1) := by decide +kernel
theorem dX2_holds_28 : decode cX2_holds 28 = .ok (.iaload, 1) := by decide +kernel
theorem dX2_holds_29 : decode cX2_holds 29 = .ok (.iconst 1, 1) := by decide +kernel
theorem dX2_holds_30 : decode cX2_holds 30 = .ok (.iload_n 1, 1) := by decide +kernel
theorem dX2_holds_31 : decode cX2_holds 31 = .ok (.bipush 11, 2) := by decide +kernel
theorem dX2_holds_33 : decode cX2_holds 33 = .ok (.irem, 1) := by decide +kernel
theorem dX2_holds_34 : decode cX2_holds 34 = .ok (.ishl, 1) := by decide +kernel
theorem dX2_holds_35 : decode cX2_holds 35 = .ok (.iand, 1) := by decide +kernel
theorem dX2_holds_36 : decode cX2_holds 36 = .ok (.ifCond .eq 7, 3) := by decide +kernel
theorem dX2_holds_39 : decode cX2_holds 39 = .ok (.iconst 1, 1) := by decide +kernel
theorem dX2_holds_40 : decode cX2_holds 40 = .ok (.goto 4, 3) := by decide +kernel
theorem dX2_holds_43 : decode cX2_holds 43 = .ok (.iconst 0, 1) := by decide +kernel
theorem dX2_holds_44 : decode cX2_holds 44 = .ok (.ireturn, 1) := by decide +kernel
theorem dX2_holds_45 : decode cX2_holds 45 = .ok (.iinc 2 1, 3) := by decide +kernel
theorem dX2_holds_48 : decode cX2_holds 48 = .ok (.goto (-46), 3) := by decide +kernel
theorem dX2_holds_51 : decode cX2_holds 51 = .ok (.iconst 0, 1) := by decide +kernel
theorem dX2_holds_52 : decode cX2_holds 52 = .ok (.ireturn, 1) := by decide +kernel
set_option maxRecDepth 20000 in
theorem ggX2_greatestShare_X2_speedOf : GoodIn wsX2_greatestShare wsX2_speedOf := goodIn_r _ [11] (by decide +kernel) (by decide +kernel)
set_option maxRecDepth 20000 in
theorem gX2_greatestShare_X2_speedOf : GoodIn wsX2_greatestShare (va_wsS RX2 43 yX2_speedOf wsX2_speedOf) := goodIn_app (goodIn_of _ (by decide +kernel)) ggX2_greatestShare_X2_speedOf
set_option maxRecDepth 20000 in
theorem ggX2_greatestShare_X2_swingOf : GoodIn wsX2_greatestShare wsX2_swingOf := goodIn_r _ [14] (by decide +kernel) (by decide +kernel)
set_option maxRecDepth 20000 in
theorem gX2_greatestShare_X2_swingOf : GoodIn wsX2_greatestShare (va_wsS RX2 46 yX2_swingOf wsX2_swingOf) := goodIn_app (goodIn_of _ (by decide +kernel)) ggX2_greatestShare_X2_swingOf
set_option maxRecDepth 20000 in
theorem ggX2_greatestShare_X2_clothOf : GoodIn wsX2_greatestShare wsX2_clothOf := goodIn_r _ [17] (by decide +kernel) (by decide +kernel)
set_option maxRecDepth 20000 in
theorem gX2_greatestShare_X2_clothOf : GoodIn wsX2_greatestShare (va_wsS RX2 53 yX2_clothOf wsX2_clothOf) := goodIn_app (goodIn_of _ (by decide +kernel)) ggX2_greatestShare_X2_clothOf
set_option maxRecDepth 20000 in
theorem ggX2_greatestShare_X2_pullsAbove : GoodIn wsX2_greatestShare wsX2_pullsAbove := goodIn_r _ [20] (by decide +kernel) (by decide +kernel)
set_option maxRecDepth 20000 in
theorem gX2_greatestShare_X2_pullsAbove : GoodIn wsX2_greatestShare (va_wsS RX2 56 yX2_pullsAbove wsX2_pullsAbove) := goodIn_app (goodIn_of _ (by decide +kernel)) ggX2_greatestShare_X2_pullsAbove
set_option maxRecDepth 20000 in
theorem ggX2_greatestShare_X2_pullsBelow : GoodIn wsX2_greatestShare wsX2_pullsBelow := goodIn_r _ [23] (by decide +kernel) (by decide +kernel)
set_option maxRecDepth 20000 in
theorem gX2_greatestShare_X2_pullsBelow : GoodIn wsX2_greatestShare (va_wsS RX2 59 yX2_pullsBelow wsX2_pullsBelow) := goodIn_app (goodIn_of _ (by decide +kernel)) ggX2_greatestShare_X2_pullsBelow
set_option maxRecDepth 20000 in
theorem ggX2_greatestShare_X2_skips : GoodIn wsX2_greatestShare wsX2_skips := goodIn_r _ [26, 27, 28, 6, 29, 30, 31, 10, 32, 33, 34, 35, 36, 37, 38] (by decide +kernel) (by decide +kernel)
set_option maxRecDepth 20000 in
theorem gX2_greatestShare_X2_skips : GoodIn wsX2_greatestShare (va_wsS RX2 49 yX2_skips wsX2_skips) := goodIn_app (goodIn_of _ (by decide +kernel)) ggX2_greatestShare_X2_skips
set_option maxRecDepth 20000 in
theorem ggX2_greatestShare_J6_bitCount_0f7a4 : GoodIn wsX2_greatestShare wsJ6_bitCount_0f7a4 := goodIn_r _ [42, 43, 44, 45] (by decide +kernel) (by decide +kernel)
set_option maxRecDepth 20000 in
theorem gX2_greatestShare_J6_bitCount_0f7a4 : GoodIn wsX2_greatestShare (va_wsS RX2 79 yJ6_bitCount_0f7a4 wsJ6_bitCount_0f7a4) := goodIn_app (goodIn_of _ (by decide +kernel)) ggX2_greatestShare_J6_bitCount_0f7a4
set_option maxRecDepth 20000 in
theorem ggX2_greatestShare_X2_breaks : GoodIn wsX2_greatestShare wsX2_breaks := goodIn_r _ [48, 27, 28, 6, 29, 33, 34, 10, 35] (by decide +kernel) (by decide +kernel)
set_option maxRecDepth 20000 in
theorem gX2_greatestShare_X2_breaks : GoodIn wsX2_greatestShare (va_wsS RX2 62 yX2_breaks wsX2_breaks) := goodIn_app (goodIn_of _ (by decide +kernel)) ggX2_greatestShare_X2_breaks
theorem dX2_greatestShare_0 : decode cX2_greatestShare 0 = .ok (.iload_n 1, 1) := by decide +kernel
theorem dX2_greatestShare_1 : decode cX2_greatestShare 1 = .ok (.invokestatic 43, 3) := by decide +kernel
theorem dX2_greatestShare_4 : decode cX2_greatestShare 4 = .ok (.istore_n 2, 1) := by decide +kernel
theorem dX2_greatestShare_5 : decode cX2_greatestShare 5 = .ok (.iload_n 1, 1) := by decide +kernel
theorem dX2_greatestShare_6 : decode cX2_greatestShare 6 = .ok (.invokestatic 46, 3) := by decide +kernel
theorem dX2_greatestShare_9 : decode cX2_greatestShare 9 = .ok (.istore_n 3, 1) := by decide +kernel
theorem dX2_greatestShare_10 : decode cX2_greatestShare 10 = .ok (.iload_n 1, 1) := by decide +kernel
theorem dX2_greatestShare_11 : decode cX2_greatestShare 11 = .ok (.invokestatic 53, 3) := by decide +kernel
theorem dX2_greatestShare_14 : decode cX2_greatestShare 14 = .ok (.invokestatic 56, 3) := by decide +kernel
theorem dX2_greatestShare_17 : decode cX2_greatestShare 17 = .ok (.istore 4, 2) := by decide +kernel
theorem dX2_greatestShare_19 : decode cX2_greatestShare 19 = .ok (.iload_n 1, 1) := by decide +kernel
theorem dX2_greatestShare_20 : decode cX2_greatestShare 20 = .ok (.invokestatic 53, 3) := by decide +kernel
theorem dX2_greatestShare_23 : decode cX2_greatestShare 23 = .ok (.invokestatic 59, 3) := by decide +kernel
theorem dX2_greatestShare_26 : decode cX2_greatestShare 26 = .ok (.istore 5, 2) := by decide +kernel
theorem dX2_greatestShare_28 : decode cX2_greatestShare 28 = .ok (.sipush 2047, 3) := by decide +kernel
theorem dX2_greatestShare_31 : decode cX2_greatestShare 31 = .ok (.iload 4, 2) := by decide +kernel
theorem dX2_greatestShare_33 : decode cX2_greatestShare 33 = .ok (.iconst (-1), 1) := by decide +kernel
theorem dX2_greatestShare_34 : decode cX2_greatestShare 34 = .ok (.ixor, 1) := by decide +kernel
theorem dX2_greatestShare_35 : decode cX2_greatestShare 35 = .ok (.iand, 1) := by decide +kernel
theorem dX2_greatestShare_36 : decode cX2_greatestShare 36 = .ok (.iload 5, 2) := by decide +kernel
theorem dX2_greatestShare_38 : decode cX2_greatestShare 38 = .ok (.iconst (-1), 1) := by decide +kernel
theorem dX2_greatestShare_39 : decode cX2_greatestShare 39 = .ok (.ixor, 1) := by decide +kernel
theorem dX2_greatestShare_40 : decode cX2_greatestShare 40 = .ok (.iand, 1) := by decide +kernel
theorem dX2_greatestShare_41 : decode cX2_greatestShare 41 = .ok (.istore 6, 2) := by decide +kernel
theorem dX2_greatestShare_43 : decode cX2_greatestShare 43 = .ok (.iconst 0, 1) := by decide +kernel
theorem dX2_greatestShare_44 : decode cX2_greatestShare 44 = .ok (.istore 7, 2) := by decide +kernel
theorem dX2_greatestShare_46 : decode cX2_greatestShare 46 = .ok (.iconst 0, 1) := by decide +kernel
theorem dX2_greatestShare_47 : decode cX2_greatestShare 47 = .ok (.istore 8, 2) := by decide +kernel
theorem dX2_greatestShare_49 : decode cX2_greatestShare 49 = .ok (.iconst 0, 1) := by decide +kernel
theorem dX2_greatestShare_50 : decode cX2_greatestShare 50 = .ok (.istore 9, 2) := by decide +kernel
theorem dX2_greatestShare_52 : decode cX2_greatestShare 52 = .ok (.iconst 0, 1) := by decide +kernel
theorem dX2_greatestShare_53 : decode cX2_greatestShare 53 = .ok (.istore 10, 2) := by decide +kernel
theorem dX2_greatestShare_55 : decode cX2_greatestShare 55 = .ok (.iconst 0, 1) := by decide +kernel
theorem dX2_greatestShare_56 : decode cX2_greatestShare 56 = .ok (.istore 11, 2) := by decide +kernel
theorem dX2_greatestShare_58 : decode cX2_greatestShare 58 = .ok (.iconst 0, 1) := by decide +kernel
theorem dX2_greatestShare_59 : decode cX2_greatestShare 59 = .ok (.istore 12, 2) := by decide +kernel
theorem dX2_greatestShare_61 : decode cX2_greatestShare 61 = .ok (.iload 12, 2) := by decide +kernel
theorem dX2_greatestShare_63 : decode cX2_greatestShare 63 = .ok (.aload_n 0, 1) := by decide +kernel
theorem dX2_greatestShare_64 : decode cX2_greatestShare 64 = .ok (.getfield 65, 3) := by decide +kernel
theorem dX2_greatestShare_67 : decode cX2_greatestShare 67 = .ok (.if_icmp .ge 125, 3) := by decide +kernel
theorem dX2_greatestShare_70 : decode cX2_greatestShare 70 = .ok (.aload_n 0, 1) := by decide +kernel
theorem dX2_greatestShare_71 : decode cX2_greatestShare 71 = .ok (.getfield 18, 3) := by decide +kernel
theorem dX2_greatestShare_74 : decode cX2_greatestShare 74 = .ok (.iload 12, 2) := by decide +kernel
theorem dX2_greatestShare_76 : decode cX2_greatestShare 76 = .ok (.iaload, 1) := by decide +kernel
theorem dX2_greatestShare_77 : decode cX2_greatestShare 77 = .ok (.iload_n 2, 1) := by decide +kernel
theorem dX2_greatestShare_78 : decode cX2_greatestShare 78 = .ok (.iload_n 3, 1) := by decide +kernel
theorem dX2_greatestShare_79 : decode cX2_greatestShare 79 = .ok (.invokestatic 49, 3) := by decide +kernel
theorem dX2_greatestShare_82 : decode cX2_greatestShare 82 = .ok (.ifCond .eq 21, 3) := by decide +kernel
theorem dX2_greatestShare_85 : decode cX2_greatestShare 85 = .ok (.iload 7, 2) := by decide +kernel
theorem dX2_greatestShare_87 : decode cX2_greatestShare 87 = .ok (.aload_n 0, 1) := by decide +kernel
theorem dX2_greatestShare_88 : decode cX2_greatestShare 88 = .ok (.getfield 21, 3) := by decide +kernel
theorem dX2_greatestShare_91 : decode cX2_greatestShare 91 = .ok (.iload 12, 2) := by decide +kernel
theorem dX2_greatestShare_93 : decode cX2_greatestShare 93 = .ok (.iaload, 1) := by decide +kernel
theorem dX2_greatestShare_94 : decode cX2_greatestShare 94 = .ok (.invokestatic 79, 3) := by decide +kernel
theorem dX2_greatestShare_97 : decode cX2_greatestShare 97 = .ok (.iadd, 1) := by decide +kernel
theorem dX2_greatestShare_98 : decode cX2_greatestShare 98 = .ok (.istore 7, 2) := by decide +kernel
theorem dX2_greatestShare_100 : decode cX2_greatestShare 100 = .ok (.goto 86, 3) := by decide +kernel
theorem dX2_greatestShare_103 : decode cX2_greatestShare 103 = .ok (.iload 8, 2) := by decide +kernel
theorem dX2_greatestShare_105 : decode cX2_greatestShare 105 = .ok (.aload_n 0, 1) := by decide +kernel
theorem dX2_greatestShare_106 : decode cX2_greatestShare 106 = .ok (.getfield 21, 3) := by decide +kernel
theorem dX2_greatestShare_109 : decode cX2_greatestShare 109 = .ok (.iload 12, 2) := by decide +kernel
theorem dX2_greatestShare_111 : decode cX2_greatestShare 111 = .ok (.iaload, 1) := by decide +kernel
theorem dX2_greatestShare_112 : decode cX2_greatestShare 112 = .ok (.iload 4, 2) := by decide +kernel
theorem dX2_greatestShare_114 : decode cX2_greatestShare 114 = .ok (.iand, 1) := by decide +kernel
theorem dX2_greatestShare_115 : decode cX2_greatestShare 115 = .ok (.invokestatic 79, 3) := by decide +kernel
theorem dX2_greatestShare_118 : decode cX2_greatestShare 118 = .ok (.iadd, 1) := by decide +kernel
theorem dX2_greatestShare_119 : decode cX2_greatestShare 119 = .ok (.istore 8, 2) := by decide +kernel
theorem dX2_greatestShare_121 : decode cX2_greatestShare 121 = .ok (.iload 9, 2) := by decide +kernel
theorem dX2_greatestShare_123 : decode cX2_greatestShare 123 = .ok (.aload_n 0, 1) := by decide +kernel
theorem dX2_greatestShare_124 : decode cX2_greatestShare 124 = .ok (.getfield 21, 3) := by decide +kernel
theorem dX2_greatestShare_127 : decode cX2_greatestShare 127 = .ok (.iload 12, 2) := by decide +kernel
theorem dX2_greatestShare_129 : decode cX2_greatestShare 129 = .ok (.iaload, 1) := by decide +kernel
theorem dX2_greatestShare_130 : decode cX2_greatestShare 130 = .ok (.iload 5, 2) := by decide +kernel
theorem dX2_greatestShare_132 : decode cX2_greatestShare 132 = .ok (.iand, 1) := by decide +kernel
theorem dX2_greatestShare_133 : decode cX2_greatestShare 133 = .ok (.invokestatic 79, 3) := by decide +kernel
theorem dX2_greatestShare_136 : decode cX2_greatestShare 136 = .ok (.iadd, 1) := by decide +kernel
theorem dX2_greatestShare_137 : decode cX2_greatestShare 137 = .ok (.istore 9, 2) := by decide +kernel
theorem dX2_greatestShare_139 : decode cX2_greatestShare 139 = .ok (.aload_n 0, 1) := by decide +kernel
theorem dX2_greatestShare_140 : decode cX2_greatestShare 140 = .ok (.getfield 21, 3) := by decide +kernel
theorem dX2_greatestShare_143 : decode cX2_greatestShare 143 = .ok (.iload 12, 2) := by decide +kernel
theorem dX2_greatestShare_145 : decode cX2_greatestShare 145 = .ok (.iaload, 1) := by decide +kernel
theorem dX2_greatestShare_146 : decode cX2_greatestShare 146 = .ok (.iload 6, 2) := by decide +kernel
theorem dX2_greatestShare_148 : decode cX2_greatestShare 148 = .ok (.iand, 1) := by decide +kernel
theorem dX2_greatestShare_149 : decode cX2_greatestShare 149 = .ok (.invokestatic 79, 3) := by decide +kernel
theorem dX2_greatestShare_152 : decode cX2_greatestShare 152 = .ok (.istore 13, 2) := by decide +kernel
theorem dX2_greatestShare_154 : decode cX2_greatestShare 154 = .ok (.aload_n 0, 1) := by decide +kernel
theorem dX2_greatestShare_155 : decode cX2_greatestShare 155 = .ok (.getfield 18, 3) := by decide +kernel
theorem dX2_greatestShare_158 : decode cX2_greatestShare 158 = .ok (.iload 12, 2) := by decide +kernel
theorem dX2_greatestShare_160 : decode cX2_greatestShare 160 = .ok (.iaload, 1) := by decide +kernel
theorem dX2_greatestShare_161 : decode cX2_greatestShare 161 = .ok (.iload_n 2, 1) := by decide +kernel
theorem dX2_greatestShare_162 : decode cX2_greatestShare 162 = .ok (.iload_n 3, 1) := by decide +kernel
theorem dX2_greatestShare_163 : decode cX2_greatestShare 163 = .ok (.invokestatic 62, 3) := by decide +kernel
theorem dX2_greatestShare_166 : decode cX2_greatestShare 166 = .ok (.ifCond .eq 13, 3) := by decide +kernel
theorem dX2_greatestShare_169 : decode cX2_greatestShare 169 = .ok (.iload 10, 2) := by decide +kernel
theorem dX2_greatestShare_171 : decode cX2_greatestShare 171 = .ok (.iload 13, 2) := by decide +kernel
theorem dX2_greatestShare_173 : decode cX2_greatestShare 173 = .ok (.iadd, 1) := by decide +kernel
theorem dX2_greatestShare_174 : decode cX2_greatestShare 174 = .ok (.istore 10, 2) := by decide +kernel
theorem dX2_greatestShare_176 : decode cX2_greatestShare 176 = .ok (.goto 10, 3) := by decide +kernel
theorem dX2_greatestShare_179 : decode cX2_greatestShare 179 = .ok (.iload 11, 2) := by decide +kernel
theorem dX2_greatestShare_181 : decode cX2_greatestShare 181 = .ok (.iload 13, 2) := by decide +kernel
theorem dX2_greatestShare_183 : decode cX2_greatestShare 183 = .ok (.iadd, 1) := by decide +kernel
theorem dX2_greatestShare_184 : decode cX2_greatestShare 184 = .ok (.istore 11, 2) := by decide +kernel
theorem dX2_greatestShare_186 : decode cX2_greatestShare 186 = .ok (.iinc 12 1, 3) := by decide +kernel
theorem dX2_greatestShare_189 : decode cX2_greatestShare 189 = .ok (.goto (-128), 3) := by decide +kernel
theorem dX2_greatestShare_192 : decode cX2_greatestShare 192 = .ok (.iload 7, 2) := by decide +kernel
theorem dX2_greatestShare_194 : decode cX2_greatestShare 194 = .ok (.iload 8, 2) := by decide +kernel
theorem dX2_greatestShare_196 : decode cX2_greatestShare 196 = .ok (.iload 9, 2) := by decide +kernel
theorem dX2_greatestShare_198 : decode cX2_greatestShare 198 = .ok (.invokestatic 94, 3) := by decide +kernel
theorem dX2_greatestShare_201 : decode cX2_greatestShare 201 = .ok (.invokestatic 94, 3) := by decide +kernel
theorem dX2_greatestShare_204 : decode cX2_greatestShare 204 = .ok (.iload 10, 2) := by decide +kernel
theorem dX2_greatestShare_206 : decode cX2_greatestShare 206 = .ok (.iload 11, 2) := by decide +kernel
theorem dX2_greatestShare_208 : decode cX2_greatestShare 208 = .ok (.invokestatic 94, 3) := by decide +kernel
theorem dX2_greatestShare_211 : decode cX2_greatestShare 211 = .ok (.invokestatic 94, 3) := by decide +kernel
theorem dX2_greatestShare_214 : decode cX2_greatestShare 214 = .ok (.ireturn, 1) := by decide +kernel
set_option maxRecDepth 20000 in
theorem ggX2_partingTrial_X2_greatestShare : GoodIn wsX2_partingTrial wsX2_greatestShare := goodIn_r _ [6, 7, 8, 9, 10, 11, 12, 13, 14, 15, 5, 16, 17, 18, 19, 20, 21, 22, 23, 24, 25, 26, 27, 28, 29, 30, 31, 32, 33, 34, 35, 36, 37, 38, 39, 40, 41, 42, 43, 44, 45, 46, 47, 48, 49, 50, 51, 52, 53, 54, 55, 56, 57, 58, 59, 60, 61] (by decide +kernel) (by decide +kernel)
set_option maxRecDepth 20000 in
theorem gX2_partingTrial_X2_greatestShare : GoodIn wsX2_partingTrial (wsV RX2 98 RX2 yX2_greatestShare wsX2_greatestShare) := goodIn_app (goodIn_of _ (by decide +kernel)) ggX2_partingTrial_X2_greatestShare
theorem dX2_partingTrial_0 : decode cX2_partingTrial 0 = .ok (.bipush (-4), 2) := by decide +kernel
theorem dX2_partingTrial_2 : decode cX2_partingTrial 2 = .ok (.istore_n 1, 1) := by decide +kernel
theorem dX2_partingTrial_3 : decode cX2_partingTrial 3 = .ok (.aload_n 0, 1) := by decide +kernel
theorem dX2_partingTrial_4 : decode cX2_partingTrial 4 = .ok (.getfield 69, 3) := by decide +kernel
theorem dX2_partingTrial_7 : decode cX2_partingTrial 7 = .ok (.istore_n 2, 1) := by decide +kernel
theorem dX2_partingTrial_8 : decode cX2_partingTrial 8 = .ok (.iconst 0, 1) := by decide +kernel
theorem dX2_partingTrial_9 : decode cX2_partingTrial 9 = .ok (.istore_n 3, 1) := by decide +kernel
theorem dX2_partingTrial_10 : decode cX2_partingTrial 10 = .ok (.iload_n 3, 1) := by decide +kernel
theorem dX2_partingTrial_11 : decode cX2_partingTrial 11 = .ok (.sipush 325, 3) := by decide +kernel
theorem dX2_partingTrial_14 : decode cX2_partingTrial 14 = .ok (.if_icmp .ge 27, 3) := by decide +kernel
theorem dX2_partingTrial_17 : decode cX2_partingTrial 17 = .ok (.aload_n 0, 1) := by decide +kernel
theorem dX2_partingTrial_18 : decode cX2_partingTrial 18 = .ok (.iload_n 3, 1) := by decide +kernel
theorem dX2_partingTrial_19 : decode cX2_partingTrial 19 = .ok (.invokevirtual 98, 3) := by decide +kernel
theorem dX2_partingTrial_22 : decode cX2_partingTrial 22 = .ok (.istore 4, 2) := by decide +kernel
theorem dX2_partingTrial_24 : decode cX2_partingTrial 24 = .ok (.iload 4, 2) := by decide +kernel
theorem dX2_partingTrial_26 : decode cX2_partingTrial 26 = .ok (.iload_n 2, 1) := by decide +kernel
theorem dX2_partingTrial_27 : decode cX2_partingTrial 27 = .ok (.if_icmp .ge 8, 3) := by decide +kernel
theorem dX2_partingTrial_30 : decode cX2_partingTrial 30 = .ok (.iload 4, 2) := by decide +kernel
theorem dX2_partingTrial_32 : decode cX2_partingTrial 32 = .ok (.istore_n 2, 1) := by decide +kernel
theorem dX2_partingTrial_33 : decode cX2_partingTrial 33 = .ok (.iload_n 3, 1) := by decide +kernel
theorem dX2_partingTrial_34 : decode cX2_partingTrial 34 = .ok (.istore_n 1, 1) := by decide +kernel
theorem dX2_partingTrial_35 : decode cX2_partingTrial 35 = .ok (.iinc 3 1, 3) := by decide +kernel
theorem dX2_partingTrial_38 : decode cX2_partingTrial 38 = .ok (.goto (-28), 3) := by decide +kernel
theorem dX2_partingTrial_41 : decode cX2_partingTrial 41 = .ok (.iload_n 1, 1) := by decide +kernel
theorem dX2_partingTrial_42 : decode cX2_partingTrial 42 = .ok (.ireturn, 1) := by decide +kernel
set_option maxRecDepth 20000 in
theorem ggX2_hunted_X2_gather : GoodIn wsX2_hunted wsX2_gather := goodIn_r _ [6, 7, 8, 9, 10, 5, 11, 12, 13, 14, 15, 16, 17, 18, 19, 20, 21, 22, 23, 24, 25, 26, 27, 28, 29, 30, 31, 32, 33, 80, 81, 82, 83, 84, 85, 86, 87] (by decide +kernel) (by decide +kernel)
set_option maxRecDepth 20000 in
theorem gX2_hunted_X2_gather : GoodIn wsX2_hunted (wsV RX2 84 RX2 yX2_gather wsX2_gather) := goodIn_app (goodIn_of _ (by decide +kernel)) ggX2_hunted_X2_gather
set_option maxRecDepth 20000 in
theorem ggX2_hunted_X2_partingTrial : GoodIn wsX2_hunted wsX2_partingTrial := goodIn_r _ [37, 8, 38, 39, 40, 5, 41, 7, 25, 26, 42, 43, 44, 45, 46, 47, 48, 49, 50, 51, 52, 53, 54, 55, 56, 57, 58, 59, 60, 61, 62, 63, 64, 65, 66, 12, 13, 14, 15, 16, 17, 18, 19, 20, 27, 28, 29, 30, 31, 32, 33, 67, 68, 69, 80, 81, 82, 83, 84, 85, 86, 87] (by decide +kernel) (by decide +kernel)
set_option maxRecDepth 20000 in
theorem gX2_hunted_X2_partingTrial : GoodIn wsX2_hunted (wsV RX2 104 RX2 yX2_partingTrial wsX2_partingTrial) := goodIn_app (goodIn_of _ (by decide +kernel)) ggX2_hunted_X2_partingTrial
set_option maxRecDepth 20000 in
theorem ggX2_hunted_X2_outcomeOf : GoodIn wsX2_hunted wsX2_outcomeOf := goodIn_r _ [72, 73, 74, 5, 75, 46, 47, 48, 49, 50, 51, 61, 62, 63, 64, 65, 44, 66, 12, 13, 14, 15, 16, 17, 18, 19, 20, 52, 53, 54, 55, 56, 57, 58, 59, 60, 67, 68, 69] (by decide +kernel) (by decide +kernel)
set_option maxRecDepth 20000 in
theorem gX2_hunted_X2_outcomeOf : GoodIn wsX2_hunted (va_wsS RX2 108 yX2_outcomeOf wsX2_outcomeOf) := goodIn_app (goodIn_of _ (by decide +kernel)) ggX2_hunted_X2_outcomeOf
set_option maxRecDepth 20000 in
theorem ggX2_hunted_X2_narrow : GoodIn wsX2_hunted wsX2_narrow := goodIn_r _ [79, 7, 8, 25, 26, 73, 74, 5, 75, 46, 47, 48, 49, 50, 51, 61, 62, 63, 64, 65, 44, 66, 12, 13, 14, 15, 16, 17, 18, 19, 20, 52, 53, 54, 55, 56, 57, 58, 59, 60, 67, 68, 69, 21, 22, 23, 24, 27, 28, 29, 30, 31, 32, 33, 80, 81, 82, 83, 84, 85, 86, 87] (by decide +kernel) (by decide +kernel)
set_option maxRecDepth 20000 in
theorem gX2_hunted_X2_narrow : GoodIn wsX2_hunted (wsV RX2 91 RX2 yX2_narrow wsX2_narrow) := goodIn_app (goodIn_of _ (by decide +kernel)) ggX2_hunted_X2_narrow
theorem dX2_hunted_0 : decode cX2_hunted 0 = .ok (.aload_n 0, 1) := by decide +kernel
theorem dX2_hunted_1 : decode cX2_hunted 1 = .ok (.iload_n 2, 1) := by decide +kernel
theorem dX2_hunted_2 : decode cX2_hunted 2 = .ok (.invokevirtual 84, 3) := by decide +kernel
theorem dX2_hunted_5 : decode cX2_hunted 5 = .ok (.aload_n 0, 1) := by decide +kernel
theorem dX2_hunted_6 : decode cX2_hunted 6 = .ok (.bipush (-2), 2) := by decide +kernel
theorem dX2_hunted_8 : decode cX2_hunted 8 = .ok (.putfield 101, 3) := by decide +kernel
theorem dX2_hunted_11 : decode cX2_hunted 11 = .ok (.iconst 0, 1) := by decide +kernel
theorem dX2_hunted_12 : decode cX2_hunted 12 = .ok (.istore_n 3, 1) := by decide +kernel
theorem dX2_hunted_13 : decode cX2_hunted 13 = .ok (.iload_n 3, 1) := by decide +kernel
theorem dX2_hunted_14 : decode cX2_hunted 14 = .ok (.bipush 20, 2) := by decide +kernel
theorem dX2_hunted_16 : decode cX2_hunted 16 = .ok (.if_icmp .ge 42, 3) := by decide +kernel
theorem dX2_hunted_19 : decode cX2_hunted 19 = .ok (.aload_n 0, 1) := by decide +kernel
theorem dX2_hunted_20 : decode cX2_hunted 20 = .ok (.invokevirtual 104, 3) := by decide +kernel
theorem dX2_hunted_23 : decode cX2_hunted 23 = .ok (.istore 4, 2) := by decide +kernel
theorem dX2_hunted_25 : decode cX2_hunted 25 = .ok (.iload 4, 2) := by decide +kernel
theorem dX2_hunted_27 : decode cX2_hunted 27 = .ok (.bipush (-4), 2) := by decide +kernel
theorem dX2_hunted_29 : decode cX2_hunted 29 = .ok (.if_icmp .ne 5, 3) := by decide +kernel
theorem dX2_hunted_32 : decode cX2_hunted 32 = .ok (.iload_n 3, 1) := by decide +kernel
theorem dX2_hunted_33 : decode cX2_hunted 33 = .ok (.ireturn, 1) := by decide +kernel
theorem dX2_hunted_34 : decode cX2_hunted 34 = .ok (.aload_n 0, 1) := by decide +kernel
theorem dX2_hunted_35 : decode cX2_hunted 35 = .ok (.iload 4, 2) := by decide +kernel
theorem dX2_hunted_37 : decode cX2_hunted 37 = .ok (.iload_n 1, 1) := by decide +kernel
theorem dX2_hunted_38 : decode cX2_hunted 38 = .ok (.iload 4, 2) := by decide +kernel
theorem dX2_hunted_40 : decode cX2_hunted 40 = .ok (.invokestatic 108, 3) := by decide +kernel
theorem dX2_hunted_43 : decode cX2_hunted 43 = .ok (.invokevirtual 91, 3) := by decide +kernel
theorem dX2_hunted_46 : decode cX2_hunted 46 = .ok (.aload_n 0, 1) := by decide +kernel
theorem dX2_hunted_47 : decode cX2_hunted 47 = .ok (.iload 4, 2) := by decide +kernel
theorem dX2_hunted_49 : decode cX2_hunted 49 = .ok (.putfield 101, 3) := by decide +kernel
theorem dX2_hunted_52 : decode cX2_hunted 52 = .ok (.iinc 3 1, 3) := by decide +kernel
theorem dX2_hunted_55 : decode cX2_hunted 55 = .ok (.goto (-42), 3) := by decide +kernel
theorem dX2_hunted_58 : decode cX2_hunted 58 = .ok (.bipush 20, 2) := by decide +kernel
theorem dX2_hunted_60 : decode cX2_hunted 60 = .ok (.ireturn, 1) := by decide +kernel
theorem dX3_init_0 : decode cX3_init 0 = .ok (.aload_n 0, 1) := by decide +kernel
theorem dX3_init_1 : decode cX3_init 1 = .ok (.invokespecial 3, 3) := by decide +kernel
theorem dX3_init_4 : decode cX3_init 4 = .ok (.aload_n 0, 1) := by decide +kernel
theorem dX3_init_5 : decode cX3_init 5 = .ok (.bipush 8, 2) := by decide +kernel
theorem dX3_init_7 : decode cX3_init 7 = .ok (.newarray .int, 2) := by decide +kernel
theorem dX3_init_9 : decode cX3_init 9 = .ok (.putfield 9, 3) := by decide +kernel
theorem dX3_init_12 : decode cX3_init 12 = .ok (.return_, 1) := by decide +kernel
set_option maxRecDepth 20000 in
theorem ggX3_measures_X1_sumOfFeeds : GoodIn wsX3_measures wsX1_sumOfFeeds := goodIn_r _ [15, 16, 17, 23, 24, 25] (by decide +kernel) (by decide +kernel)
set_option maxRecDepth 20000 in
theorem gX3_measures_X1_sumOfFeeds : GoodIn wsX3_measures (wsV RX3 15 RX1 yX1_sumOfFeeds wsX1_sumOfFeeds) := goodIn_app (goodIn_of _ (by decide +kernel)) ggX3_measures_X1_sumOfFeeds
theorem dX3_measures_0 : decode cX3_measures 0 = .ok (.aload_n 2, 1) := by decide +kernel
theorem dX3_measures_1 : decode cX3_measures 1 = .ok (.invokevirtual 15, 3) := by decide +kernel
theorem dX3_measures_4 : decode cX3_measures 4 = .ok (.istore_n 3, 1) := by decide +kernel
theorem dX3_measures_5 : decode cX3_measures 5 = .ok (.iload_n 1, 1) := by decide +kernel
theorem dX3_measures_6 : decode cX3_measures 6 = .ok (.ifCond .lt 16, 3) := by decide +kernel
theorem dX3_measures_9 : decode cX3_measures 9 = .ok (.iload_n 1, 1) := by decide +kernel
theorem dX3_measures_10 : decode cX3_measures 10 = .ok (.aload_n 0, 1) := by decide +kernel
theorem dX3_measures_11 : decode cX3_measures 11 = .ok (.getfield 21, 3) := by decide +kernel
theorem dX3_measures_14 : decode cX3_measures 14 = .ok (.if_icmp .ge 8, 3) := by decide +kernel
theorem dX3_measures_17 : decode cX3_measures 17 = .ok (.iload_n 3, 1) := by decide +kernel
theorem dX3_measures_18 : decode cX3_measures 18 = .ok (.iconst 1, 1) := by decide +kernel
theorem dX3_measures_19 : decode cX3_measures 19 = .ok (.if_icmp .ge 5, 3) := by decide +kernel
theorem dX3_measures_22 : decode cX3_measures 22 = .ok (.iconst 0, 1) := by decide +kernel
theorem dX3_measures_23 : decode cX3_measures 23 = .ok (.ireturn, 1) := by decide +kernel
theorem dX3_measures_24 : decode cX3_measures 24 = .ok (.aload_n 0, 1) := by decide +kernel
theorem dX3_measures_25 : decode cX3_measures 25 = .ok (.getfield 9, 3) := by decide +kernel
theorem dX3_measures_28 : decode cX3_measures 28 = .ok (.iload_n 1, 1) := by decide +kernel
theorem dX3_measures_29 : decode cX3_measures 29 = .ok (.iaload, 1) := by decide +kernel
theorem dX3_measures_30 : decode cX3_measures 30 = .ok (.istore 4, 2) := by decide +kernel
theorem dX3_measures_32 : decode cX3_measures 32 = .ok (.aload_n 0, 1) := by decide +kernel
theorem dX3_measures_33 : decode cX3_measures 33 = .ok (.iconst 1, 1) := by decide +kernel
theorem dX3_measures_34 : decode cX3_measures 34 = .ok (.iload 4, 2) := by decide +kernel
theorem dX3_measures_36 : decode cX3_measures 36 = .ok (.iload_n 3, 1) := by decide +kernel
theorem dX3_measures_37 : decode cX3_measures 37 = .ok (.idiv, 1) := by decide +kernel
theorem dX3_measures_38 : decode cX3_measures 38 = .ok (.invokestatic 25, 3) := by decide +kernel
theorem dX3_measures_41 : decode cX3_measures 41 = .ok (.putfield 31, 3) := by decide +kernel
theorem dX3_measures_44 : decode cX3_measures 44 = .ok (.iload 4, 2) := by decide +kernel
theorem dX3_measures_46 : decode cX3_measures 46 = .ok (.aload_n 0, 1) := by decide +kernel
theorem dX3_measures_47 : decode cX3_measures 47 = .ok (.getfield 31, 3) := by decide +kernel
theorem dX3_measures_50 : decode cX3_measures 50 = .ok (.iload_n 3, 1) := by decide +kernel
theorem dX3_measures_51 : decode cX3_measures 51 = .ok (.imul, 1) := by decide +kernel
theorem dX3_measures_52 : decode cX3_measures 52 = .ok (.isub, 1) := by decide +kernel
theorem dX3_measures_53 : decode cX3_measures 53 = .ok (.aload_n 0, 1) := by decide +kernel
theorem dX3_measures_54 : decode cX3_measures 54 = .ok (.getfield 31, 3) := by decide +kernel
theorem dX3_measures_57 : decode cX3_measures 57 = .ok (.iconst 1, 1) := by decide +kernel
theorem dX3_measures_58 : decode cX3_measures 58 = .ok (.iadd, 1) := by decide +kernel
theorem dX3_measures_59 : decode cX3_measures 59 = .ok (.iload_n 3, 1) := by decide +kernel
theorem dX3_measures_60 : decode cX3_measures 60 = .ok (.imul, 1) := by decide +kernel
theorem dX3_measures_61 : decode cX3_measures 61 = .ok (.iload 4, 2) := by decide +kernel
theorem dX3_measures_63 : decode cX3_measures 63 = .ok (.isub, 1) := by decide +kernel
theorem dX3_measures_64 : decode cX3_measures 64 = .ok (.if_icmp .le 13, 3) := by decide +kernel
theorem dX3_measures_67 : decode cX3_measures 67 = .ok (.aload_n 0, 1) := by decide +kernel
theorem dX3_measures_68 : decode cX3_measures 68 = .ok (.dup, 1) := by decide +kernel
theorem dX3_measures_69 : decode cX3_measures 69 = .ok (.getfield 31, 3) := by decide +kernel
theorem dX3_measures_72 : decode cX3_measures 72 = .ok (.iconst 1, 1) := by decide +kernel
theorem dX3_measures_73 : decode cX3_measures 73 = .ok (.iadd, 1) := by decide +kernel
theorem dX3_measures_74 : decode cX3_measures 74 = .ok (.putfield 31, 3) := by decide +kernel
theorem dX3_measures_77 : decode cX3_measures 77 = .ok (.aload_n 0, 1) := by decide +kernel
theorem dX3_measures_78 : decode cX3_measures 78 = .ok (.iload 4, 2) := by decide +kernel
theorem dX3_measures_80 : decode cX3_measures 80 = .ok (.aload_n 0, 1) := by decide +kernel
theorem dX3_measures_81 : decode cX3_measures 81 = .ok (.getfield 31, 3) := by decide +kernel
theorem dX3_measures_84 : decode cX3_measures 84 = .ok (.iload_n 3, 1) := by decide +kernel
theorem dX3_measures_85 : decode cX3_measures 85 = .ok (.imul, 1) := by decide +kernel
theorem dX3_measures_86 : decode cX3_measures 86 = .ok (.isub, 1) := by decide +kernel
theorem dX3_measures_87 : decode cX3_measures 87 = .ok (.putfield 34, 3) := by decide +kernel
theorem dX3_measures_90 : decode cX3_measures 90 = .ok (.aload_n 0, 1) := by decide +kernel
theorem dX3_measures_91 : decode cX3_measures 91 = .ok (.aload_n 0, 1) := by decide +kernel
theorem dX3_measures_92 : decode cX3_measures 92 = .ok (.getfield 31, 3) := by decide +kernel
theorem dX3_measures_95 : decode cX3_measures 95 = .ok (.aload_n 2, 1) := by decide +kernel
theorem dX3_measures_96 : decode cX3_measures 96 = .ok (.getfield 37, 3) := by decide +kernel
theorem dX3_measures_99 : decode cX3_measures 99 = .ok (.imul, 1) := by decide +kernel
theorem dX3_measures_100 : decode cX3_measures 100 = .ok (.putfield 40, 3) := by decide +kernel
theorem dX3_measures_103 : decode cX3_measures 103 = .ok (.iconst 1, 1) := by decide +kernel
theorem dX3_measures_104 : decode cX3_measures 104 = .ok (.ireturn, 1) := by decide +kernel
set_option maxRecDepth 20000 in
theorem ggX3_spread_J9_floorDiv_7cf53 : GoodIn wsX3_spread wsJ9_floorDiv_7cf53 := goodIn_r _ [6] (by decide +kernel) (by decide +kernel)
set_option maxRecDepth 20000 in
theorem gX3_spread_J9_floorDiv_7cf53 : GoodIn wsX3_spread (va_wsS RX3 41 yJ9_floorDiv_7cf53 wsJ9_floorDiv_7cf53) := goodIn_app (goodIn_of _ (by decide +kernel)) ggX3_spread_J9_floorDiv_7cf53
theorem dX3_spread_0 : decode cX3_spread 0 = .ok (.aload_n 0, 1) := by decide +kernel
theorem dX3_spread_1 : decode cX3_spread 1 = .ok (.getfield 40, 3) := by decide +kernel
theorem dX3_spread_4 : decode cX3_spread 4 = .ok (.iconst 1, 1) := by decide +kernel
theorem dX3_spread_5 : decode cX3_spread 5 = .ok (.if_icmp .ge 7, 3) := by decide +kernel
theorem dX3_spread_8 : decode cX3_spread 8 = .ok (.iconst 0, 1) := by decide +kernel
theorem dX3_spread_9 : decode cX3_spread 9 = .ok (.goto 16, 3) := by decide +kernel
theorem dX3_spread_12 : decode cX3_spread 12 = .ok (.aload_n 0, 1) := by decide +kernel
theorem dX3_spread_13 : decode cX3_spread 13 = .ok (.getfield 34, 3) := by decide +kernel
theorem dX3_spread_16 : decode cX3_spread 16 = .ok (.iload_n 1, 1) := by decide +kernel
theorem dX3_spread_17 : decode cX3_spread 17 = .ok (.imul, 1) := by decide +kernel
theorem dX3_spread_18 : decode cX3_spread 18 = .ok (.aload_n 0, 1) := by decide +kernel
theorem dX3_spread_19 : decode cX3_spread 19 = .ok (.getfield 40, 3) := by decide +kernel
theorem dX3_spread_22 : decode cX3_spread 22 = .ok (.invokestatic 41, 3) := by decide +kernel
theorem dX3_spread_25 : decode cX3_spread 25 = .ok (.ireturn, 1) := by decide +kernel
set_option maxRecDepth 20000 in
theorem ggX3_feedOf_X3_spread : GoodIn wsX3_feedOf wsX3_spread := goodIn_r _ [7, 8, 9, 10, 11, 12, 13, 17, 18, 19, 20, 21] (by decide +kernel) (by decide +kernel)
set_option maxRecDepth 20000 in
theorem gX3_feedOf_X3_spread : GoodIn wsX3_feedOf (wsV RX3 47 RX3 yX3_spread wsX3_spread) := goodIn_app (goodIn_of _ (by decide +kernel)) ggX3_feedOf_X3_spread
theorem dX3_feedOf_0 : decode cX3_feedOf 0 = .ok (.aload_n 1, 1) := by decide +kernel
theorem dX3_feedOf_1 : decode cX3_feedOf 1 = .ok (.getfield 37, 3) := by decide +kernel
theorem dX3_feedOf_4 : decode cX3_feedOf 4 = .ok (.iconst 1, 1) := by decide +kernel
theorem dX3_feedOf_5 : decode cX3_feedOf 5 = .ok (.if_icmp .ge 7, 3) := by decide +kernel
theorem dX3_feedOf_8 : decode cX3_feedOf 8 = .ok (.iconst 0, 1) := by decide +kernel
theorem dX3_feedOf_9 : decode cX3_feedOf 9 = .ok (.goto 28, 3) := by decide +kernel
theorem dX3_feedOf_12 : decode cX3_feedOf 12 = .ok (.aload_n 1, 1) := by decide +kernel
theorem dX3_feedOf_13 : decode cX3_feedOf 13 = .ok (.getfield 44, 3) := by decide +kernel
theorem dX3_feedOf_16 : decode cX3_feedOf 16 = .ok (.iload_n 2, 1) := by decide +kernel
theorem dX3_feedOf_17 : decode cX3_feedOf 17 = .ok (.aload_n 1, 1) := by decide +kernel
theorem dX3_feedOf_18 : decode cX3_feedOf 18 = .ok (.getfield 37, 3) := by decide +kernel
theorem dX3_feedOf_21 : decode cX3_feedOf 21 = .ok (.irem, 1) := by decide +kernel
theorem dX3_feedOf_22 : decode cX3_feedOf 22 = .ok (.iaload, 1) := by decide +kernel
theorem dX3_feedOf_23 : decode cX3_feedOf 23 = .ok (.aload_n 0, 1) := by decide +kernel
theorem dX3_feedOf_24 : decode cX3_feedOf 24 = .ok (.iload_n 2, 1) := by decide +kernel
theorem dX3_feedOf_25 : decode cX3_feedOf 25 = .ok (.iconst 1, 1) := by decide +kernel
theorem dX3_feedOf_26 : decode cX3_feedOf 26 = .ok (.iadd, 1) := by decide +kernel
theorem dX3_feedOf_27 : decode cX3_feedOf 27 = .ok (.invokevirtual 47, 3) := by decide +kernel
theorem dX3_feedOf_30 : decode cX3_feedOf 30 = .ok (.iadd, 1) := by decide +kernel
theorem dX3_feedOf_31 : decode cX3_feedOf 31 = .ok (.aload_n 0, 1) := by decide +kernel
theorem dX3_feedOf_32 : decode cX3_feedOf 32 = .ok (.iload_n 2, 1) := by decide +kernel
theorem dX3_feedOf_33 : decode cX3_feedOf 33 = .ok (.invokevirtual 47, 3) := by decide +kernel
theorem dX3_feedOf_36 : decode cX3_feedOf 36 = .ok (.isub, 1) := by decide +kernel
theorem dX3_feedOf_37 : decode cX3_feedOf 37 = .ok (.ireturn, 1) := by decide +kernel
theorem dX3_greatestChange_0 : decode cX3_greatestChange 0 = .ok (.aload_n 0, 1) := by decide +kernel
theorem dX3_greatestChange_1 : decode cX3_greatestChange 1 = .ok (.getfield 40, 3) := by decide +kernel
theorem dX3_greatestChange_4 : decode cX3_greatestChange 4 = .ok (.iconst 1, 1) := by decide +kernel
theorem dX3_greatestChange_5 : decode cX3_greatestChange 5 = .ok (.if_icmp .ge 7, 3) := by decide +kernel
theorem dX3_greatestChange_8 : decode cX3_greatestChange 8 = .ok (.iconst 0, 1) := by decide +kernel
theorem dX3_greatestChange_9 : decode cX3_greatestChange 9 = .ok (.goto 22, 3) := by decide +kernel
theorem dX3_greatestChange_12 : decode cX3_greatestChange 12 = .ok (.aload_n 0, 1) := by decide +kernel
theorem dX3_greatestChange_13 : decode cX3_greatestChange 13 = .ok (.getfield 34, 3) := by decide +kernel
theorem dX3_greatestChange_16 : decode cX3_greatestChange 16 = .ok (.invokestatic 51, 3) := by decide +kernel
theorem dX3_greatestChange_19 : decode cX3_greatestChange 19 = .ok (.aload_n 0, 1) := by decide +kernel
theorem dX3_greatestChange_20 : decode cX3_greatestChange 20 = .ok (.getfield 40, 3) := by decide +kernel
theorem dX3_greatestChange_23 : decode cX3_greatestChange 23 = .ok (.iadd, 1) := by decide +kernel
theorem dX3_greatestChange_24 : decode cX3_greatestChange 24 = .ok (.iconst 1, 1) := by decide +kernel
theorem dX3_greatestChange_25 : decode cX3_greatestChange 25 = .ok (.isub, 1) := by decide +kernel
theorem dX3_greatestChange_26 : decode cX3_greatestChange 26 = .ok (.aload_n 0, 1) := by decide +kernel
theorem dX3_greatestChange_27 : decode cX3_greatestChange 27 = .ok (.getfield 40, 3) := by decide +kernel
theorem dX3_greatestChange_30 : decode cX3_greatestChange 30 = .ok (.idiv, 1) := by decide +kernel
theorem dX3_greatestChange_31 : decode cX3_greatestChange 31 = .ok (.ireturn, 1) := by decide +kernel
set_option maxRecDepth 20000 in
theorem ggX3_fits_X3_feedOf : GoodIn wsX3_fits wsX3_feedOf := goodIn_r _ [6, 7, 8, 9, 10, 11, 5, 12, 1, 13, 14, 15, 16, 17, 26, 27, 28, 21, 22, 23, 24, 25] (by decide +kernel) (by decide +kernel)
set_option maxRecDepth 20000 in
theorem gX3_fits_X3_feedOf : GoodIn wsX3_fits (wsV RX3 54 RX3 yX3_feedOf wsX3_feedOf) := goodIn_app (goodIn_of _ (by decide +kernel)) ggX3_fits_X3_feedOf
set_option maxRecDepth 20000 in
theorem ggX3_fits_X10_isWithin : GoodIn wsX3_fits wsX10_isWithin := goodIn_r _ [20] (by decide +kernel) (by decide +kernel)
set_option maxRecDepth 20000 in
theorem gX3_fits_X10_isWithin_n58 : GoodIn wsX3_fits (wsX10_isWithin) := ggX3_fits_X10_isWithin
theorem dX3_fits_0 : decode cX3_fits 0 = .ok (.iconst 0, 1) := by decide +kernel
theorem dX3_fits_1 : decode cX3_fits 1 = .ok (.istore_n 2, 1) := by decide +kernel
theorem dX3_fits_2 : decode cX3_fits 2 = .ok (.iload_n 2, 1) := by decide +kernel
theorem dX3_fits_3 : decode cX3_fits 3 = .ok (.aload_n 0, 1) := by decide +kernel
theorem dX3_fits_4 : decode cX3_fits 4 = .ok (.getfield 40, 3) := by decide +kernel
theorem dX3_fits_7 : decode cX3_fits 7 = .ok (.if_icmp .ge 25, 3) := by decide +kernel
theorem dX3_fits_10 : decode cX3_fits 10 = .ok (.aload_n 0, 1) := by decide +kernel
theorem dX3_fits_11 : decode cX3_fits 11 = .ok (.aload_n 1, 1) := by decide +kernel
theorem dX3_fits_12 : decode cX3_fits 12 = .ok (.iload_n 2, 1) := by decide +kernel
theorem dX3_fits_13 : decode cX3_fits 13 = .ok (.invokevirtual 54, 3) := by decide +kernel
theorem dX3_fits_16 : decode cX3_fits 16 = .ok (.bipush 12, 2) := by decide +kernel
theorem dX3_fits_18 : decode cX3_fits 18 = .ok (.invokestatic 58, 3) := by decide +kernel
theorem dX3_fits_21 : decode cX3_fits 21 = .ok (.ifCond .ne 5, 3) := by decide +kernel
theorem dX3_fits_24 : decode cX3_fits 24 = .ok (.iconst 0, 1) := by decide +kernel
theorem dX3_fits_25 : decode cX3_fits 25 = .ok (.ireturn, 1) := by decide +kernel
theorem dX3_fits_26 : decode cX3_fits 26 = .ok (.iinc 2 1, 3) := by decide +kernel
theorem dX3_fits_29 : decode cX3_fits 29 = .ok (.goto (-27), 3) := by decide +kernel
theorem dX3_fits_32 : decode cX3_fits 32 = .ok (.iconst 1, 1) := by decide +kernel
theorem dX3_fits_33 : decode cX3_fits 33 = .ok (.ireturn, 1) := by decide +kernel
set_option maxRecDepth 20000 in
theorem ggX3_judged_X3_greatestChange : GoodIn wsX3_judged wsX3_greatestChange := goodIn_r _ [11, 2, 12, 13, 14, 15, 16, 23, 24, 25, 26, 27] (by decide +kernel) (by decide +kernel)
set_option maxRecDepth 20000 in
theorem gX3_judged_X3_greatestChange : GoodIn wsX3_judged (wsV RX3 62 RX3 yX3_greatestChange wsX3_greatestChange) := goodIn_app (goodIn_of _ (by decide +kernel)) ggX3_judged_X3_greatestChange
set_option maxRecDepth 20000 in
theorem ggX3_judged_X10_isWithin : GoodIn wsX3_judged wsX10_isWithin := goodIn_r _ [19] (by decide +kernel) (by decide +kernel)
set_option maxRecDepth 20000 in
theorem gX3_judged_X10_isWithin_n58 : GoodIn wsX3_judged (wsX10_isWithin) := ggX3_judged_X10_isWithin
theorem dX3_judged_0 : decode cX3_judged 0 = .ok (.aload_n 3, 1) := by decide +kernel
theorem dX3_judged_1 : decode cX3_judged 1 = .ok (.getfield 37, 3) := by decide +kernel
theorem dX3_judged_4 : decode cX3_judged 4 = .ok (.iconst 1, 1) := by decide +kernel
theorem dX3_judged_5 : decode cX3_judged 5 = .ok (.if_icmp .ge 6, 3) := by decide +kernel
theorem dX3_judged_8 : decode cX3_judged 8 = .ok (.bipush (-3), 2) := by decide +kernel
theorem dX3_judged_10 : decode cX3_judged 10 = .ok (.ireturn, 1) := by decide +kernel
theorem dX3_judged_11 : decode cX3_judged 11 = .ok (.aload_n 0, 1) := by decide +kernel
theorem dX3_judged_12 : decode cX3_judged 12 = .ok (.invokevirtual 62, 3) := by decide +kernel
theorem dX3_judged_15 : decode cX3_judged 15 = .ok (.istore 4, 2) := by decide +kernel
theorem dX3_judged_17 : decode cX3_judged 17 = .ok (.iconst 0, 1) := by decide +kernel
theorem dX3_judged_18 : decode cX3_judged 18 = .ok (.istore 5, 2) := by decide +kernel
theorem dX3_judged_20 : decode cX3_judged 20 = .ok (.iconst 0, 1) := by decide +kernel
theorem dX3_judged_21 : decode cX3_judged 21 = .ok (.istore 6, 2) := by decide +kernel
theorem dX3_judged_23 : decode cX3_judged 23 = .ok (.iload 6, 2) := by decide +kernel
theorem dX3_judged_25 : decode cX3_judged 25 = .ok (.aload_n 0, 1) := by decide +kernel
theorem dX3_judged_26 : decode cX3_judged 26 = .ok (.getfield 40, 3) := by decide +kernel
theorem dX3_judged_29 : decode cX3_judged 29 = .ok (.if_icmp .ge 74, 3) := by decide +kernel
theorem dX3_judged_32 : decode cX3_judged 32 = .ok (.iload 6, 2) := by decide +kernel
theorem dX3_judged_34 : decode cX3_judged 34 = .ok (.aload_n 1, 1) := by decide +kernel
theorem dX3_judged_35 : decode cX3_judged 35 = .ok (.getfield 65, 3) := by decide +kernel
theorem dX3_judged_38 : decode cX3_judged 38 = .ok (.if_icmp .lt 6, 3) := by decide +kernel
theorem dX3_judged_41 : decode cX3_judged 41 = .ok (.bipush (-13), 2) := by decide +kernel
theorem dX3_judged_43 : decode cX3_judged 43 = .ok (.ireturn, 1) := by decide +kernel
theorem dX3_judged_44 : decode cX3_judged 44 = .ok (.aload_n 1, 1) := by decide +kernel
theorem dX3_judged_45 : decode cX3_judged 45 = .ok (.getfield 70, 3) := by decide +kernel
theorem dX3_judged_48 : decode cX3_judged 48 = .ok (.iload 6, 2) := by decide +kernel
theorem dX3_judged_50 : decode cX3_judged 50 = .ok (.laload, 1) := by decide +kernel
theorem dX3_judged_51 : decode cX3_judged 51 = .ok (.l2i, 1) := by decide +kernel
theorem dX3_judged_52 : decode cX3_judged 52 = .ok (.istore 7, 2) := by decide +kernel
theorem dX3_judged_54 : decode cX3_judged 54 = .ok (.iload 7, 2) := by decide +kernel
theorem dX3_judged_56 : decode cX3_judged 56 = .ok (.bipush 12, 2) := by decide +kernel
theorem dX3_judged_58 : decode cX3_judged 58 = .ok (.invokestatic 58, 3) := by decide +kernel
theorem dX3_judged_61 : decode cX3_judged 61 = .ok (.ifCond .eq 26, 3) := by decide +kernel
theorem dX3_judged_64 : decode cX3_judged 64 = .ok (.iload 7, 2) := by decide +kernel
theorem dX3_judged_66 : decode cX3_judged 66 = .ok (.aload_n 3, 1) := by decide +kernel
theorem dX3_judged_67 : decode cX3_judged 67 = .ok (.getfield 44, 3) := by decide +kernel
theorem dX3_judged_70 : decode cX3_judged 70 = .ok (.iload 6, 2) := by decide +kernel
theorem dX3_judged_72 : decode cX3_judged 72 = .ok (.aload_n 3, 1) := by decide +kernel
theorem dX3_judged_73 : decode cX3_judged 73 = .ok (.getfield 37, 3) := by decide +kernel
theorem dX3_judged_76 : decode cX3_judged 76 = .ok (.irem, 1) := by decide +kernel
theorem dX3_judged_77 : decode cX3_judged 77 = .ok (.iaload, 1) := by decide +kernel
theorem dX3_judged_78 : decode cX3_judged 78 = .ok (.isub, 1) := by decide +kernel
theorem dX3_judged_79 : decode cX3_judged 79 = .ok (.iload 4, 2) := by decide +kernel
theorem dX3_judged_81 : decode cX3_judged 81 = .ok (.invokestatic 58, 3) := by decide +kernel
theorem dX3_judged_84 : decode cX3_judged 84 = .ok (.ifCond .ne 6, 3) := by decide +kernel
theorem dX3_judged_87 : decode cX3_judged 87 = .ok (.iload 6, 2) := by decide +kernel
theorem dX3_judged_89 : decode cX3_judged 89 = .ok (.ireturn, 1) := by decide +kernel
theorem dX3_judged_90 : decode cX3_judged 90 = .ok (.iload 5, 2) := by decide +kernel
theorem dX3_judged_92 : decode cX3_judged 92 = .ok (.iload 7, 2) := by decide +kernel
theorem dX3_judged_94 : decode cX3_judged 94 = .ok (.iadd, 1) := by decide +kernel
theorem dX3_judged_95 : decode cX3_judged 95 = .ok (.istore 5, 2) := by decide +kernel
theorem dX3_judged_97 : decode cX3_judged 97 = .ok (.iinc 6 1, 3) := by decide +kernel
theorem dX3_judged_100 : decode cX3_judged 100 = .ok (.goto (-77), 3) := by decide +kernel
theorem dX3_judged_103 : decode cX3_judged 103 = .ok (.iload 5, 2) := by decide +kernel
theorem dX3_judged_105 : decode cX3_judged 105 = .ok (.aload_n 0, 1) := by decide +kernel
theorem dX3_judged_106 : decode cX3_judged 106 = .ok (.getfield 9, 3) := by decide +kernel
theorem dX3_judged_109 : decode cX3_judged 109 = .ok (.iload_n 2, 1) := by decide +kernel
theorem dX3_judged_110 : decode cX3_judged 110 = .ok (.iaload, 1) := by decide +kernel
theorem dX3_judged_111 : decode cX3_judged 111 = .ok (.if_icmp .ne 9, 3) := by decide +kernel
theorem dX3_judged_114 : decode cX3_judged 114 = .ok (.sipush 9999, 3) := by decide +kernel
theorem dX3_judged_117 : decode cX3_judged 117 = .ok (.goto 7, 3) := by decide +kernel
theorem dX3_judged_120 : decode cX3_judged 120 = .ok (.aload_n 0, 1) := by decide +kernel
theorem dX3_judged_121 : decode cX3_judged 121 = .ok (.getfield 40, 3) := by decide +kernel
theorem dX3_judged_124 : decode cX3_judged 124 = .ok (.ireturn, 1) := by decide +kernel
theorem dX4_init_0 : decode cX4_init 0 = .ok (.aload_n 0, 1) := by decide +kernel
theorem dX4_init_1 : decode cX4_init 1 = .ok (.invokespecial 3, 3) := by decide +kernel
theorem dX4_init_4 : decode cX4_init 4 = .ok (.aload_n 0, 1) := by decide +kernel
theorem dX4_init_5 : decode cX4_init 5 = .ok (.bipush 20, 2) := by decide +kernel
theorem dX4_init_7 : decode cX4_init 7 = .ok (.newarray .int, 2) := by decide +kernel
theorem dX4_init_9 : decode cX4_init 9 = .ok (.putfield 9, 3) := by decide +kernel
theorem dX4_init_12 : decode cX4_init 12 = .ok (.aload_n 0, 1) := by decide +kernel
theorem dX4_init_13 : decode cX4_init 13 = .ok (.bipush 20, 2) := by decide +kernel
theorem dX4_init_15 : decode cX4_init 15 = .ok (.newarray .int, 2) := by decide +kernel
theorem dX4_init_17 : decode cX4_init 17 = .ok (.putfield 15, 3) := by decide +kernel
theorem dX4_init_20 : decode cX4_init 20 = .ok (.return_, 1) := by decide +kernel
set_option maxRecDepth 20000 in
theorem ggX4_isStep_X10_isShelf : GoodIn wsX4_isStep wsX10_isShelf := goodIn_r _ [3] (by decide +kernel) (by decide +kernel)
set_option maxRecDepth 20000 in
theorem gX4_isStep_X10_isShelf_n18 : GoodIn wsX4_isStep (wsX10_isShelf) := ggX4_isStep_X10_isShelf
theorem dX4_isStep_0 : decode cX4_isStep 0 = .ok (.iload_n 0, 1) := by decide +kernel
theorem dX4_isStep_1 : decode cX4_isStep 1 = .ok (.tableswitch 80 0 3 #[31, 36, 54, 70], 31) := by decide +kernel
theorem dX4_isStep_32 : decode cX4_isStep 32 = .ok (.iload_n 1, 1) := by decide +kernel
theorem dX4_isStep_33 : decode cX4_isStep 33 = .ok (.invokestatic 18, 3) := by decide +kernel
theorem dX4_isStep_36 : decode cX4_isStep 36 = .ok (.ireturn, 1) := by decide +kernel
theorem dX4_isStep_37 : decode cX4_isStep 37 = .ok (.iload_n 1, 1) := by decide +kernel
theorem dX4_isStep_38 : decode cX4_isStep 38 = .ok (.iconst 1, 1) := by decide +kernel
theorem dX4_isStep_39 : decode cX4_isStep 39 = .ok (.if_icmp .lt 14, 3) := by decide +kernel
theorem dX4_isStep_42 : decode cX4_isStep 42 = .ok (.iload_n 1, 1) := by decide +kernel
theorem dX4_isStep_43 : decode cX4_isStep 43 = .ok (.sipush 200, 3) := by decide +kernel
theorem dX4_isStep_46 : decode cX4_isStep 46 = .ok (.if_icmp .gt 7, 3) := by decide +kernel
theorem dX4_isStep_49 : decode cX4_isStep 49 = .ok (.iconst 1, 1) := by decide +kernel
theorem dX4_isStep_50 : decode cX4_isStep 50 = .ok (.goto 4, 3) := by decide +kernel
theorem dX4_isStep_53 : decode cX4_isStep 53 = .ok (.iconst 0, 1) := by decide +kernel
theorem dX4_isStep_54 : decode cX4_isStep 54 = .ok (.ireturn, 1) := by decide +kernel
theorem dX4_isStep_55 : decode cX4_isStep 55 = .ok (.iload_n 1, 1) := by decide +kernel
theorem dX4_isStep_56 : decode cX4_isStep 56 = .ok (.iconst 1, 1) := by decide +kernel
theorem dX4_isStep_57 : decode cX4_isStep 57 = .ok (.if_icmp .lt 12, 3) := by decide +kernel
theorem dX4_isStep_60 : decode cX4_isStep 60 = .ok (.iload_n 1, 1) := by decide +kernel
theorem dX4_isStep_61 : decode cX4_isStep 61 = .ok (.iconst 3, 1) := by decide +kernel
theorem dX4_isStep_62 : decode cX4_isStep 62 = .ok (.if_icmp .gt 7, 3) := by decide +kernel
theorem dX4_isStep_65 : decode cX4_isStep 65 = .ok (.iconst 1, 1) := by decide +kernel
theorem dX4_isStep_66 : decode cX4_isStep 66 = .ok (.goto 4, 3) := by decide +kernel
theorem dX4_isStep_69 : decode cX4_isStep 69 = .ok (.iconst 0, 1) := by decide +kernel
theorem dX4_isStep_70 : decode cX4_isStep 70 = .ok (.ireturn, 1) := by decide +kernel
theorem dX4_isStep_71 : decode cX4_isStep 71 = .ok (.iload_n 1, 1) := by decide +kernel
theorem dX4_isStep_72 : decode cX4_isStep 72 = .ok (.ifCond .ne 7, 3) := by decide +kernel
theorem dX4_isStep_75 : decode cX4_isStep 75 = .ok (.iconst 1, 1) := by decide +kernel
theorem dX4_isStep_76 : decode cX4_isStep 76 = .ok (.goto 4, 3) := by decide +kernel
theorem dX4_isStep_79 : decode cX4_isStep 79 = .ok (.iconst 0, 1) := by decide +kernel
theorem dX4_isStep_80 : decode cX4_isStep 80 = .ok (.ireturn, 1) := by decide +kernel
theorem dX4_isStep_81 : decode cX4_isStep 81 = .ok (.iconst 0, 1) := by decide +kernel
theorem dX4_isStep_82 : decode cX4_isStep 82 = .ok (.ireturn, 1) := by decide +kernel
theorem dX5_init_0 : decode cX5_init 0 = .ok (.aload_n 0, 1) := by decide +kernel
theorem dX5_init_1 : decode cX5_init 1 = .ok (.invokespecial 3, 3) := by decide +kernel
theorem dX5_init_4 : decode cX5_init 4 = .ok (.aload_n 0, 1) := by decide +kernel
theorem dX5_init_5 : decode cX5_init 5 = .ok (.bipush 24, 2) := by decide +kernel
theorem dX5_init_7 : decode cX5_init 7 = .ok (.newarray .int, 2) := by decide +kernel
theorem dX5_init_9 : decode cX5_init 9 = .ok (.putfield 9, 3) := by decide +kernel
theorem dX5_init_12 : decode cX5_init 12 = .ok (.aload_n 0, 1) := by decide +kernel
theorem dX5_init_13 : decode cX5_init 13 = .ok (.bipush 24, 2) := by decide +kernel
theorem dX5_init_15 : decode cX5_init 15 = .ok (.newarray .int, 2) := by decide +kernel
theorem dX5_init_17 : decode cX5_init 17 = .ok (.putfield 15, 3) := by decide +kernel
theorem dX5_init_20 : decode cX5_init 20 = .ok (.return_, 1) := by decide +kernel
theorem dX5_forget_0 : decode cX5_forget 0 = .ok (.aload_n 0, 1) := by decide +kernel
theorem dX5_forget_1 : decode cX5_forget 1 = .ok (.iconst 0, 1) := by decide +kernel
theorem dX5_forget_2 : decode cX5_forget 2 = .ok (.putfield 18, 3) := by decide +kernel
theorem dX5_forget_5 : decode cX5_forget 5 = .ok (.aload_n 0, 1) := by decide +kernel
theorem dX5_forget_6 : decode cX5_forget 6 = .ok (.iconst 0, 1) := by decide +kernel
theorem dX5_forget_7 : decode cX5_forget 7 = .ok (.putfield 22, 3) := by decide +kernel
theorem dX5_forget_10 : decode cX5_forget 10 = .ok (.return_, 1) := by decide +kernel
theorem dX5_become_0 : decode cX5_become 0 = .ok (.aload_n 1, 1) := by decide +kernel
theorem dX5_become_1 : decode cX5_become 1 = .ok (.getfield 9, 3) := by decide +kernel
theorem dX5_become_4 : decode cX5_become 4 = .ok (.iconst 0, 1) := by decide +kernel
theorem dX5_become_5 : decode cX5_become 5 = .ok (.aload_n 0, 1) := by decide +kernel
theorem dX5_become_6 : decode cX5_become 6 = .ok (.getfield 9, 3) := by decide +kernel
theorem dX5_become_9 : decode cX5_become 9 = .ok (.iconst 0, 1) := by decide +kernel
theorem dX5_become_10 : decode cX5_become 10 = .ok (.bipush 24, 2) := by decide +kernel
theorem dX5_become_12 : decode cX5_become 12 = .ok (.invokestatic 25, 3) := by decide +kernel
theorem dX5_become_15 : decode cX5_become 15 = .ok (.aload_n 1, 1) := by decide +kernel
theorem dX5_become_16 : decode cX5_become 16 = .ok (.getfield 15, 3) := by decide +kernel
theorem dX5_become_19 : decode cX5_become 19 = .ok (.iconst 0, 1) := by decide +kernel
theorem dX5_become_20 : decode cX5_become 20 = .ok (.aload_n 0, 1) := by decide +kernel
theorem dX5_become_21 : decode cX5_become 21 = .ok (.getfield 15, 3) := by decide +kernel
theorem dX5_become_24 : decode cX5_become 24 = .ok (.iconst 0, 1) := by decide +kernel
theorem dX5_become_25 : decode cX5_become 25 = .ok (.bipush 24, 2) := by decide +kernel
theorem dX5_become_27 : decode cX5_become 27 = .ok (.invokestatic 25, 3) := by decide +kernel
theorem dX5_become_30 : decode cX5_become 30 = .ok (.aload_n 0, 1) := by decide +kernel
theorem dX5_become_31 : decode cX5_become 31 = .ok (.aload_n 1, 1) := by decide +kernel
theorem dX5_become_32 : decode cX5_become 32 = .ok (.getfield 18, 3) := by decide +kernel
theorem dX5_become_35 : decode cX5_become 35 = .ok (.putfield 18, 3) := by decide +kernel
theorem dX5_become_38 : decode cX5_become 38 = .ok (.aload_n 0, 1) := by decide +kernel
theorem dX5_become_39 : decode cX5_become 39 = .ok (.aload_n 1, 1) := by decide +kernel
theorem dX5_become_40 : decode cX5_become 40 = .ok (.getfield 22, 3) := by decide +kernel
theorem dX5_become_43 : decode cX5_become 43 = .ok (.putfield 22, 3) := by decide +kernel
theorem dX5_become_46 : decode cX5_become 46 = .ok (.return_, 1) := by decide +kernel
set_option maxRecDepth 20000 in
theorem ggX5_gets_X10_isWithin : GoodIn wsX5_gets wsX10_isWithin := goodIn_r _ [6] (by decide +kernel) (by decide +kernel)
set_option maxRecDepth 20000 in
theorem gX5_gets_X10_isWithin_n31 : GoodIn wsX5_gets (wsX10_isWithin) := ggX5_gets_X10_isWithin
theorem dX5_gets_0 : decode cX5_gets 0 = .ok (.aload_n 0, 1) := by decide +kernel
theorem dX5_gets_1 : decode cX5_gets 1 = .ok (.getfield 18, 3) := by decide +kernel
theorem dX5_gets_4 : decode cX5_gets 4 = .ok (.bipush 24, 2) := by decide +kernel
theorem dX5_gets_6 : decode cX5_gets 6 = .ok (.if_icmp .ge 21, 3) := by decide +kernel
theorem dX5_gets_9 : decode cX5_gets 9 = .ok (.iload_n 1, 1) := by decide +kernel
theorem dX5_gets_10 : decode cX5_gets 10 = .ok (.bipush 12, 2) := by decide +kernel
theorem dX5_gets_12 : decode cX5_gets 12 = .ok (.invokestatic 31, 3) := by decide +kernel
theorem dX5_gets_15 : decode cX5_gets 15 = .ok (.ifCond .eq 12, 3) := by decide +kernel
theorem dX5_gets_18 : decode cX5_gets 18 = .ok (.iload_n 2, 1) := by decide +kernel
theorem dX5_gets_19 : decode cX5_gets 19 = .ok (.bipush 100, 2) := by decide +kernel
theorem dX5_gets_21 : decode cX5_gets 21 = .ok (.invokestatic 31, 3) := by decide +kernel
theorem dX5_gets_24 : decode cX5_gets 24 = .ok (.ifCond .ne 5, 3) := by decide +kernel
theorem dX5_gets_27 : decode cX5_gets 27 = .ok (.iconst 0, 1) := by decide +kernel
theorem dX5_gets_28 : decode cX5_gets 28 = .ok (.ireturn, 1) := by decide +kernel
theorem dX5_gets_29 : decode cX5_gets 29 = .ok (.aload_n 0, 1) := by decide +kernel
theorem dX5_gets_30 : decode cX5_gets 30 = .ok (.getfield 9, 3) := by decide +kernel
theorem dX5_gets_33 : decode cX5_gets 33 = .ok (.aload_n 0, 1) := by decide +kernel
theorem dX5_gets_34 : decode cX5_gets 34 = .ok (.getfield 18, 3) := by decide +kernel
theorem dX5_gets_37 : decode cX5_gets 37 = .ok (.iload_n 1, 1) := by decide +kernel
theorem dX5_gets_38 : decode cX5_gets 38 = .ok (.iastore, 1) := by decide +kernel
theorem dX5_gets_39 : decode cX5_gets 39 = .ok (.aload_n 0, 1) := by decide +kernel
theorem dX5_gets_40 : decode cX5_gets 40 = .ok (.getfield 15, 3) := by decide +kernel
theorem dX5_gets_43 : decode cX5_gets 43 = .ok (.aload_n 0, 1) := by decide +kernel
theorem dX5_gets_44 : decode cX5_gets 44 = .ok (.getfield 18, 3) := by decide +kernel
theorem dX5_gets_47 : decode cX5_gets 47 = .ok (.iload_n 2, 1) := by decide +kernel
theorem dX5_gets_48 : decode cX5_gets 48 = .ok (.iastore, 1) := by decide +kernel
theorem dX5_gets_49 : decode cX5_gets 49 = .ok (.aload_n 0, 1) := by decide +kernel
theorem dX5_gets_50 : decode cX5_gets 50 = .ok (.dup, 1) := by decide +kernel
theorem dX5_gets_51 : decode cX5_gets 51 = .ok (.getfield 18, 3) := by decide +kernel
theorem dX5_gets_54 : decode cX5_gets 54 = .ok (.iconst 1, 1) := by decide +kernel
theorem dX5_gets_55 : decode cX5_gets 55 = .ok (.iadd, 1) := by decide +kernel
theorem dX5_gets_56 : decode cX5_gets 56 = .ok (.putfield 18, 3) := by decide +kernel
theorem dX5_gets_59 : decode cX5_gets 59 = .ok (.iconst 1, 1) := by decide +kernel
theorem dX5_gets_60 : decode cX5_gets 60 = .ok (.ireturn, 1) := by decide +kernel
theorem dX5_nextX_0 : decode cX5_nextX 0 = .ok (.iload_n 1, 1) := by decide +kernel
theorem dX5_nextX_1 : decode cX5_nextX 1 = .ok (.iconst 1, 1) := by decide +kernel
theorem dX5_nextX_2 : decode cX5_nextX 2 = .ok (.iadd, 1) := by decide +kernel
theorem dX5_nextX_3 : decode cX5_nextX 3 = .ok (.aload_n 0, 1) := by decide +kernel
theorem dX5_nextX_4 : decode cX5_nextX 4 = .ok (.getfield 18, 3) := by decide +kernel
theorem dX5_nextX_7 : decode cX5_nextX 7 = .ok (.if_icmp .ge 14, 3) := by decide +kernel
theorem dX5_nextX_10 : decode cX5_nextX 10 = .ok (.aload_n 0, 1) := by decide +kernel
theorem dX5_nextX_11 : decode cX5_nextX 11 = .ok (.getfield 9, 3) := by decide +kernel
theorem dX5_nextX_14 : decode cX5_nextX 14 = .ok (.iload_n 1, 1) := by decide +kernel
theorem dX5_nextX_15 : decode cX5_nextX 15 = .ok (.iconst 1, 1) := by decide +kernel
theorem dX5_nextX_16 : decode cX5_nextX 16 = .ok (.iadd, 1) := by decide +kernel
theorem dX5_nextX_17 : decode cX5_nextX 17 = .ok (.iaload, 1) := by decide +kernel
theorem dX5_nextX_18 : decode cX5_nextX 18 = .ok (.goto 9, 3) := by decide +kernel
theorem dX5_nextX_21 : decode cX5_nextX 21 = .ok (.aload_n 0, 1) := by decide +kernel
theorem dX5_nextX_22 : decode cX5_nextX 22 = .ok (.getfield 9, 3) := by decide +kernel
theorem dX5_nextX_25 : decode cX5_nextX 25 = .ok (.iconst 0, 1) := by decide +kernel
theorem dX5_nextX_26 : decode cX5_nextX 26 = .ok (.iaload, 1) := by decide +kernel
theorem dX5_nextX_27 : decode cX5_nextX 27 = .ok (.ireturn, 1) := by decide +kernel
theorem dX5_nextY_0 : decode cX5_nextY 0 = .ok (.iload_n 1, 1) := by decide +kernel
theorem dX5_nextY_1 : decode cX5_nextY 1 = .ok (.iconst 1, 1) := by decide +kernel
theorem dX5_nextY_2 : decode cX5_nextY 2 = .ok (.iadd, 1) := by decide +kernel
theorem dX5_nextY_3 : decode cX5_nextY 3 = .ok (.aload_n 0, 1) := by decide +kernel
theorem dX5_nextY_4 : decode cX5_nextY 4 = .ok (.getfield 18, 3) := by decide +kernel
theorem dX5_nextY_7 : decode cX5_nextY 7 = .ok (.if_icmp .ge 14, 3) := by decide +kernel
theorem dX5_nextY_10 : decode cX5_nextY 10 = .ok (.aload_n 0, 1) := by decide +kernel
theorem dX5_nextY_11 : decode cX5_nextY 11 = .ok (.getfield 15, 3) := by decide +kernel
theorem dX5_nextY_14 : decode cX5_nextY 14 = .ok (.iload_n 1, 1) := by decide +kernel
theorem dX5_nextY_15 : decode cX5_nextY 15 = .ok (.iconst 1, 1) := by decide +kernel
theorem dX5_nextY_16 : decode cX5_nextY 16 = .ok (.iadd, 1) := by decide +kernel
theorem dX5_nextY_17 : decode cX5_nextY 17 = .ok (.iaload, 1) := by decide +kernel
theorem dX5_nextY_18 : decode cX5_nextY 18 = .ok (.goto 14, 3) := by decide +kernel
theorem dX5_nextY_21 : decode cX5_nextY 21 = .ok (.aload_n 0, 1) := by decide +kernel
theorem dX5_nextY_22 : decode cX5_nextY 22 = .ok (.getfield 15, 3) := by decide +kernel
theorem dX5_nextY_25 : decode cX5_nextY 25 = .ok (.iconst 0, 1) := by decide +kernel
theorem dX5_nextY_26 : decode cX5_nextY 26 = .ok (.iaload, 1) := by decide +kernel
theorem dX5_nextY_27 : decode cX5_nextY 27 = .ok (.aload_n 0, 1) := by decide +kernel
theorem dX5_nextY_28 : decode cX5_nextY 28 = .ok (.getfield 22, 3) := by decide +kernel
theorem dX5_nextY_31 : decode cX5_nextY 31 = .ok (.iadd, 1) := by decide +kernel
theorem dX5_nextY_32 : decode cX5_nextY 32 = .ok (.ireturn, 1) := by decide +kernel
set_option maxRecDepth 20000 in
theorem ggX6_init_X5_init : GoodIn wsX6_init wsX5_init := goodIn_r _ [12, 13, 2, 3, 8, 14, 15, 16, 17, 18, 19] (by decide +kernel) (by decide +kernel)
set_option maxRecDepth 20000 in
theorem gX6_init_X5_init_n11 : GoodIn wsX6_init (wsX5_init) := ggX6_init_X5_init
theorem dX6_init_0 : decode cX6_init 0 = .ok (.aload_n 0, 1) := by decide +kernel
theorem dX6_init_1 : decode cX6_init 1 = .ok (.invokespecial 3, 3) := by decide +kernel
theorem dX6_init_4 : decode cX6_init 4 = .ok (.aload_n 0, 1) := by decide +kernel
theorem dX6_init_5 : decode cX6_init 5 = .ok (.new 9, 3) := by decide +kernel
theorem dX6_init_8 : decode cX6_init 8 = .ok (.dup, 1) := by decide +kernel
theorem dX6_init_9 : decode cX6_init 9 = .ok (.invokespecial 11, 3) := by decide +kernel
theorem dX6_init_12 : decode cX6_init 12 = .ok (.putfield 12, 3) := by decide +kernel
theorem dX6_init_15 : decode cX6_init 15 = .ok (.aload_n 0, 1) := by decide +kernel
theorem dX6_init_16 : decode cX6_init 16 = .ok (.iconst 3, 1) := by decide +kernel
theorem dX6_init_17 : decode cX6_init 17 = .ok (.newarray .int, 2) := by decide +kernel
theorem dX6_init_19 : decode cX6_init 19 = .ok (.putfield 18, 3) := by decide +kernel
theorem dX6_init_22 : decode cX6_init 22 = .ok (.aload_n 0, 1) := by decide +kernel
theorem dX6_init_23 : decode cX6_init 23 = .ok (.iconst 3, 1) := by decide +kernel
theorem dX6_init_24 : decode cX6_init 24 = .ok (.newarray .int, 2) := by decide +kernel
theorem dX6_init_26 : decode cX6_init 26 = .ok (.putfield 22, 3) := by decide +kernel
theorem dX6_init_29 : decode cX6_init 29 = .ok (.return_, 1) := by decide +kernel
set_option maxRecDepth 20000 in
theorem ggX6_firstFault_X6_start : GoodIn wsX6_firstFault wsX6_start := goodIn_r _ [9, 10, 11, 12, 13, 14, 15, 16, 17, 18, 19, 20, 21, 22, 59, 60, 61, 62, 63, 64, 65, 66, 67, 68, 69, 70, 71] (by decide +kernel) (by decide +kernel)
set_option maxRecDepth 20000 in
theorem gX6_firstFault_X6_start : GoodIn wsX6_firstFault (wsV RX6 25 RX6 yX6_start wsX6_start) := goodIn_app (goodIn_of _ (by decide +kernel)) ggX6_firstFault_X6_start
set_option maxRecDepth 20000 in
theorem ggX6_firstFault_X6_canEnd : GoodIn wsX6_firstFault wsX6_canEnd := goodIn_r _ [26, 11, 10, 27, 15, 59, 60, 61, 62, 63, 64, 65, 66, 67, 68, 69, 70, 71] (by decide +kernel) (by decide +kernel)
set_option maxRecDepth 20000 in
theorem gX6_firstFault_X6_canEnd : GoodIn wsX6_firstFault (wsV RX6 39 RX6 yX6_canEnd wsX6_canEnd) := goodIn_app (goodIn_of _ (by decide +kernel)) ggX6_firstFault_X6_canEnd
set_option maxRecDepth 20000 in
theorem ggX6_firstFault_X6_numbersOf : GoodIn wsX6_firstFault wsX6_numbersOf := goodIn_r _ [30] (by decide +kernel) (by decide +kernel)
set_option maxRecDepth 20000 in
theorem gX6_firstFault_X6_numbersOf : GoodIn wsX6_firstFault (va_wsS RX6 43 yX6_numbersOf wsX6_numbersOf) := goodIn_app (goodIn_of _ (by decide +kernel)) ggX6_firstFault_X6_numbersOf
set_option maxRecDepth 20000 in
theorem ggX6_firstFault_X6_isDone : GoodIn wsX6_firstFault wsX6_isDone := goodIn_r _ [34, 14, 10, 12, 13, 35, 15, 36, 37, 38, 19, 39, 21, 40, 41, 42, 43, 44, 45, 46, 47, 8, 48, 11, 49, 4, 50, 51, 52, 53, 54, 59, 60, 61, 62, 63, 64, 65, 66, 67, 68, 69, 70, 71] (by decide +kernel) (by decide +kernel)
set_option maxRecDepth 20000 in
theorem gX6_firstFault_X6_isDone : GoodIn wsX6_firstFault (wsV RX6 50 RX6 yX6_isDone wsX6_isDone) := goodIn_app (goodIn_of _ (by decide +kernel)) ggX6_firstFault_X6_isDone
theorem dX6_firstFault_0 : decode cX6_firstFault 0 = .ok (.aload_n 0, 1) := by decide +kernel
theorem dX6_firstFault_1 : decode cX6_firstFault 1 = .ok (.invokevirtual 25, 3) := by decide +kernel
theorem dX6_firstFault_4 : decode cX6_firstFault 4 = .ok (.iconst 0, 1) := by decide +kernel
theorem dX6_firstFault_5 : decode cX6_firstFault 5 = .ok (.istore_n 2, 1) := by decide +kernel
theorem dX6_firstFault_6 : decode cX6_firstFault 6 = .ok (.iconst 0, 1) := by decide +kernel
theorem dX6_firstFault_7 : decode cX6_firstFault 7 = .ok (.istore_n 3, 1) := by decide +kernel
theorem dX6_firstFault_8 : decode cX6_firstFault 8 = .ok (.iload_n 3, 1) := by decide +kernel
theorem dX6_firstFault_9 : decode cX6_firstFault 9 = .ok (.ldc 28, 2) := by decide +kernel
theorem dX6_firstFault_11 : decode cX6_firstFault 11 = .ok (.if_icmp .ge 140, 3) := by decide +kernel
theorem dX6_firstFault_14 : decode cX6_firstFault 14 = .ok (.iload_n 2, 1) := by decide +kernel
theorem dX6_firstFault_15 : decode cX6_firstFault 15 = .ok (.aload_n 1, 1) := by decide +kernel
theorem dX6_firstFault_16 : decode cX6_firstFault 16 = .ok (.getfield 29, 3) := by decide +kernel
theorem dX6_firstFault_19 : decode cX6_firstFault 19 = .ok (.if_icmp .ge 132, 3) := by decide +kernel
theorem dX6_firstFault_22 : decode cX6_firstFault 22 = .ok (.aload_n 1, 1) := by decide +kernel
theorem dX6_firstFault_23 : decode cX6_firstFault 23 = .ok (.getfield 35, 3) := by decide +kernel
theorem dX6_firstFault_26 : decode cX6_firstFault 26 = .ok (.iload_n 2, 1) := by decide +kernel
theorem dX6_firstFault_27 : decode cX6_firstFault 27 = .ok (.laload, 1) := by decide +kernel
theorem dX6_firstFault_28 : decode cX6_firstFault 28 = .ok (.l2i, 1) := by decide +kernel
theorem dX6_firstFault_29 : decode cX6_firstFault 29 = .ok (.istore 4, 2) := by decide +kernel
theorem dX6_firstFault_31 : decode cX6_firstFault 31 = .ok (.iload 4, 2) := by decide +kernel
theorem dX6_firstFault_33 : decode cX6_firstFault 33 = .ok (.ifCond .ne 16, 3) := by decide +kernel
theorem dX6_firstFault_36 : decode cX6_firstFault 36 = .ok (.aload_n 0, 1) := by decide +kernel
theorem dX6_firstFault_37 : decode cX6_firstFault 37 = .ok (.invokevirtual 39, 3) := by decide +kernel
theorem dX6_firstFault_40 : decode cX6_firstFault 40 = .ok (.ifCond .eq 7, 3) := by decide +kernel
theorem dX6_firstFault_43 : decode cX6_firstFault 43 = .ok (.iconst (-1), 1) := by decide +kernel
theorem dX6_firstFault_44 : decode cX6_firstFault 44 = .ok (.goto 4, 3) := by decide +kernel
theorem dX6_firstFault_47 : decode cX6_firstFault 47 = .ok (.iload_n 2, 1) := by decide +kernel
theorem dX6_firstFault_48 : decode cX6_firstFault 48 = .ok (.ireturn, 1) := by decide +kernel
theorem dX6_firstFault_49 : decode cX6_firstFault 49 = .ok (.iload 4, 2) := by decide +kernel
theorem dX6_firstFault_51 : decode cX6_firstFault 51 = .ok (.invokestatic 43, 3) := by decide +kernel
theorem dX6_firstFault_54 : decode cX6_firstFault 54 = .ok (.istore 5, 2) := by decide +kernel
theorem dX6_firstFault_56 : decode cX6_firstFault 56 = .ok (.iload 5, 2) := by decide +kernel
theorem dX6_firstFault_58 : decode cX6_firstFault 58 = .ok (.ifCond .lt 14, 3) := by decide +kernel
theorem dX6_firstFault_61 : decode cX6_firstFault 61 = .ok (.iload_n 2, 1) := by decide +kernel
theorem dX6_firstFault_62 : decode cX6_firstFault 62 = .ok (.iload 5, 2) := by decide +kernel
theorem dX6_firstFault_64 : decode cX6_firstFault 64 = .ok (.iadd, 1) := by decide +kernel
theorem dX6_firstFault_65 : decode cX6_firstFault 65 = .ok (.aload_n 1, 1) := by decide +kernel
theorem dX6_firstFault_66 : decode cX6_firstFault 66 = .ok (.getfield 29, 3) := by decide +kernel
theorem dX6_firstFault_69 : decode cX6_firstFault 69 = .ok (.if_icmp .lt 5, 3) := by decide +kernel
theorem dX6_firstFault_72 : decode cX6_firstFault 72 = .ok (.iload_n 2, 1) := by decide +kernel
theorem dX6_firstFault_73 : decode cX6_firstFault 73 = .ok (.ireturn, 1) := by decide +kernel
theorem dX6_firstFault_74 : decode cX6_firstFault 74 = .ok (.iload 5, 2) := by decide +kernel
theorem dX6_firstFault_76 : decode cX6_firstFault 76 = .ok (.ifCond .le 15, 3) := by decide +kernel
theorem dX6_firstFault_79 : decode cX6_firstFault 79 = .ok (.aload_n 1, 1) := by decide +kernel
theorem dX6_firstFault_80 : decode cX6_firstFault 80 = .ok (.getfield 35, 3) := by decide +kernel
theorem dX6_firstFault_83 : decode cX6_firstFault 83 = .ok (.iload_n 2, 1) := by decide +kernel
theorem dX6_firstFault_84 : decode cX6_firstFault 84 = .ok (.iconst 1, 1) := by decide +kernel
theorem dX6_firstFault_85 : decode cX6_firstFault 85 = .ok (.iadd, 1) := by decide +kernel
theorem dX6_firstFault_86 : decode cX6_firstFault 86 = .ok (.laload, 1) := by decide +kernel
theorem dX6_firstFault_87 : decode cX6_firstFault 87 = .ok (.l2i, 1) := by decide +kernel
theorem dX6_firstFault_88 : decode cX6_firstFault 88 = .ok (.goto 4, 3) := by decide +kernel
theorem dX6_firstFault_91 : decode cX6_firstFault 91 = .ok (.iconst 0, 1) := by decide +kernel
theorem dX6_firstFault_92 : decode cX6_firstFault 92 = .ok (.istore 6, 2) := by decide +kernel
theorem dX6_firstFault_94 : decode cX6_firstFault 94 = .ok (.iload 5, 2) := by decide +kernel
theorem dX6_firstFault_96 : decode cX6_firstFault 96 = .ok (.iconst 1, 1) := by decide +kernel
theorem dX6_firstFault_97 : decode cX6_firstFault 97 = .ok (.if_icmp .le 15, 3) := by decide +kernel
theorem dX6_firstFault_100 : decode cX6_firstFault 100 = .ok (.aload_n 1, 1) := by decide +kernel
theorem dX6_firstFault_101 : decode cX6_firstFault 101 = .ok (.getfield 35, 3) := by decide +kernel
theorem dX6_firstFault_104 : decode cX6_firstFault 104 = .ok (.iload_n 2, 1) := by decide +kernel
theorem dX6_firstFault_105 : decode cX6_firstFault 105 = .ok (.iconst 2, 1) := by decide +kernel
theorem dX6_firstFault_106 : decode cX6_firstFault 106 = .ok (.iadd, 1) := by decide +kernel
theorem dX6_firstFault_107 : decode cX6_firstFault 107 = .ok (.laload, 1) := by decide +kernel
theorem dX6_firstFault_108 : decode cX6_firstFault 108 = .ok (.l2i, 1) := by decide +kernel
theorem dX6_firstFault_109 : decode cX6_firstFault 109 = .ok (.goto 4, 3) := by decide +kernel
theorem dX6_firstFault_112 : decode cX6_firstFault 112 = .ok (.iconst 0, 1) := by decide +kernel
theorem dX6_firstFault_113 : decode cX6_firstFault 113 = .ok (.istore 7, 2) := by decide +kernel
theorem dX6_firstFault_115 : decode cX6_firstFault 115 = .ok (.aload_n 0, 1) := by decide +kernel
theorem dX6_firstFault_116 : decode cX6_firstFault 116 = .ok (.iload_n 2, 1) := by decide +kernel
theorem dX6_firstFault_117 : decode cX6_firstFault 117 = .ok (.iconst 1, 1) := by decide +kernel
theorem dX6_firstFault_118 : decode cX6_firstFault 118 = .ok (.iadd, 1) := by decide +kernel
theorem dX6_firstFault_119 : decode cX6_firstFault 119 = .ok (.iload 5, 2) := by decide +kernel
theorem dX6_firstFault_121 : decode cX6_firstFault 121 = .ok (.iadd, 1) := by decide +kernel
theorem dX6_firstFault_122 : decode cX6_firstFault 122 = .ok (.putfield 47, 3) := by decide +kernel
theorem dX6_firstFault_125 : decode cX6_firstFault 125 = .ok (.aload_n 0, 1) := by decide +kernel
theorem dX6_firstFault_126 : decode cX6_firstFault 126 = .ok (.iload 4, 2) := by decide +kernel
theorem dX6_firstFault_128 : decode cX6_firstFault 128 = .ok (.iload 6, 2) := by decide +kernel
theorem dX6_firstFault_130 : decode cX6_firstFault 130 = .ok (.iload 7, 2) := by decide +kernel
theorem dX6_firstFault_132 : decode cX6_firstFault 132 = .ok (.invokevirtual 50, 3) := by decide +kernel
theorem dX6_firstFault_135 : decode cX6_firstFault 135 = .ok (.ifCond .ne 5, 3) := by decide +kernel
theorem dX6_firstFault_138 : decode cX6_firstFault 138 = .ok (.iload_n 2, 1) := by decide +kernel
theorem dX6_firstFault_139 : decode cX6_firstFault 139 = .ok (.ireturn, 1) := by decide +kernel
theorem dX6_firstFault_140 : decode cX6_firstFault 140 = .ok (.aload_n 0, 1) := by decide +kernel
theorem dX6_firstFault_141 : decode cX6_firstFault 141 = .ok (.getfield 47, 3) := by decide +kernel
theorem dX6_firstFault_144 : decode cX6_firstFault 144 = .ok (.istore_n 2, 1) := by decide +kernel
theorem dX6_firstFault_145 : decode cX6_firstFault 145 = .ok (.iinc 3 1, 3) := by decide +kernel
theorem dX6_firstFault_148 : decode cX6_firstFault 148 = .ok (.goto (-140), 3) := by decide +kernel
theorem dX6_firstFault_151 : decode cX6_firstFault 151 = .ok (.aload_n 1, 1) := by decide +kernel
theorem dX6_firstFault_152 : decode cX6_firstFault 152 = .ok (.getfield 29, 3) := by decide +kernel
theorem dX6_firstFault_155 : decode cX6_firstFault 155 = .ok (.ireturn, 1) := by decide +kernel
set_option maxRecDepth 20000 in
theorem ggX6_start_X5_forget : GoodIn wsX6_start wsX5_forget := goodIn_r _ [11, 12, 13, 23, 24, 25, 26] (by decide +kernel) (by decide +kernel)
set_option maxRecDepth 20000 in
theorem gX6_start_X5_forget : GoodIn wsX6_start (wsV RX6 54 RX5 yX5_forget wsX5_forget) := goodIn_app (goodIn_of _ (by decide +kernel)) ggX6_start_X5_forget
theorem dX6_start_0 : decode cX6_start 0 = .ok (.aload_n 0, 1) := by decide +kernel
theorem dX6_start_1 : decode cX6_start 1 = .ok (.getfield 12, 3) := by decide +kernel
theorem dX6_start_4 : decode cX6_start 4 = .ok (.invokevirtual 54, 3) := by decide +kernel
theorem dX6_start_7 : decode cX6_start 7 = .ok (.aload_n 0, 1) := by decide +kernel
theorem dX6_start_8 : decode cX6_start 8 = .ok (.iconst 0, 1) := by decide +kernel
theorem dX6_start_9 : decode cX6_start 9 = .ok (.putfield 57, 3) := by decide +kernel
theorem dX6_start_12 : decode cX6_start 12 = .ok (.aload_n 0, 1) := by decide +kernel
theorem dX6_start_13 : decode cX6_start 13 = .ok (.iconst 0, 1) := by decide +kernel
theorem dX6_start_14 : decode cX6_start 14 = .ok (.putfield 60, 3) := by decide +kernel
theorem dX6_start_17 : decode cX6_start 17 = .ok (.aload_n 0, 1) := by decide +kernel
theorem dX6_start_18 : decode cX6_start 18 = .ok (.iconst 0, 1) := by decide +kernel
theorem dX6_start_19 : decode cX6_start 19 = .ok (.putfield 63, 3) := by decide +kernel
theorem dX6_start_22 : decode cX6_start 22 = .ok (.aload_n 0, 1) := by decide +kernel
theorem dX6_start_23 : decode cX6_start 23 = .ok (.iconst 0, 1) := by decide +kernel
theorem dX6_start_24 : decode cX6_start 24 = .ok (.putfield 66, 3) := by decide +kernel
theorem dX6_start_27 : decode cX6_start 27 = .ok (.aload_n 0, 1) := by decide +kernel
theorem dX6_start_28 : decode cX6_start 28 = .ok (.iconst 0, 1) := by decide +kernel
theorem dX6_start_29 : decode cX6_start 29 = .ok (.putfield 70, 3) := by decide +kernel
theorem dX6_start_32 : decode cX6_start 32 = .ok (.return_, 1) := by decide +kernel
theorem dX6_canEnd_0 : decode cX6_canEnd 0 = .ok (.aload_n 0, 1) := by decide +kernel
theorem dX6_canEnd_1 : decode cX6_canEnd 1 = .ok (.getfield 57, 3) := by decide +kernel
theorem dX6_canEnd_4 : decode cX6_canEnd 4 = .ok (.ifCond .ne 24, 3) := by decide +kernel
theorem dX6_canEnd_7 : decode cX6_canEnd 7 = .ok (.aload_n 0, 1) := by decide +kernel
theorem dX6_canEnd_8 : decode cX6_canEnd 8 = .ok (.getfield 12, 3) := by decide +kernel
theorem dX6_canEnd_11 : decode cX6_canEnd 11 = .ok (.getfield 73, 3) := by decide +kernel
theorem dX6_canEnd_14 : decode cX6_canEnd 14 = .ok (.ifCond .le 14, 3) := by decide +kernel
theorem dX6_canEnd_17 : decode cX6_canEnd 17 = .ok (.aload_n 0, 1) := by decide +kernel
theorem dX6_canEnd_18 : decode cX6_canEnd 18 = .ok (.getfield 70, 3) := by decide +kernel
theorem dX6_canEnd_21 : decode cX6_canEnd 21 = .ok (.ifCond .eq 7, 3) := by decide +kernel
theorem dX6_canEnd_24 : decode cX6_canEnd 24 = .ok (.iconst 1, 1) := by decide +kernel
theorem dX6_canEnd_25 : decode cX6_canEnd 25 = .ok (.goto 4, 3) := by decide +kernel
theorem dX6_canEnd_28 : decode cX6_canEnd 28 = .ok (.iconst 0, 1) := by decide +kernel
theorem dX6_canEnd_29 : decode cX6_canEnd 29 = .ok (.ireturn, 1) := by decide +kernel
theorem dX6_numbersOf_0 : decode cX6_numbersOf 0 = .ok (.iload_n 0, 1) := by decide +kernel
theorem dX6_numbersOf_1 : decode cX6_numbersOf 1 = .ok (.tableswitch 45 1 6 #[39, 39, 43, 41, 43, 41], 39) := by decide +kernel
theorem dX6_numbersOf_40 : decode cX6_numbersOf 40 = .ok (.iconst 2, 1) := by decide +kernel
theorem dX6_numbersOf_41 : decode cX6_numbersOf 41 = .ok (.ireturn, 1) := by decide +kernel
theorem dX6_numbersOf_42 : decode cX6_numbersOf 42 = .ok (.iconst 1, 1) := by decide +kernel
theorem dX6_numbersOf_43 : decode cX6_numbersOf 43 = .ok (.ireturn, 1) := by decide +kernel
theorem dX6_numbersOf_44 : decode cX6_numbersOf 44 = .ok (.iconst 0, 1) := by decide +kernel
theorem dX6_numbersOf_45 : decode cX6_numbersOf 45 = .ok (.ireturn, 1) := by decide +kernel
theorem dX6_numbersOf_46 : decode cX6_numbersOf 46 = .ok (.iconst (-1), 1) := by decide +kernel
theorem dX6_numbersOf_47 : decode cX6_numbersOf 47 = .ok (.ireturn, 1) := by decide +kernel
set_option maxRecDepth 20000 in
theorem ggX6_isDone_X5_gets : GoodIn wsX6_isDone wsX5_gets := goodIn_r _ [11, 12, 13, 14, 15, 16, 17, 40, 41, 42, 43] (by decide +kernel) (by decide +kernel)
set_option maxRecDepth 20000 in
theorem gX6_isDone_X5_gets : GoodIn wsX6_isDone (wsV RX6 76 RX5 yX5_gets wsX5_gets) := goodIn_app (goodIn_of _ (by decide +kernel)) ggX6_isDone_X5_gets
set_option maxRecDepth 20000 in
theorem ggX6_isDone_X10_isWithin : GoodIn wsX6_isDone wsX10_isWithin := goodIn_r _ [17] (by decide +kernel) (by decide +kernel)
set_option maxRecDepth 20000 in
theorem gX6_isDone_X10_isWithin_n80 : GoodIn wsX6_isDone (wsX10_isWithin) := ggX6_isDone_X10_isWithin
set_option maxRecDepth 20000 in
theorem ggX6_isDone_X6_opens : GoodIn wsX6_isDone wsX6_opens := goodIn_r _ [22, 23, 24, 25, 26, 31, 32, 33, 34, 35, 36, 37, 38, 39] (by decide +kernel) (by decide +kernel)
set_option maxRecDepth 20000 in
theorem gX6_isDone_X6_opens : GoodIn wsX6_isDone (wsV RX6 83 RX6 yX6_opens wsX6_opens) := goodIn_app (goodIn_of _ (by decide +kernel)) ggX6_isDone_X6_opens
set_option maxRecDepth 20000 in
theorem ggX6_isDone_X6_closes : GoodIn wsX6_isDone wsX6_closes := goodIn_r _ [30, 23, 26, 24, 25, 31, 32, 33, 34, 35, 36, 37, 38, 39] (by decide +kernel) (by decide +kernel)
set_option maxRecDepth 20000 in
theorem gX6_isDone_X6_closes : GoodIn wsX6_isDone (wsV RX6 87 RX6 yX6_closes wsX6_closes) := goodIn_app (goodIn_of _ (by decide +kernel)) ggX6_isDone_X6_closes
theorem dX6_isDone_0 : decode cX6_isDone 0 = .ok (.aload_n 0, 1) := by decide +kernel
theorem dX6_isDone_1 : decode cX6_isDone 1 = .ok (.getfield 66, 3) := by decide +kernel
theorem dX6_isDone_4 : decode cX6_isDone 4 = .ok (.ifCond .eq 8, 3) := by decide +kernel
theorem dX6_isDone_7 : decode cX6_isDone 7 = .ok (.iload_n 2, 1) := by decide +kernel
theorem dX6_isDone_8 : decode cX6_isDone 8 = .ok (.ineg, 1) := by decide +kernel
theorem dX6_isDone_9 : decode cX6_isDone 9 = .ok (.goto 4, 3) := by decide +kernel
theorem dX6_isDone_12 : decode cX6_isDone 12 = .ok (.iload_n 2, 1) := by decide +kernel
theorem dX6_isDone_13 : decode cX6_isDone 13 = .ok (.istore 4, 2) := by decide +kernel
theorem dX6_isDone_15 : decode cX6_isDone 15 = .ok (.iload_n 1, 1) := by decide +kernel
theorem dX6_isDone_16 : decode cX6_isDone 16 = .ok (.tableswitch 137 1 5 #[36, 57, 108, 126, 132], 36) := by decide +kernel
theorem dX6_isDone_52 : decode cX6_isDone 52 = .ok (.aload_n 0, 1) := by decide +kernel
theorem dX6_isDone_53 : decode cX6_isDone 53 = .ok (.getfield 12, 3) := by decide +kernel
theorem dX6_isDone_56 : decode cX6_isDone 56 = .ok (.aload_n 0, 1) := by decide +kernel
theorem dX6_isDone_57 : decode cX6_isDone 57 = .ok (.getfield 60, 3) := by decide +kernel
theorem dX6_isDone_60 : decode cX6_isDone 60 = .ok (.iload 4, 2) := by decide +kernel
theorem dX6_isDone_62 : decode cX6_isDone 62 = .ok (.iadd, 1) := by decide +kernel
theorem dX6_isDone_63 : decode cX6_isDone 63 = .ok (.aload_n 0, 1) := by decide +kernel
theorem dX6_isDone_64 : decode cX6_isDone 64 = .ok (.getfield 63, 3) := by decide +kernel
theorem dX6_isDone_67 : decode cX6_isDone 67 = .ok (.iload_n 3, 1) := by decide +kernel
theorem dX6_isDone_68 : decode cX6_isDone 68 = .ok (.iadd, 1) := by decide +kernel
theorem dX6_isDone_69 : decode cX6_isDone 69 = .ok (.invokevirtual 76, 3) := by decide +kernel
theorem dX6_isDone_72 : decode cX6_isDone 72 = .ok (.ireturn, 1) := by decide +kernel
theorem dX6_isDone_73 : decode cX6_isDone 73 = .ok (.aload_n 0, 1) := by decide +kernel
theorem dX6_isDone_74 : decode cX6_isDone 74 = .ok (.dup, 1) := by decide +kernel
theorem dX6_isDone_75 : decode cX6_isDone 75 = .ok (.getfield 60, 3) := by decide +kernel
theorem dX6_isDone_78 : decode cX6_isDone 78 = .ok (.iload 4, 2) := by decide +kernel
theorem dX6_isDone_80 : decode cX6_isDone 80 = .ok (.iadd, 1) := by decide +kernel
theorem dX6_isDone_81 : decode cX6_isDone 81 = .ok (.putfield 60, 3) := by decide +kernel
theorem dX6_isDone_84 : decode cX6_isDone 84 = .ok (.aload_n 0, 1) := by decide +kernel
theorem dX6_isDone_85 : decode cX6_isDone 85 = .ok (.dup, 1) := by decide +kernel
theorem dX6_isDone_86 : decode cX6_isDone 86 = .ok (.getfield 63, 3) := by decide +kernel
theorem dX6_isDone_89 : decode cX6_isDone 89 = .ok (.iload_n 3, 1) := by decide +kernel
theorem dX6_isDone_90 : decode cX6_isDone 90 = .ok (.iadd, 1) := by decide +kernel
theorem dX6_isDone_91 : decode cX6_isDone 91 = .ok (.putfield 63, 3) := by decide +kernel
theorem dX6_isDone_94 : decode cX6_isDone 94 = .ok (.aload_n 0, 1) := by decide +kernel
theorem dX6_isDone_95 : decode cX6_isDone 95 = .ok (.getfield 60, 3) := by decide +kernel
theorem dX6_isDone_98 : decode cX6_isDone 98 = .ok (.bipush 100, 2) := by decide +kernel
theorem dX6_isDone_100 : decode cX6_isDone 100 = .ok (.invokestatic 80, 3) := by decide +kernel
theorem dX6_isDone_103 : decode cX6_isDone 103 = .ok (.ifCond .eq 19, 3) := by decide +kernel
theorem dX6_isDone_106 : decode cX6_isDone 106 = .ok (.aload_n 0, 1) := by decide +kernel
theorem dX6_isDone_107 : decode cX6_isDone 107 = .ok (.getfield 63, 3) := by decide +kernel
theorem dX6_isDone_110 : decode cX6_isDone 110 = .ok (.bipush 100, 2) := by decide +kernel
theorem dX6_isDone_112 : decode cX6_isDone 112 = .ok (.invokestatic 80, 3) := by decide +kernel
theorem dX6_isDone_115 : decode cX6_isDone 115 = .ok (.ifCond .eq 7, 3) := by decide +kernel
theorem dX6_isDone_118 : decode cX6_isDone 118 = .ok (.iconst 1, 1) := by decide +kernel
theorem dX6_isDone_119 : decode cX6_isDone 119 = .ok (.goto 4, 3) := by decide +kernel
theorem dX6_isDone_122 : decode cX6_isDone 122 = .ok (.iconst 0, 1) := by decide +kernel
theorem dX6_isDone_123 : decode cX6_isDone 123 = .ok (.ireturn, 1) := by decide +kernel
theorem dX6_isDone_124 : decode cX6_isDone 124 = .ok (.aload_n 0, 1) := by decide +kernel
theorem dX6_isDone_125 : decode cX6_isDone 125 = .ok (.aload_n 0, 1) := by decide +kernel
theorem dX6_isDone_126 : decode cX6_isDone 126 = .ok (.getfield 66, 3) := by decide +kernel
theorem dX6_isDone_129 : decode cX6_isDone 129 = .ok (.ifCond .ne 7, 3) := by decide +kernel
theorem dX6_isDone_132 : decode cX6_isDone 132 = .ok (.iconst 1, 1) := by decide +kernel
theorem dX6_isDone_133 : decode cX6_isDone 133 = .ok (.goto 4, 3) := by decide +kernel
theorem dX6_isDone_136 : decode cX6_isDone 136 = .ok (.iconst 0, 1) := by decide +kernel
theorem dX6_isDone_137 : decode cX6_isDone 137 = .ok (.putfield 66, 3) := by decide +kernel
theorem dX6_isDone_140 : decode cX6_isDone 140 = .ok (.iconst 1, 1) := by decide +kernel
theorem dX6_isDone_141 : decode cX6_isDone 141 = .ok (.ireturn, 1) := by decide +kernel
theorem dX6_isDone_142 : decode cX6_isDone 142 = .ok (.aload_n 0, 1) := by decide +kernel
theorem dX6_isDone_143 : decode cX6_isDone 143 = .ok (.iload_n 2, 1) := by decide +kernel
theorem dX6_isDone_144 : decode cX6_isDone 144 = .ok (.invokevirtual 83, 3) := by decide +kernel
theorem dX6_isDone_147 : decode cX6_isDone 147 = .ok (.ireturn, 1) := by decide +kernel
theorem dX6_isDone_148 : decode cX6_isDone 148 = .ok (.aload_n 0, 1) := by decide +kernel
theorem dX6_isDone_149 : decode cX6_isDone 149 = .ok (.invokevirtual 87, 3) := by decide +kernel
theorem dX6_isDone_152 : decode cX6_isDone 152 = .ok (.ireturn, 1) := by decide +kernel
theorem dX6_isDone_153 : decode cX6_isDone 153 = .ok (.aload_n 0, 1) := by decide +kernel
theorem dX6_isDone_154 : decode cX6_isDone 154 = .ok (.getfield 12, 3) := by decide +kernel
theorem dX6_isDone_157 : decode cX6_isDone 157 = .ok (.iload_n 2, 1) := by decide +kernel
theorem dX6_isDone_158 : decode cX6_isDone 158 = .ok (.putfield 90, 3) := by decide +kernel
theorem dX6_isDone_161 : decode cX6_isDone 161 = .ok (.aload_n 0, 1) := by decide +kernel
theorem dX6_isDone_162 : decode cX6_isDone 162 = .ok (.iconst 1, 1) := by decide +kernel
theorem dX6_isDone_163 : decode cX6_isDone 163 = .ok (.putfield 70, 3) := by decide +kernel
theorem dX6_isDone_166 : decode cX6_isDone 166 = .ok (.iload_n 2, 1) := by decide +kernel
theorem dX6_isDone_167 : decode cX6_isDone 167 = .ok (.bipush 100, 2) := by decide +kernel
theorem dX6_isDone_169 : decode cX6_isDone 169 = .ok (.invokestatic 80, 3) := by decide +kernel
theorem dX6_isDone_172 : decode cX6_isDone 172 = .ok (.ireturn, 1) := by decide +kernel
theorem dX6_opens_0 : decode cX6_opens 0 = .ok (.iload_n 1, 1) := by decide +kernel
theorem dX6_opens_1 : decode cX6_opens 1 = .ok (.iconst 1, 1) := by decide +kernel
theorem dX6_opens_2 : decode cX6_opens 2 = .ok (.if_icmp .lt 17, 3) := by decide +kernel
theorem dX6_opens_5 : decode cX6_opens 5 = .ok (.iload_n 1, 1) := by decide +kernel
theorem dX6_opens_6 : decode cX6_opens 6 = .ok (.bipush 9, 2) := by decide +kernel
theorem dX6_opens_8 : decode cX6_opens 8 = .ok (.if_icmp .gt 11, 3) := by decide +kernel
theorem dX6_opens_11 : decode cX6_opens 11 = .ok (.aload_n 0, 1) := by decide +kernel
theorem dX6_opens_12 : decode cX6_opens 12 = .ok (.getfield 57, 3) := by decide +kernel
theorem dX6_opens_15 : decode cX6_opens 15 = .ok (.iconst 3, 1) := by decide +kernel
theorem dX6_opens_16 : decode cX6_opens 16 = .ok (.if_icmp .lt 5, 3) := by decide +kernel
theorem dX6_opens_19 : decode cX6_opens 19 = .ok (.iconst 0, 1) := by decide +kernel
theorem dX6_opens_20 : decode cX6_opens 20 = .ok (.ireturn, 1) := by decide +kernel
theorem dX6_opens_21 : decode cX6_opens 21 = .ok (.aload_n 0, 1) := by decide +kernel
theorem dX6_opens_22 : decode cX6_opens 22 = .ok (.getfield 18, 3) := by decide +kernel
theorem dX6_opens_25 : decode cX6_opens 25 = .ok (.aload_n 0, 1) := by decide +kernel
theorem dX6_opens_26 : decode cX6_opens 26 = .ok (.getfield 57, 3) := by decide +kernel
theorem dX6_opens_29 : decode cX6_opens 29 = .ok (.aload_n 0, 1) := by decide +kernel
theorem dX6_opens_30 : decode cX6_opens 30 = .ok (.getfield 47, 3) := by decide +kernel
theorem dX6_opens_33 : decode cX6_opens 33 = .ok (.iastore, 1) := by decide +kernel
theorem dX6_opens_34 : decode cX6_opens 34 = .ok (.aload_n 0, 1) := by decide +kernel
theorem dX6_opens_35 : decode cX6_opens 35 = .ok (.getfield 22, 3) := by decide +kernel
theorem dX6_opens_38 : decode cX6_opens 38 = .ok (.aload_n 0, 1) := by decide +kernel
theorem dX6_opens_39 : decode cX6_opens 39 = .ok (.getfield 57, 3) := by decide +kernel
theorem dX6_opens_42 : decode cX6_opens 42 = .ok (.iload_n 1, 1) := by decide +kernel
theorem dX6_opens_43 : decode cX6_opens 43 = .ok (.iastore, 1) := by decide +kernel
theorem dX6_opens_44 : decode cX6_opens 44 = .ok (.aload_n 0, 1) := by decide +kernel
theorem dX6_opens_45 : decode cX6_opens 45 = .ok (.dup, 1) := by decide +kernel
theorem dX6_opens_46 : decode cX6_opens 46 = .ok (.getfield 57, 3) := by decide +kernel
theorem dX6_opens_49 : decode cX6_opens 49 = .ok (.iconst 1, 1) := by decide +kernel
theorem dX6_opens_50 : decode cX6_opens 50 = .ok (.iadd, 1) := by decide +kernel
theorem dX6_opens_51 : decode cX6_opens 51 = .ok (.putfield 57, 3) := by decide +kernel
theorem dX6_opens_54 : decode cX6_opens 54 = .ok (.iconst 1, 1) := by decide +kernel
theorem dX6_opens_55 : decode cX6_opens 55 = .ok (.ireturn, 1) := by decide +kernel
theorem dX6_closes_0 : decode cX6_closes 0 = .ok (.aload_n 0, 1) := by decide +kernel
theorem dX6_closes_1 : decode cX6_closes 1 = .ok (.getfield 57, 3) := by decide +kernel
theorem dX6_closes_4 : decode cX6_closes 4 = .ok (.iconst 1, 1) := by decide +kernel
theorem dX6_closes_5 : decode cX6_closes 5 = .ok (.if_icmp .ge 5, 3) := by decide +kernel
theorem dX6_closes_8 : decode cX6_closes 8 = .ok (.iconst 0, 1) := by decide +kernel
theorem dX6_closes_9 : decode cX6_closes 9 = .ok (.ireturn, 1) := by decide +kernel
theorem dX6_closes_10 : decode cX6_closes 10 = .ok (.aload_n 0, 1) := by decide +kernel
theorem dX6_closes_11 : decode cX6_closes 11 = .ok (.getfield 22, 3) := by decide +kernel
theorem dX6_closes_14 : decode cX6_closes 14 = .ok (.aload_n 0, 1) := by decide +kernel
theorem dX6_closes_15 : decode cX6_closes 15 = .ok (.getfield 57, 3) := by decide +kernel
theorem dX6_closes_18 : decode cX6_closes 18 = .ok (.iconst 1, 1) := by decide +kernel
theorem dX6_closes_19 : decode cX6_closes 19 = .ok (.isub, 1) := by decide +kernel
theorem dX6_closes_20 : decode cX6_closes 20 = .ok (.dup2, 1) := by decide +kernel
theorem dX6_closes_21 : decode cX6_closes 21 = .ok (.iaload, 1) := by decide +kernel
theorem dX6_closes_22 : decode cX6_closes 22 = .ok (.iconst 1, 1) := by decide +kernel
theorem dX6_closes_23 : decode cX6_closes 23 = .ok (.isub, 1) := by decide +kernel
theorem dX6_closes_24 : decode cX6_closes 24 = .ok (.iastore, 1) := by decide +kernel
theorem dX6_closes_25 : decode cX6_closes 25 = .ok (.aload_n 0, 1) := by decide +kernel
theorem dX6_closes_26 : decode cX6_closes 26 = .ok (.getfield 22, 3) := by decide +kernel
theorem dX6_closes_29 : decode cX6_closes 29 = .ok (.aload_n 0, 1) := by decide +kernel
theorem dX6_closes_30 : decode cX6_closes 30 = .ok (.getfield 57, 3) := by decide +kernel
theorem dX6_closes_33 : decode cX6_closes 33 = .ok (.iconst 1, 1) := by decide +kernel
theorem dX6_closes_34 : decode cX6_closes 34 = .ok (.isub, 1) := by decide +kernel
theorem dX6_closes_35 : decode cX6_closes 35 = .ok (.iaload, 1) := by decide +kernel
theorem dX6_closes_36 : decode cX6_closes 36 = .ok (.ifCond .le 21, 3) := by decide +kernel
theorem dX6_closes_39 : decode cX6_closes 39 = .ok (.aload_n 0, 1) := by decide +kernel
theorem dX6_closes_40 : decode cX6_closes 40 = .ok (.aload_n 0, 1) := by decide +kernel
theorem dX6_closes_41 : decode cX6_closes 41 = .ok (.getfield 18, 3) := by decide +kernel
theorem dX6_closes_44 : decode cX6_closes 44 = .ok (.aload_n 0, 1) := by decide +kernel
theorem dX6_closes_45 : decode cX6_closes 45 = .ok (.getfield 57, 3) := by decide +kernel
theorem dX6_closes_48 : decode cX6_closes 48 = .ok (.iconst 1, 1) := by decide +kernel
theorem dX6_closes_49 : decode cX6_closes 49 = .ok (.isub, 1) := by decide +kernel
theorem dX6_closes_50 : decode cX6_closes 50 = .ok (.iaload, 1) := by decide +kernel
theorem dX6_closes_51 : decode cX6_closes 51 = .ok (.putfield 47, 3) := by decide +kernel
theorem dX6_closes_54 : decode cX6_closes 54 = .ok (.goto 13, 3) := by decide +kernel
theorem dX6_closes_57 : decode cX6_closes 57 = .ok (.aload_n 0, 1) := by decide +kernel
theorem dX6_closes_58 : decode cX6_closes 58 = .ok (.dup, 1) := by decide +kernel
theorem dX6_closes_59 : decode cX6_closes 59 = .ok (.getfield 57, 3) := by decide +kernel
theorem dX6_closes_62 : decode cX6_closes 62 = .ok (.iconst 1, 1) := by decide +kernel
theorem dX6_closes_63 : decode cX6_closes 63 = .ok (.isub, 1) := by decide +kernel
theorem dX6_closes_64 : decode cX6_closes 64 = .ok (.putfield 57, 3) := by decide +kernel
theorem dX6_closes_67 : decode cX6_closes 67 = .ok (.iconst 1, 1) := by decide +kernel
theorem dX6_closes_68 : decode cX6_closes 68 = .ok (.ireturn, 1) := by decide +kernel
theorem dX7_init_0 : decode cX7_init 0 = .ok (.aload_n 0, 1) := by decide +kernel
theorem dX7_init_1 : decode cX7_init 1 = .ok (.invokespecial 3, 3) := by decide +kernel
theorem dX7_init_4 : decode cX7_init 4 = .ok (.return_, 1) := by decide +kernel
set_option maxRecDepth 20000 in
theorem ggX7_find_X7_isNamed : GoodIn wsX7_find wsX7_isNamed := goodIn_r _ [6, 7, 8, 9, 2, 14, 15, 16, 17, 11, 12, 13] (by decide +kernel) (by decide +kernel)
set_option maxRecDepth 20000 in
theorem gX7_find_X7_isNamed : GoodIn wsX7_find (va_wsS RX7 20 yX7_isNamed wsX7_isNamed) := goodIn_app (goodIn_of _ (by decide +kernel)) ggX7_find_X7_isNamed
theorem dX7_find_0 : decode cX7_find 0 = .ok (.aload_n 0, 1) := by decide +kernel
theorem dX7_find_1 : decode cX7_find 1 = .ok (.iconst 0, 1) := by decide +kernel
theorem dX7_find_2 : decode cX7_find 2 = .ok (.putfield 9, 3) := by decide +kernel
theorem dX7_find_5 : decode cX7_find 5 = .ok (.iconst 0, 1) := by decide +kernel
theorem dX7_find_6 : decode cX7_find 6 = .ok (.istore 5, 2) := by decide +kernel
theorem dX7_find_8 : decode cX7_find 8 = .ok (.iload 5, 2) := by decide +kernel
theorem dX7_find_10 : decode cX7_find 10 = .ok (.bipush 8, 2) := by decide +kernel
theorem dX7_find_12 : decode cX7_find 12 = .ok (.if_icmp .ge 102, 3) := by decide +kernel
theorem dX7_find_15 : decode cX7_find 15 = .ok (.iconst 1, 1) := by decide +kernel
theorem dX7_find_16 : decode cX7_find 16 = .ok (.istore 6, 2) := by decide +kernel
theorem dX7_find_18 : decode cX7_find 18 = .ok (.iload 6, 2) := by decide +kernel
theorem dX7_find_20 : decode cX7_find 20 = .ok (.iconst (-1), 1) := by decide +kernel
theorem dX7_find_21 : decode cX7_find 21 = .ok (.if_icmp .lt 87, 3) := by decide +kernel
theorem dX7_find_24 : decode cX7_find 24 = .ok (.iconst 0, 1) := by decide +kernel
theorem dX7_find_25 : decode cX7_find 25 = .ok (.istore 7, 2) := by decide +kernel
theorem dX7_find_27 : decode cX7_find 27 = .ok (.iload 7, 2) := by decide +kernel
theorem dX7_find_29 : decode cX7_find 29 = .ok (.aload_n 2, 1) := by decide +kernel
theorem dX7_find_30 : decode cX7_find 30 = .ok (.iload 5, 2) := by decide +kernel
theorem dX7_find_32 : decode cX7_find 32 = .ok (.aaload, 1) := by decide +kernel
theorem dX7_find_33 : decode cX7_find 33 = .ok (.getfield 15, 3) := by decide +kernel
theorem dX7_find_36 : decode cX7_find 36 = .ok (.if_icmp .ge 66, 3) := by decide +kernel
theorem dX7_find_39 : decode cX7_find 39 = .ok (.aload_n 1, 1) := by decide +kernel
theorem dX7_find_40 : decode cX7_find 40 = .ok (.aload_n 2, 1) := by decide +kernel
theorem dX7_find_41 : decode cX7_find 41 = .ok (.iload 5, 2) := by decide +kernel
theorem dX7_find_43 : decode cX7_find 43 = .ok (.aaload, 1) := by decide +kernel
theorem dX7_find_44 : decode cX7_find 44 = .ok (.iload 7, 2) := by decide +kernel
theorem dX7_find_46 : decode cX7_find 46 = .ok (.iload 6, 2) := by decide +kernel
theorem dX7_find_48 : decode cX7_find 48 = .ok (.iload_n 3, 1) := by decide +kernel
theorem dX7_find_49 : decode cX7_find 49 = .ok (.invokestatic 20, 3) := by decide +kernel
theorem dX7_find_52 : decode cX7_find 52 = .ok (.ifCond .eq 44, 3) := by decide +kernel
theorem dX7_find_55 : decode cX7_find 55 = .ok (.aload_n 0, 1) := by decide +kernel
theorem dX7_find_56 : decode cX7_find 56 = .ok (.getfield 9, 3) := by decide +kernel
theorem dX7_find_59 : decode cX7_find 59 = .ok (.iload 4, 2) := by decide +kernel
theorem dX7_find_61 : decode cX7_find 61 = .ok (.if_icmp .ne 25, 3) := by decide +kernel
theorem dX7_find_64 : decode cX7_find 64 = .ok (.sipush 1000, 3) := by decide +kernel
theorem dX7_find_67 : decode cX7_find 67 = .ok (.iload 5, 2) := by decide +kernel
theorem dX7_find_69 : decode cX7_find 69 = .ok (.imul, 1) := by decide +kernel
theorem dX7_find_70 : decode cX7_find 70 = .ok (.iload 6, 2) := by decide +kernel
theorem dX7_find_72 : decode cX7_find 72 = .ok (.ifCond .ge 8, 3) := by decide +kernel
theorem dX7_find_75 : decode cX7_find 75 = .ok (.bipush 100, 2) := by decide +kernel
theorem dX7_find_77 : decode cX7_find 77 = .ok (.goto 4, 3) := by decide +kernel
theorem dX7_find_80 : decode cX7_find 80 = .ok (.iconst 0, 1) := by decide +kernel
theorem dX7_find_81 : decode cX7_find 81 = .ok (.iadd, 1) := by decide +kernel
theorem dX7_find_82 : decode cX7_find 82 = .ok (.iload 7, 2) := by decide +kernel
theorem dX7_find_84 : decode cX7_find 84 = .ok (.iadd, 1) := by decide +kernel
theorem dX7_find_85 : decode cX7_find 85 = .ok (.ireturn, 1) := by decide +kernel
theorem dX7_find_86 : decode cX7_find 86 = .ok (.aload_n 0, 1) := by decide +kernel
theorem dX7_find_87 : decode cX7_find 87 = .ok (.dup, 1) := by decide +kernel
theorem dX7_find_88 : decode cX7_find 88 = .ok (.getfield 9, 3) := by decide +kernel
theorem dX7_find_91 : decode cX7_find 91 = .ok (.iconst 1, 1) := by decide +kernel
theorem dX7_find_92 : decode cX7_find 92 = .ok (.iadd, 1) := by decide +kernel
theorem dX7_find_93 : decode cX7_find 93 = .ok (.putfield 9, 3) := by decide +kernel
theorem dX7_find_96 : decode cX7_find 96 = .ok (.iinc 7 1, 3) := by decide +kernel
theorem dX7_find_99 : decode cX7_find 99 = .ok (.goto (-72), 3) := by decide +kernel
theorem dX7_find_102 : decode cX7_find 102 = .ok (.iinc 6 (-2), 3) := by decide +kernel
theorem dX7_find_105 : decode cX7_find 105 = .ok (.goto (-87), 3) := by decide +kernel
theorem dX7_find_108 : decode cX7_find 108 = .ok (.iinc 5 1, 3) := by decide +kernel
theorem dX7_find_111 : decode cX7_find 111 = .ok (.goto (-103), 3) := by decide +kernel
theorem dX7_find_114 : decode cX7_find 114 = .ok (.iconst (-1), 1) := by decide +kernel
theorem dX7_find_115 : decode cX7_find 115 = .ok (.ireturn, 1) := by decide +kernel
theorem dX7_isNamed_0 : decode cX7_isNamed 0 = .ok (.iload_n 2, 1) := by decide +kernel
theorem dX7_isNamed_1 : decode cX7_isNamed 1 = .ok (.istore 5, 2) := by decide +kernel
theorem dX7_isNamed_3 : decode cX7_isNamed 3 = .ok (.iconst 0, 1) := by decide +kernel
theorem dX7_isNamed_4 : decode cX7_isNamed 4 = .ok (.istore 6, 2) := by decide +kernel
theorem dX7_isNamed_6 : decode cX7_isNamed 6 = .ok (.iload 6, 2) := by decide +kernel
theorem dX7_isNamed_8 : decode cX7_isNamed 8 = .ok (.aload_n 0, 1) := by decide +kernel
theorem dX7_isNamed_9 : decode cX7_isNamed 9 = .ok (.getfield 24, 3) := by decide +kernel
theorem dX7_isNamed_12 : decode cX7_isNamed 12 = .ok (.if_icmp .ge 88, 3) := by decide +kernel
theorem dX7_isNamed_15 : decode cX7_isNamed 15 = .ok (.aload_n 0, 1) := by decide +kernel
theorem dX7_isNamed_16 : decode cX7_isNamed 16 = .ok (.getfield 29, 3) := by decide +kernel
theorem dX7_isNamed_19 : decode cX7_isNamed 19 = .ok (.iload 6, 2) := by decide +kernel
theorem dX7_isNamed_21 : decode cX7_isNamed 21 = .ok (.laload, 1) := by decide +kernel
theorem dX7_isNamed_22 : decode cX7_isNamed 22 = .ok (.l2i, 1) := by decide +kernel
theorem dX7_isNamed_23 : decode cX7_isNamed 23 = .ok (.istore 7, 2) := by decide +kernel
theorem dX7_isNamed_25 : decode cX7_isNamed 25 = .ok (.aload_n 1, 1) := by decide +kernel
theorem dX7_isNamed_26 : decode cX7_isNamed 26 = .ok (.getfield 33, 3) := by decide +kernel
theorem dX7_isNamed_29 : decode cX7_isNamed 29 = .ok (.iload 5, 2) := by decide +kernel
theorem dX7_isNamed_31 : decode cX7_isNamed 31 = .ok (.iaload, 1) := by decide +kernel
theorem dX7_isNamed_32 : decode cX7_isNamed 32 = .ok (.istore 8, 2) := by decide +kernel
theorem dX7_isNamed_34 : decode cX7_isNamed 34 = .ok (.iload 7, 2) := by decide +kernel
theorem dX7_isNamed_36 : decode cX7_isNamed 36 = .ok (.bipush (-128), 2) := by decide +kernel
theorem dX7_isNamed_38 : decode cX7_isNamed 38 = .ok (.if_icmp .eq 22, 3) := by decide +kernel
theorem dX7_isNamed_41 : decode cX7_isNamed 41 = .ok (.iload 7, 2) := by decide +kernel
theorem dX7_isNamed_43 : decode cX7_isNamed 43 = .ok (.iload 8, 2) := by decide +kernel
theorem dX7_isNamed_45 : decode cX7_isNamed 45 = .ok (.iload 4, 2) := by decide +kernel
theorem dX7_isNamed_47 : decode cX7_isNamed 47 = .ok (.isub, 1) := by decide +kernel
theorem dX7_isNamed_48 : decode cX7_isNamed 48 = .ok (.if_icmp .lt 10, 3) := by decide +kernel
theorem dX7_isNamed_51 : decode cX7_isNamed 51 = .ok (.iload 7, 2) := by decide +kernel
theorem dX7_isNamed_53 : decode cX7_isNamed 53 = .ok (.iload 8, 2) := by decide +kernel
theorem dX7_isNamed_55 : decode cX7_isNamed 55 = .ok (.if_icmp .le 5, 3) := by decide +kernel
theorem dX7_isNamed_58 : decode cX7_isNamed 58 = .ok (.iconst 0, 1) := by decide +kernel
theorem dX7_isNamed_59 : decode cX7_isNamed 59 = .ok (.ireturn, 1) := by decide +kernel
theorem dX7_isNamed_60 : decode cX7_isNamed 60 = .ok (.iload 5, 2) := by decide +kernel
theorem dX7_isNamed_62 : decode cX7_isNamed 62 = .ok (.iload_n 3, 1) := by decide +kernel
theorem dX7_isNamed_63 : decode cX7_isNamed 63 = .ok (.iadd, 1) := by decide +kernel
theorem dX7_isNamed_64 : decode cX7_isNamed 64 = .ok (.istore 5, 2) := by decide +kernel
theorem dX7_isNamed_66 : decode cX7_isNamed 66 = .ok (.iload 5, 2) := by decide +kernel
theorem dX7_isNamed_68 : decode cX7_isNamed 68 = .ok (.ifCond .ge 14, 3) := by decide +kernel
theorem dX7_isNamed_71 : decode cX7_isNamed 71 = .ok (.aload_n 1, 1) := by decide +kernel
theorem dX7_isNamed_72 : decode cX7_isNamed 72 = .ok (.getfield 15, 3) := by decide +kernel
theorem dX7_isNamed_75 : decode cX7_isNamed 75 = .ok (.iconst 1, 1) := by decide +kernel
theorem dX7_isNamed_76 : decode cX7_isNamed 76 = .ok (.isub, 1) := by decide +kernel
theorem dX7_isNamed_77 : decode cX7_isNamed 77 = .ok (.istore 5, 2) := by decide +kernel
theorem dX7_isNamed_79 : decode cX7_isNamed 79 = .ok (.goto 15, 3) := by decide +kernel
theorem dX7_isNamed_82 : decode cX7_isNamed 82 = .ok (.iload 5, 2) := by decide +kernel
theorem dX7_isNamed_84 : decode cX7_isNamed 84 = .ok (.aload_n 1, 1) := by decide +kernel
theorem dX7_isNamed_85 : decode cX7_isNamed 85 = .ok (.getfield 15, 3) := by decide +kernel
theorem dX7_isNamed_88 : decode cX7_isNamed 88 = .ok (.if_icmp .lt 6, 3) := by decide +kernel
theorem dX7_isNamed_91 : decode cX7_isNamed 91 = .ok (.iconst 0, 1) := by decide +kernel
theorem dX7_isNamed_92 : decode cX7_isNamed 92 = .ok (.istore 5, 2) := by decide +kernel
theorem dX7_isNamed_94 : decode cX7_isNamed 94 = .ok (.iinc 6 1, 3) := by decide +kernel
theorem dX7_isNamed_97 : decode cX7_isNamed 97 = .ok (.goto (-91), 3) := by decide +kernel
theorem dX7_isNamed_100 : decode cX7_isNamed 100 = .ok (.iconst 1, 1) := by decide +kernel
theorem dX7_isNamed_101 : decode cX7_isNamed 101 = .ok (.ireturn, 1) := by decide +kernel
theorem dX8_init_0 : decode cX8_init 0 = .ok (.aload_n 0, 1) := by decide +kernel
theorem dX8_init_1 : decode cX8_init 1 = .ok (.invokespecial 3, 3) := by decide +kernel
theorem dX8_init_4 : decode cX8_init 4 = .ok (.aload_n 0, 1) := by decide +kernel
theorem dX8_init_5 : decode cX8_init 5 = .ok (.sipush 600, 3) := by decide +kernel
theorem dX8_init_8 : decode cX8_init 8 = .ok (.newarray .int, 2) := by decide +kernel
theorem dX8_init_10 : decode cX8_init 10 = .ok (.putfield 9, 3) := by decide +kernel
theorem dX8_init_13 : decode cX8_init 13 = .ok (.aload_n 0, 1) := by decide +kernel
theorem dX8_init_14 : decode cX8_init 14 = .ok (.sipush 600, 3) := by decide +kernel
theorem dX8_init_17 : decode cX8_init 17 = .ok (.newarray .int, 2) := by decide +kernel
theorem dX8_init_19 : decode cX8_init 19 = .ok (.putfield 15, 3) := by decide +kernel
theorem dX8_init_22 : decode cX8_init 22 = .ok (.return_, 1) := by decide +kernel
theorem dX8_forget_0 : decode cX8_forget 0 = .ok (.aload_n 0, 1) := by decide +kernel
theorem dX8_forget_1 : decode cX8_forget 1 = .ok (.iconst 0, 1) := by decide +kernel
theorem dX8_forget_2 : decode cX8_forget 2 = .ok (.putfield 18, 3) := by decide +kernel
theorem dX8_forget_5 : decode cX8_forget 5 = .ok (.aload_n 0, 1) := by decide +kernel
theorem dX8_forget_6 : decode cX8_forget 6 = .ok (.iconst 0, 1) := by decide +kernel
theorem dX8_forget_7 : decode cX8_forget 7 = .ok (.putfield 22, 3) := by decide +kernel
theorem dX8_forget_10 : decode cX8_forget 10 = .ok (.return_, 1) := by decide +kernel
theorem dX8_start_0 : decode cX8_start 0 = .ok (.aload_n 0, 1) := by decide +kernel
theorem dX8_start_1 : decode cX8_start 1 = .ok (.iconst 1, 1) := by decide +kernel
theorem dX8_start_2 : decode cX8_start 2 = .ok (.putfield 18, 3) := by decide +kernel
theorem dX8_start_5 : decode cX8_start 5 = .ok (.aload_n 0, 1) := by decide +kernel
theorem dX8_start_6 : decode cX8_start 6 = .ok (.iconst 0, 1) := by decide +kernel
theorem dX8_start_7 : decode cX8_start 7 = .ok (.putfield 22, 3) := by decide +kernel
theorem dX8_start_10 : decode cX8_start 10 = .ok (.aload_n 0, 1) := by decide +kernel
theorem dX8_start_11 : decode cX8_start 11 = .ok (.iconst 0, 1) := by decide +kernel
theorem dX8_start_12 : decode cX8_start 12 = .ok (.putfield 26, 3) := by decide +kernel
theorem dX8_start_15 : decode cX8_start 15 = .ok (.aload_n 0, 1) := by decide +kernel
theorem dX8_start_16 : decode cX8_start 16 = .ok (.iconst 0, 1) := by decide +kernel
theorem dX8_start_17 : decode cX8_start 17 = .ok (.putfield 29, 3) := by decide +kernel
theorem dX8_start_20 : decode cX8_start 20 = .ok (.aload_n 0, 1) := by decide +kernel
theorem dX8_start_21 : decode cX8_start 21 = .ok (.iconst 0, 1) := by decide +kernel
theorem dX8_start_22 : decode cX8_start 22 = .ok (.putfield 32, 3) := by decide +kernel
theorem dX8_start_25 : decode cX8_start 25 = .ok (.aload_n 0, 1) := by decide +kernel
theorem dX8_start_26 : decode cX8_start 26 = .ok (.iconst 0, 1) := by decide +kernel
theorem dX8_start_27 : decode cX8_start 27 = .ok (.putfield 35, 3) := by decide +kernel
theorem dX8_start_30 : decode cX8_start 30 = .ok (.aload_n 0, 1) := by decide +kernel
theorem dX8_start_31 : decode cX8_start 31 = .ok (.iconst 0, 1) := by decide +kernel
theorem dX8_start_32 : decode cX8_start 32 = .ok (.putfield 38, 3) := by decide +kernel
theorem dX8_start_35 : decode cX8_start 35 = .ok (.aload_n 0, 1) := by decide +kernel
theorem dX8_start_36 : decode cX8_start 36 = .ok (.iconst 0, 1) := by decide +kernel
theorem dX8_start_37 : decode cX8_start 37 = .ok (.putfield 41, 3) := by decide +kernel
theorem dX8_start_40 : decode cX8_start 40 = .ok (.aload_n 0, 1) := by decide +kernel
theorem dX8_start_41 : decode cX8_start 41 = .ok (.iconst 0, 1) := by decide +kernel
theorem dX8_start_42 : decode cX8_start 42 = .ok (.putfield 44, 3) := by decide +kernel
theorem dX8_start_45 : decode cX8_start 45 = .ok (.aload_n 0, 1) := by decide +kernel
theorem dX8_start_46 : decode cX8_start 46 = .ok (.iconst 0, 1) := by decide +kernel
theorem dX8_start_47 : decode cX8_start 47 = .ok (.putfield 47, 3) := by decide +kernel
theorem dX8_start_50 : decode cX8_start 50 = .ok (.aload_n 0, 1) := by decide +kernel
theorem dX8_start_51 : decode cX8_start 51 = .ok (.iconst 0, 1) := by decide +kernel
theorem dX8_start_52 : decode cX8_start 52 = .ok (.putfield 50, 3) := by decide +kernel
theorem dX8_start_55 : decode cX8_start 55 = .ok (.aload_n 0, 1) := by decide +kernel
theorem dX8_start_56 : decode cX8_start 56 = .ok (.iload_n 1, 1) := by decide +kernel
theorem dX8_start_57 : decode cX8_start 57 = .ok (.putfield 53, 3) := by decide +kernel
theorem dX8_start_60 : decode cX8_start 60 = .ok (.return_, 1) := by decide +kernel
set_option maxRecDepth 20000 in
theorem ggX8_sews_X8_sewsOne : GoodIn wsX8_sews wsX8_sewsOne := goodIn_r _ [7, 8, 2, 9, 10, 11, 12, 13, 14, 15, 16, 17, 1, 18, 19, 20, 21, 22, 23, 24, 6, 25, 26, 27, 28, 29, 30, 31, 32, 33, 34, 35, 36, 37, 38, 39, 40, 41, 42, 43, 44, 45, 46, 47, 51, 52, 53, 54, 55, 56, 57, 58, 59, 60, 61, 62, 63, 64, 48, 49, 50, 65, 66, 67, 68, 69] (by decide +kernel) (by decide +kernel)
set_option maxRecDepth 20000 in
theorem gX8_sews_X8_sewsOne : GoodIn wsX8_sews (wsV RX8 59 RX8 yX8_sewsOne wsX8_sewsOne) := goodIn_app (goodIn_of _ (by decide +kernel)) ggX8_sews_X8_sewsOne
theorem dX8_sews_0 : decode cX8_sews 0 = .ok (.aload_n 1, 1) := by decide +kernel
theorem dX8_sews_1 : decode cX8_sews 1 = .ok (.getfield 56, 3) := by decide +kernel
theorem dX8_sews_4 : decode cX8_sews 4 = .ok (.ifCond .ne 10, 3) := by decide +kernel
theorem dX8_sews_7 : decode cX8_sews 7 = .ok (.aload_n 0, 1) := by decide +kernel
theorem dX8_sews_8 : decode cX8_sews 8 = .ok (.iconst 4, 1) := by decide +kernel
theorem dX8_sews_9 : decode cX8_sews 9 = .ok (.putfield 38, 3) := by decide +kernel
theorem dX8_sews_12 : decode cX8_sews 12 = .ok (.iconst 0, 1) := by decide +kernel
theorem dX8_sews_13 : decode cX8_sews 13 = .ok (.ireturn, 1) := by decide +kernel
theorem dX8_sews_14 : decode cX8_sews 14 = .ok (.iconst 0, 1) := by decide +kernel
theorem dX8_sews_15 : decode cX8_sews 15 = .ok (.istore 4, 2) := by decide +kernel
theorem dX8_sews_17 : decode cX8_sews 17 = .ok (.iload 4, 2) := by decide +kernel
theorem dX8_sews_19 : decode cX8_sews 19 = .ok (.iload_n 3, 1) := by decide +kernel
theorem dX8_sews_20 : decode cX8_sews 20 = .ok (.if_icmp .ge 20, 3) := by decide +kernel
theorem dX8_sews_23 : decode cX8_sews 23 = .ok (.aload_n 0, 1) := by decide +kernel
theorem dX8_sews_24 : decode cX8_sews 24 = .ok (.aload_n 1, 1) := by decide +kernel
theorem dX8_sews_25 : decode cX8_sews 25 = .ok (.aload_n 2, 1) := by decide +kernel
theorem dX8_sews_26 : decode cX8_sews 26 = .ok (.invokevirtual 59, 3) := by decide +kernel
theorem dX8_sews_29 : decode cX8_sews 29 = .ok (.ifCond .ne 5, 3) := by decide +kernel
theorem dX8_sews_32 : decode cX8_sews 32 = .ok (.iconst 0, 1) := by decide +kernel
theorem dX8_sews_33 : decode cX8_sews 33 = .ok (.ireturn, 1) := by decide +kernel
theorem dX8_sews_34 : decode cX8_sews 34 = .ok (.iinc 4 1, 3) := by decide +kernel
theorem dX8_sews_37 : decode cX8_sews 37 = .ok (.goto (-20), 3) := by decide +kernel
theorem dX8_sews_40 : decode cX8_sews 40 = .ok (.iconst 1, 1) := by decide +kernel
theorem dX8_sews_41 : decode cX8_sews 41 = .ok (.ireturn, 1) := by decide +kernel
set_option maxRecDepth 20000 in
theorem ggX8_sewsOne_X8_takesThread : GoodIn wsX8_sewsOne wsX8_takesThread := goodIn_r _ [21, 22, 23, 24, 25, 2, 26, 27, 28, 29, 30, 31, 32, 33, 34, 35, 36, 37, 38, 61, 62, 63, 64, 65, 44, 45, 46, 47, 48, 49, 50, 51, 52, 53, 54, 55, 56, 57] (by decide +kernel) (by decide +kernel)
set_option maxRecDepth 20000 in
theorem gX8_sewsOne_X8_takesThread : GoodIn wsX8_sewsOne (wsV RX8 75 RX8 yX8_takesThread wsX8_takesThread) := goodIn_app (goodIn_of _ (by decide +kernel)) ggX8_sewsOne_X8_takesThread
set_option maxRecDepth 20000 in
theorem ggX8_sewsOne_X8_moves : GoodIn wsX8_sewsOne wsX8_moves := goodIn_r _ [42, 43, 14, 16, 44, 45, 46, 47, 48, 49, 50, 51, 52, 53, 54, 55, 56, 57] (by decide +kernel) (by decide +kernel)
set_option maxRecDepth 20000 in
theorem gX8_sewsOne_X8_moves : GoodIn wsX8_sewsOne (wsV RX8 79 RX8 yX8_moves wsX8_moves) := goodIn_app (goodIn_of _ (by decide +kernel)) ggX8_sewsOne_X8_moves
theorem dX8_sewsOne_0 : decode cX8_sewsOne 0 = .ok (.aload_n 0, 1) := by decide +kernel
theorem dX8_sewsOne_1 : decode cX8_sewsOne 1 = .ok (.getfield 22, 3) := by decide +kernel
theorem dX8_sewsOne_4 : decode cX8_sewsOne 4 = .ok (.sipush 600, 3) := by decide +kernel
theorem dX8_sewsOne_7 : decode cX8_sewsOne 7 = .ok (.if_icmp .lt 10, 3) := by decide +kernel
theorem dX8_sewsOne_10 : decode cX8_sewsOne 10 = .ok (.aload_n 0, 1) := by decide +kernel
theorem dX8_sewsOne_11 : decode cX8_sewsOne 11 = .ok (.iconst 3, 1) := by decide +kernel
theorem dX8_sewsOne_12 : decode cX8_sewsOne 12 = .ok (.putfield 38, 3) := by decide +kernel
theorem dX8_sewsOne_15 : decode cX8_sewsOne 15 = .ok (.iconst 0, 1) := by decide +kernel
theorem dX8_sewsOne_16 : decode cX8_sewsOne 16 = .ok (.ireturn, 1) := by decide +kernel
theorem dX8_sewsOne_17 : decode cX8_sewsOne 17 = .ok (.aload_n 1, 1) := by decide +kernel
theorem dX8_sewsOne_18 : decode cX8_sewsOne 18 = .ok (.getfield 63, 3) := by decide +kernel
theorem dX8_sewsOne_21 : decode cX8_sewsOne 21 = .ok (.aload_n 0, 1) := by decide +kernel
theorem dX8_sewsOne_22 : decode cX8_sewsOne 22 = .ok (.getfield 50, 3) := by decide +kernel
theorem dX8_sewsOne_25 : decode cX8_sewsOne 25 = .ok (.iaload, 1) := by decide +kernel
theorem dX8_sewsOne_26 : decode cX8_sewsOne 26 = .ok (.aload_n 0, 1) := by decide +kernel
theorem dX8_sewsOne_27 : decode cX8_sewsOne 27 = .ok (.getfield 53, 3) := by decide +kernel
theorem dX8_sewsOne_30 : decode cX8_sewsOne 30 = .ok (.isub, 1) := by decide +kernel
theorem dX8_sewsOne_31 : decode cX8_sewsOne 31 = .ok (.istore_n 3, 1) := by decide +kernel
theorem dX8_sewsOne_32 : decode cX8_sewsOne 32 = .ok (.aload_n 0, 1) := by decide +kernel
theorem dX8_sewsOne_33 : decode cX8_sewsOne 33 = .ok (.getfield 35, 3) := by decide +kernel
theorem dX8_sewsOne_36 : decode cX8_sewsOne 36 = .ok (.ifCond .eq 16, 3) := by decide +kernel
theorem dX8_sewsOne_39 : decode cX8_sewsOne 39 = .ok (.aload_n 1, 1) := by decide +kernel
theorem dX8_sewsOne_40 : decode cX8_sewsOne 40 = .ok (.getfield 66, 3) := by decide +kernel
theorem dX8_sewsOne_43 : decode cX8_sewsOne 43 = .ok (.aload_n 0, 1) := by decide +kernel
theorem dX8_sewsOne_44 : decode cX8_sewsOne 44 = .ok (.getfield 50, 3) := by decide +kernel
theorem dX8_sewsOne_47 : decode cX8_sewsOne 47 = .ok (.iaload, 1) := by decide +kernel
theorem dX8_sewsOne_48 : decode cX8_sewsOne 48 = .ok (.ineg, 1) := by decide +kernel
theorem dX8_sewsOne_49 : decode cX8_sewsOne 49 = .ok (.goto 12, 3) := by decide +kernel
theorem dX8_sewsOne_52 : decode cX8_sewsOne 52 = .ok (.aload_n 1, 1) := by decide +kernel
theorem dX8_sewsOne_53 : decode cX8_sewsOne 53 = .ok (.getfield 66, 3) := by decide +kernel
theorem dX8_sewsOne_56 : decode cX8_sewsOne 56 = .ok (.aload_n 0, 1) := by decide +kernel
theorem dX8_sewsOne_57 : decode cX8_sewsOne 57 = .ok (.getfield 50, 3) := by decide +kernel
theorem dX8_sewsOne_60 : decode cX8_sewsOne 60 = .ok (.iaload, 1) := by decide +kernel
theorem dX8_sewsOne_61 : decode cX8_sewsOne 61 = .ok (.istore 4, 2) := by decide +kernel
theorem dX8_sewsOne_63 : decode cX8_sewsOne 63 = .ok (.aload_n 0, 1) := by decide +kernel
theorem dX8_sewsOne_64 : decode cX8_sewsOne 64 = .ok (.iload_n 3, 1) := by decide +kernel
theorem dX8_sewsOne_65 : decode cX8_sewsOne 65 = .ok (.invokestatic 69, 3) := by decide +kernel
theorem dX8_sewsOne_68 : decode cX8_sewsOne 68 = .ok (.iload 4, 2) := by decide +kernel
theorem dX8_sewsOne_70 : decode cX8_sewsOne 70 = .ok (.invokestatic 69, 3) := by decide +kernel
theorem dX8_sewsOne_73 : decode cX8_sewsOne 73 = .ok (.iadd, 1) := by decide +kernel
theorem dX8_sewsOne_74 : decode cX8_sewsOne 74 = .ok (.aload_n 2, 1) := by decide +kernel
theorem dX8_sewsOne_75 : decode cX8_sewsOne 75 = .ok (.invokevirtual 75, 3) := by decide +kernel
theorem dX8_sewsOne_78 : decode cX8_sewsOne 78 = .ok (.ifCond .ne 5, 3) := by decide +kernel
theorem dX8_sewsOne_81 : decode cX8_sewsOne 81 = .ok (.iconst 0, 1) := by decide +kernel
theorem dX8_sewsOne_82 : decode cX8_sewsOne 82 = .ok (.ireturn, 1) := by decide +kernel
theorem dX8_sewsOne_83 : decode cX8_sewsOne 83 = .ok (.aload_n 0, 1) := by decide +kernel
theorem dX8_sewsOne_84 : decode cX8_sewsOne 84 = .ok (.aload_n 1, 1) := by decide +kernel
theorem dX8_sewsOne_85 : decode cX8_sewsOne 85 = .ok (.getfield 63, 3) := by decide +kernel
theorem dX8_sewsOne_88 : decode cX8_sewsOne 88 = .ok (.aload_n 0, 1) := by decide +kernel
theorem dX8_sewsOne_89 : decode cX8_sewsOne 89 = .ok (.getfield 50, 3) := by decide +kernel
theorem dX8_sewsOne_92 : decode cX8_sewsOne 92 = .ok (.iaload, 1) := by decide +kernel
theorem dX8_sewsOne_93 : decode cX8_sewsOne 93 = .ok (.putfield 53, 3) := by decide +kernel
theorem dX8_sewsOne_96 : decode cX8_sewsOne 96 = .ok (.aload_n 0, 1) := by decide +kernel
theorem dX8_sewsOne_97 : decode cX8_sewsOne 97 = .ok (.aload_n 0, 1) := by decide +kernel
theorem dX8_sewsOne_98 : decode cX8_sewsOne 98 = .ok (.getfield 50, 3) := by decide +kernel
theorem dX8_sewsOne_101 : decode cX8_sewsOne 101 = .ok (.iconst 1, 1) := by decide +kernel
theorem dX8_sewsOne_102 : decode cX8_sewsOne 102 = .ok (.iadd, 1) := by decide +kernel
theorem dX8_sewsOne_103 : decode cX8_sewsOne 103 = .ok (.aload_n 1, 1) := by decide +kernel
theorem dX8_sewsOne_104 : decode cX8_sewsOne 104 = .ok (.getfield 56, 3) := by decide +kernel
theorem dX8_sewsOne_107 : decode cX8_sewsOne 107 = .ok (.if_icmp .ge 12, 3) := by decide +kernel
theorem dX8_sewsOne_110 : decode cX8_sewsOne 110 = .ok (.aload_n 0, 1) := by decide +kernel
theorem dX8_sewsOne_111 : decode cX8_sewsOne 111 = .ok (.getfield 50, 3) := by decide +kernel
theorem dX8_sewsOne_114 : decode cX8_sewsOne 114 = .ok (.iconst 1, 1) := by decide +kernel
theorem dX8_sewsOne_115 : decode cX8_sewsOne 115 = .ok (.iadd, 1) := by decide +kernel
theorem dX8_sewsOne_116 : decode cX8_sewsOne 116 = .ok (.goto 4, 3) := by decide +kernel
theorem dX8_sewsOne_119 : decode cX8_sewsOne 119 = .ok (.iconst 0, 1) := by decide +kernel
theorem dX8_sewsOne_120 : decode cX8_sewsOne 120 = .ok (.putfield 50, 3) := by decide +kernel
theorem dX8_sewsOne_123 : decode cX8_sewsOne 123 = .ok (.aload_n 0, 1) := by decide +kernel
theorem dX8_sewsOne_124 : decode cX8_sewsOne 124 = .ok (.iload_n 3, 1) := by decide +kernel
theorem dX8_sewsOne_125 : decode cX8_sewsOne 125 = .ok (.iload 4, 2) := by decide +kernel
theorem dX8_sewsOne_127 : decode cX8_sewsOne 127 = .ok (.invokevirtual 79, 3) := by decide +kernel
theorem dX8_sewsOne_130 : decode cX8_sewsOne 130 = .ok (.aload_n 0, 1) := by decide +kernel
theorem dX8_sewsOne_131 : decode cX8_sewsOne 131 = .ok (.getfield 9, 3) := by decide +kernel
theorem dX8_sewsOne_134 : decode cX8_sewsOne 134 = .ok (.aload_n 0, 1) := by decide +kernel
theorem dX8_sewsOne_135 : decode cX8_sewsOne 135 = .ok (.getfield 22, 3) := by decide +kernel
theorem dX8_sewsOne_138 : decode cX8_sewsOne 138 = .ok (.aload_n 0, 1) := by decide +kernel
theorem dX8_sewsOne_139 : decode cX8_sewsOne 139 = .ok (.getfield 26, 3) := by decide +kernel
theorem dX8_sewsOne_142 : decode cX8_sewsOne 142 = .ok (.iastore, 1) := by decide +kernel
theorem dX8_sewsOne_143 : decode cX8_sewsOne 143 = .ok (.aload_n 0, 1) := by decide +kernel
theorem dX8_sewsOne_144 : decode cX8_sewsOne 144 = .ok (.getfield 15, 3) := by decide +kernel
theorem dX8_sewsOne_147 : decode cX8_sewsOne 147 = .ok (.aload_n 0, 1) := by decide +kernel
theorem dX8_sewsOne_148 : decode cX8_sewsOne 148 = .ok (.getfield 22, 3) := by decide +kernel
theorem dX8_sewsOne_151 : decode cX8_sewsOne 151 = .ok (.aload_n 0, 1) := by decide +kernel
theorem dX8_sewsOne_152 : decode cX8_sewsOne 152 = .ok (.getfield 29, 3) := by decide +kernel
theorem dX8_sewsOne_155 : decode cX8_sewsOne 155 = .ok (.iastore, 1) := by decide +kernel
theorem dX8_sewsOne_156 : decode cX8_sewsOne 156 = .ok (.aload_n 0, 1) := by decide +kernel
theorem dX8_sewsOne_157 : decode cX8_sewsOne 157 = .ok (.dup, 1) := by decide +kernel
theorem dX8_sewsOne_158 : decode cX8_sewsOne 158 = .ok (.getfield 22, 3) := by decide +kernel
theorem dX8_sewsOne_161 : decode cX8_sewsOne 161 = .ok (.iconst 1, 1) := by decide +kernel
theorem dX8_sewsOne_162 : decode cX8_sewsOne 162 = .ok (.iadd, 1) := by decide +kernel
theorem dX8_sewsOne_163 : decode cX8_sewsOne 163 = .ok (.putfield 22, 3) := by decide +kernel
theorem dX8_sewsOne_166 : decode cX8_sewsOne 166 = .ok (.iconst 1, 1) := by decide +kernel
theorem dX8_sewsOne_167 : decode cX8_sewsOne 167 = .ok (.ireturn, 1) := by decide +kernel
set_option maxRecDepth 20000 in
theorem ggX8_takesThread_X0_depth : GoodIn wsX8_takesThread wsX0_depth := goodIn_r _ [12, 13, 14, 15, 11, 16, 17, 19, 20, 21, 22, 23] (by decide +kernel) (by decide +kernel)
set_option maxRecDepth 20000 in
theorem gX8_takesThread_X0_depth : GoodIn wsX8_takesThread (wsV RX8 91 RX0 yX0_depth wsX0_depth) := goodIn_app (goodIn_of _ (by decide +kernel)) ggX8_takesThread_X0_depth
set_option maxRecDepth 20000 in
theorem ggX8_takesThread_X0_bothThicks : GoodIn wsX8_takesThread wsX0_bothThicks := goodIn_r _ [16, 17, 19, 20, 21, 22, 23] (by decide +kernel) (by decide +kernel)
set_option maxRecDepth 20000 in
theorem gX8_takesThread_X0_bothThicks : GoodIn wsX8_takesThread (wsV RX8 95 RX0 yX0_bothThicks wsX0_bothThicks) := goodIn_app (goodIn_of _ (by decide +kernel)) ggX8_takesThread_X0_bothThicks
theorem dX8_takesThread_0 : decode cX8_takesThread 0 = .ok (.aload_n 2, 1) := by decide +kernel
theorem dX8_takesThread_1 : decode cX8_takesThread 1 = .ok (.aload_n 2, 1) := by decide +kernel
theorem dX8_takesThread_2 : decode cX8_takesThread 2 = .ok (.getfield 83, 3) := by decide +kernel
theorem dX8_takesThread_5 : decode cX8_takesThread 5 = .ok (.aload_n 2, 1) := by decide +kernel
theorem dX8_takesThread_6 : decode cX8_takesThread 6 = .ok (.getfield 88, 3) := by decide +kernel
theorem dX8_takesThread_9 : decode cX8_takesThread 9 = .ok (.invokevirtual 91, 3) := by decide +kernel
theorem dX8_takesThread_12 : decode cX8_takesThread 12 = .ok (.istore_n 3, 1) := by decide +kernel
theorem dX8_takesThread_13 : decode cX8_takesThread 13 = .ok (.iload_n 1, 1) := by decide +kernel
theorem dX8_takesThread_14 : decode cX8_takesThread 14 = .ok (.iconst 2, 1) := by decide +kernel
theorem dX8_takesThread_15 : decode cX8_takesThread 15 = .ok (.iload_n 3, 1) := by decide +kernel
theorem dX8_takesThread_16 : decode cX8_takesThread 16 = .ok (.imul, 1) := by decide +kernel
theorem dX8_takesThread_17 : decode cX8_takesThread 17 = .ok (.iadd, 1) := by decide +kernel
theorem dX8_takesThread_18 : decode cX8_takesThread 18 = .ok (.istore 4, 2) := by decide +kernel
theorem dX8_takesThread_20 : decode cX8_takesThread 20 = .ok (.iload_n 1, 1) := by decide +kernel
theorem dX8_takesThread_21 : decode cX8_takesThread 21 = .ok (.iconst 2, 1) := by decide +kernel
theorem dX8_takesThread_22 : decode cX8_takesThread 22 = .ok (.aload_n 2, 1) := by decide +kernel
theorem dX8_takesThread_23 : decode cX8_takesThread 23 = .ok (.invokevirtual 95, 3) := by decide +kernel
theorem dX8_takesThread_26 : decode cX8_takesThread 26 = .ok (.iload_n 3, 1) := by decide +kernel
theorem dX8_takesThread_27 : decode cX8_takesThread 27 = .ok (.isub, 1) := by decide +kernel
theorem dX8_takesThread_28 : decode cX8_takesThread 28 = .ok (.imul, 1) := by decide +kernel
theorem dX8_takesThread_29 : decode cX8_takesThread 29 = .ok (.iadd, 1) := by decide +kernel
theorem dX8_takesThread_30 : decode cX8_takesThread 30 = .ok (.istore 5, 2) := by decide +kernel
theorem dX8_takesThread_32 : decode cX8_takesThread 32 = .ok (.iload 4, 2) := by decide +kernel
theorem dX8_takesThread_34 : decode cX8_takesThread 34 = .ok (.aload_n 2, 1) := by decide +kernel
theorem dX8_takesThread_35 : decode cX8_takesThread 35 = .ok (.getfield 99, 3) := by decide +kernel
theorem dX8_takesThread_38 : decode cX8_takesThread 38 = .ok (.if_icmp .gt 12, 3) := by decide +kernel
theorem dX8_takesThread_41 : decode cX8_takesThread 41 = .ok (.iload 5, 2) := by decide +kernel
theorem dX8_takesThread_43 : decode cX8_takesThread 43 = .ok (.aload_n 2, 1) := by decide +kernel
theorem dX8_takesThread_44 : decode cX8_takesThread 44 = .ok (.getfield 102, 3) := by decide +kernel
theorem dX8_takesThread_47 : decode cX8_takesThread 47 = .ok (.if_icmp .le 23, 3) := by decide +kernel
theorem dX8_takesThread_50 : decode cX8_takesThread 50 = .ok (.aload_n 0, 1) := by decide +kernel
theorem dX8_takesThread_51 : decode cX8_takesThread 51 = .ok (.iload 4, 2) := by decide +kernel
theorem dX8_takesThread_53 : decode cX8_takesThread 53 = .ok (.aload_n 2, 1) := by decide +kernel
theorem dX8_takesThread_54 : decode cX8_takesThread 54 = .ok (.getfield 99, 3) := by decide +kernel
theorem dX8_takesThread_57 : decode cX8_takesThread 57 = .ok (.if_icmp .le 7, 3) := by decide +kernel
theorem dX8_takesThread_60 : decode cX8_takesThread 60 = .ok (.iconst 1, 1) := by decide +kernel
theorem dX8_takesThread_61 : decode cX8_takesThread 61 = .ok (.goto 4, 3) := by decide +kernel
theorem dX8_takesThread_64 : decode cX8_takesThread 64 = .ok (.iconst 2, 1) := by decide +kernel
theorem dX8_takesThread_65 : decode cX8_takesThread 65 = .ok (.putfield 38, 3) := by decide +kernel
theorem dX8_takesThread_68 : decode cX8_takesThread 68 = .ok (.iconst 0, 1) := by decide +kernel
theorem dX8_takesThread_69 : decode cX8_takesThread 69 = .ok (.ireturn, 1) := by decide +kernel
theorem dX8_takesThread_70 : decode cX8_takesThread 70 = .ok (.aload_n 2, 1) := by decide +kernel
theorem dX8_takesThread_71 : decode cX8_takesThread 71 = .ok (.dup, 1) := by decide +kernel
theorem dX8_takesThread_72 : decode cX8_takesThread 72 = .ok (.getfield 99, 3) := by decide +kernel
theorem dX8_takesThread_75 : decode cX8_takesThread 75 = .ok (.iload 4, 2) := by decide +kernel
theorem dX8_takesThread_77 : decode cX8_takesThread 77 = .ok (.isub, 1) := by decide +kernel
theorem dX8_takesThread_78 : decode cX8_takesThread 78 = .ok (.putfield 99, 3) := by decide +kernel
theorem dX8_takesThread_81 : decode cX8_takesThread 81 = .ok (.aload_n 2, 1) := by decide +kernel
theorem dX8_takesThread_82 : decode cX8_takesThread 82 = .ok (.dup, 1) := by decide +kernel
theorem dX8_takesThread_83 : decode cX8_takesThread 83 = .ok (.getfield 102, 3) := by decide +kernel
theorem dX8_takesThread_86 : decode cX8_takesThread 86 = .ok (.iload 5, 2) := by decide +kernel
theorem dX8_takesThread_88 : decode cX8_takesThread 88 = .ok (.isub, 1) := by decide +kernel
theorem dX8_takesThread_89 : decode cX8_takesThread 89 = .ok (.putfield 102, 3) := by decide +kernel
theorem dX8_takesThread_92 : decode cX8_takesThread 92 = .ok (.aload_n 0, 1) := by decide +kernel
theorem dX8_takesThread_93 : decode cX8_takesThread 93 = .ok (.dup, 1) := by decide +kernel
theorem dX8_takesThread_94 : decode cX8_takesThread 94 = .ok (.getfield 41, 3) := by decide +kernel
theorem dX8_takesThread_97 : decode cX8_takesThread 97 = .ok (.iload 4, 2) := by decide +kernel
theorem dX8_takesThread_99 : decode cX8_takesThread 99 = .ok (.iadd, 1) := by decide +kernel
theorem dX8_takesThread_100 : decode cX8_takesThread 100 = .ok (.putfield 41, 3) := by decide +kernel
theorem dX8_takesThread_103 : decode cX8_takesThread 103 = .ok (.aload_n 0, 1) := by decide +kernel
theorem dX8_takesThread_104 : decode cX8_takesThread 104 = .ok (.dup, 1) := by decide +kernel
theorem dX8_takesThread_105 : decode cX8_takesThread 105 = .ok (.getfield 44, 3) := by decide +kernel
theorem dX8_takesThread_108 : decode cX8_takesThread 108 = .ok (.iload 5, 2) := by decide +kernel
theorem dX8_takesThread_110 : decode cX8_takesThread 110 = .ok (.iadd, 1) := by decide +kernel
theorem dX8_takesThread_111 : decode cX8_takesThread 111 = .ok (.putfield 44, 3) := by decide +kernel
theorem dX8_takesThread_114 : decode cX8_takesThread 114 = .ok (.iconst 1, 1) := by decide +kernel
theorem dX8_takesThread_115 : decode cX8_takesThread 115 = .ok (.ireturn, 1) := by decide +kernel
theorem dX8_moves_0 : decode cX8_moves 0 = .ok (.aload_n 0, 1) := by decide +kernel
theorem dX8_moves_1 : decode cX8_moves 1 = .ok (.getfield 32, 3) := by decide +kernel
theorem dX8_moves_4 : decode cX8_moves 4 = .ok (.tableswitch 97 0 2 #[28, 51, 74], 28) := by decide +kernel
theorem dX8_moves_32 : decode cX8_moves 32 = .ok (.aload_n 0, 1) := by decide +kernel
theorem dX8_moves_33 : decode cX8_moves 33 = .ok (.dup, 1) := by decide +kernel
theorem dX8_moves_34 : decode cX8_moves 34 = .ok (.getfield 26, 3) := by decide +kernel
theorem dX8_moves_37 : decode cX8_moves 37 = .ok (.iload_n 1, 1) := by decide +kernel
theorem dX8_moves_38 : decode cX8_moves 38 = .ok (.iadd, 1) := by decide +kernel
theorem dX8_moves_39 : decode cX8_moves 39 = .ok (.putfield 26, 3) := by decide +kernel
theorem dX8_moves_42 : decode cX8_moves 42 = .ok (.aload_n 0, 1) := by decide +kernel
theorem dX8_moves_43 : decode cX8_moves 43 = .ok (.dup, 1) := by decide +kernel
theorem dX8_moves_44 : decode cX8_moves 44 = .ok (.getfield 29, 3) := by decide +kernel
theorem dX8_moves_47 : decode cX8_moves 47 = .ok (.iload_n 2, 1) := by decide +kernel
theorem dX8_moves_48 : decode cX8_moves 48 = .ok (.iadd, 1) := by decide +kernel
theorem dX8_moves_49 : decode cX8_moves 49 = .ok (.putfield 29, 3) := by decide +kernel
theorem dX8_moves_52 : decode cX8_moves 52 = .ok (.goto 69, 3) := by decide +kernel
theorem dX8_moves_55 : decode cX8_moves 55 = .ok (.aload_n 0, 1) := by decide +kernel
theorem dX8_moves_56 : decode cX8_moves 56 = .ok (.dup, 1) := by decide +kernel
theorem dX8_moves_57 : decode cX8_moves 57 = .ok (.getfield 26, 3) := by decide +kernel
theorem dX8_moves_60 : decode cX8_moves 60 = .ok (.iload_n 2, 1) := by decide +kernel
theorem dX8_moves_61 : decode cX8_moves 61 = .ok (.isub, 1) := by decide +kernel
theorem dX8_moves_62 : decode cX8_moves 62 = .ok (.putfield 26, 3) := by decide +kernel
theorem dX8_moves_65 : decode cX8_moves 65 = .ok (.aload_n 0, 1) := by decide +kernel
theorem dX8_moves_66 : decode cX8_moves 66 = .ok (.dup, 1) := by decide +kernel
theorem dX8_moves_67 : decode cX8_moves 67 = .ok (.getfield 29, 3) := by decide +kernel
theorem dX8_moves_70 : decode cX8_moves 70 = .ok (.iload_n 1, 1) := by decide +kernel
theorem dX8_moves_71 : decode cX8_moves 71 = .ok (.iadd, 1) := by decide +kernel
theorem dX8_moves_72 : decode cX8_moves 72 = .ok (.putfield 29, 3) := by decide +kernel
theorem dX8_moves_75 : decode cX8_moves 75 = .ok (.goto 46, 3) := by decide +kernel
theorem dX8_moves_78 : decode cX8_moves 78 = .ok (.aload_n 0, 1) := by decide +kernel
theorem dX8_moves_79 : decode cX8_moves 79 = .ok (.dup, 1) := by decide +kernel
theorem dX8_moves_80 : decode cX8_moves 80 = .ok (.getfield 26, 3) := by decide +kernel
theorem dX8_moves_83 : decode cX8_moves 83 = .ok (.iload_n 1, 1) := by decide +kernel
theorem dX8_moves_84 : decode cX8_moves 84 = .ok (.isub, 1) := by decide +kernel
theorem dX8_moves_85 : decode cX8_moves 85 = .ok (.putfield 26, 3) := by decide +kernel
theorem dX8_moves_88 : decode cX8_moves 88 = .ok (.aload_n 0, 1) := by decide +kernel
theorem dX8_moves_89 : decode cX8_moves 89 = .ok (.dup, 1) := by decide +kernel
theorem dX8_moves_90 : decode cX8_moves 90 = .ok (.getfield 29, 3) := by decide +kernel
theorem dX8_moves_93 : decode cX8_moves 93 = .ok (.iload_n 2, 1) := by decide +kernel
theorem dX8_moves_94 : decode cX8_moves 94 = .ok (.isub, 1) := by decide +kernel
theorem dX8_moves_95 : decode cX8_moves 95 = .ok (.putfield 29, 3) := by decide +kernel
theorem dX8_moves_98 : decode cX8_moves 98 = .ok (.goto 23, 3) := by decide +kernel
theorem dX8_moves_101 : decode cX8_moves 101 = .ok (.aload_n 0, 1) := by decide +kernel
theorem dX8_moves_102 : decode cX8_moves 102 = .ok (.dup, 1) := by decide +kernel
theorem dX8_moves_103 : decode cX8_moves 103 = .ok (.getfield 26, 3) := by decide +kernel
theorem dX8_moves_106 : decode cX8_moves 106 = .ok (.iload_n 2, 1) := by decide +kernel
theorem dX8_moves_107 : decode cX8_moves 107 = .ok (.iadd, 1) := by decide +kernel
theorem dX8_moves_108 : decode cX8_moves 108 = .ok (.putfield 26, 3) := by decide +kernel
theorem dX8_moves_111 : decode cX8_moves 111 = .ok (.aload_n 0, 1) := by decide +kernel
theorem dX8_moves_112 : decode cX8_moves 112 = .ok (.dup, 1) := by decide +kernel
theorem dX8_moves_113 : decode cX8_moves 113 = .ok (.getfield 29, 3) := by decide +kernel
theorem dX8_moves_116 : decode cX8_moves 116 = .ok (.iload_n 1, 1) := by decide +kernel
theorem dX8_moves_117 : decode cX8_moves 117 = .ok (.isub, 1) := by decide +kernel
theorem dX8_moves_118 : decode cX8_moves 118 = .ok (.putfield 29, 3) := by decide +kernel
theorem dX8_moves_121 : decode cX8_moves 121 = .ok (.return_, 1) := by decide +kernel
set_option maxRecDepth 20000 in
theorem ggX8_returns_X8_wasAt : GoodIn wsX8_returns wsX8_wasAt := goodIn_r _ [8, 2, 3, 9, 10, 11, 12, 13, 14, 15, 16, 17, 18, 19, 20, 21, 22] (by decide +kernel) (by decide +kernel)
set_option maxRecDepth 20000 in
theorem gX8_returns_X8_wasAt : GoodIn wsX8_returns (wsV RX8 105 RX8 yX8_wasAt wsX8_wasAt) := goodIn_app (goodIn_of _ (by decide +kernel)) ggX8_returns_X8_wasAt
theorem dX8_returns_0 : decode cX8_returns 0 = .ok (.iconst 0, 1) := by decide +kernel
theorem dX8_returns_1 : decode cX8_returns 1 = .ok (.istore_n 1, 1) := by decide +kernel
theorem dX8_returns_2 : decode cX8_returns 2 = .ok (.iconst 0, 1) := by decide +kernel
theorem dX8_returns_3 : decode cX8_returns 3 = .ok (.istore_n 2, 1) := by decide +kernel
theorem dX8_returns_4 : decode cX8_returns 4 = .ok (.iload_n 2, 1) := by decide +kernel
theorem dX8_returns_5 : decode cX8_returns 5 = .ok (.aload_n 0, 1) := by decide +kernel
theorem dX8_returns_6 : decode cX8_returns 6 = .ok (.getfield 22, 3) := by decide +kernel
theorem dX8_returns_9 : decode cX8_returns 9 = .ok (.if_icmp .ge 32, 3) := by decide +kernel
theorem dX8_returns_12 : decode cX8_returns 12 = .ok (.aload_n 0, 1) := by decide +kernel
theorem dX8_returns_13 : decode cX8_returns 13 = .ok (.aload_n 0, 1) := by decide +kernel
theorem dX8_returns_14 : decode cX8_returns 14 = .ok (.getfield 9, 3) := by decide +kernel
theorem dX8_returns_17 : decode cX8_returns 17 = .ok (.iload_n 2, 1) := by decide +kernel
theorem dX8_returns_18 : decode cX8_returns 18 = .ok (.iaload, 1) := by decide +kernel
theorem dX8_returns_19 : decode cX8_returns 19 = .ok (.aload_n 0, 1) := by decide +kernel
theorem dX8_returns_20 : decode cX8_returns 20 = .ok (.getfield 15, 3) := by decide +kernel
theorem dX8_returns_23 : decode cX8_returns 23 = .ok (.iload_n 2, 1) := by decide +kernel
theorem dX8_returns_24 : decode cX8_returns 24 = .ok (.iaload, 1) := by decide +kernel
theorem dX8_returns_25 : decode cX8_returns 25 = .ok (.iload_n 2, 1) := by decide +kernel
theorem dX8_returns_26 : decode cX8_returns 26 = .ok (.invokevirtual 105, 3) := by decide +kernel
theorem dX8_returns_29 : decode cX8_returns 29 = .ok (.ifCond .eq 6, 3) := by decide +kernel
theorem dX8_returns_32 : decode cX8_returns 32 = .ok (.iinc 1 1, 3) := by decide +kernel
theorem dX8_returns_35 : decode cX8_returns 35 = .ok (.iinc 2 1, 3) := by decide +kernel
theorem dX8_returns_38 : decode cX8_returns 38 = .ok (.goto (-34), 3) := by decide +kernel
theorem dX8_returns_41 : decode cX8_returns 41 = .ok (.iload_n 1, 1) := by decide +kernel
theorem dX8_returns_42 : decode cX8_returns 42 = .ok (.ireturn, 1) := by decide +kernel
theorem dX8_wasAt_0 : decode cX8_wasAt 0 = .ok (.iload_n 1, 1) := by decide +kernel
theorem dX8_wasAt_1 : decode cX8_wasAt 1 = .ok (.ifCond .ne 9, 3) := by decide +kernel
theorem dX8_wasAt_4 : decode cX8_wasAt 4 = .ok (.iload_n 2, 1) := by decide +kernel
theorem dX8_wasAt_5 : decode cX8_wasAt 5 = .ok (.ifCond .ne 5, 3) := by decide +kernel
theorem dX8_wasAt_8 : decode cX8_wasAt 8 = .ok (.iconst 1, 1) := by decide +kernel
theorem dX8_wasAt_9 : decode cX8_wasAt 9 = .ok (.ireturn, 1) := by decide +kernel
theorem dX8_wasAt_10 : decode cX8_wasAt 10 = .ok (.iconst 0, 1) := by decide +kernel
theorem dX8_wasAt_11 : decode cX8_wasAt 11 = .ok (.istore 4, 2) := by decide +kernel
theorem dX8_wasAt_13 : decode cX8_wasAt 13 = .ok (.iload 4, 2) := by decide +kernel
theorem dX8_wasAt_15 : decode cX8_wasAt 15 = .ok (.iload_n 3, 1) := by decide +kernel
theorem dX8_wasAt_16 : decode cX8_wasAt 16 = .ok (.if_icmp .ge 33, 3) := by decide +kernel
theorem dX8_wasAt_19 : decode cX8_wasAt 19 = .ok (.aload_n 0, 1) := by decide +kernel
theorem dX8_wasAt_20 : decode cX8_wasAt 20 = .ok (.getfield 9, 3) := by decide +kernel
theorem dX8_wasAt_23 : decode cX8_wasAt 23 = .ok (.iload 4, 2) := by decide +kernel
theorem dX8_wasAt_25 : decode cX8_wasAt 25 = .ok (.iaload, 1) := by decide +kernel
theorem dX8_wasAt_26 : decode cX8_wasAt 26 = .ok (.iload_n 1, 1) := by decide +kernel
theorem dX8_wasAt_27 : decode cX8_wasAt 27 = .ok (.if_icmp .ne 16, 3) := by decide +kernel
theorem dX8_wasAt_30 : decode cX8_wasAt 30 = .ok (.aload_n 0, 1) := by decide +kernel
theorem dX8_wasAt_31 : decode cX8_wasAt 31 = .ok (.getfield 15, 3) := by decide +kernel
theorem dX8_wasAt_34 : decode cX8_wasAt 34 = .ok (.iload 4, 2) := by decide +kernel
theorem dX8_wasAt_36 : decode cX8_wasAt 36 = .ok (.iaload, 1) := by decide +kernel
theorem dX8_wasAt_37 : decode cX8_wasAt 37 = .ok (.iload_n 2, 1) := by decide +kernel
theorem dX8_wasAt_38 : decode cX8_wasAt 38 = .ok (.if_icmp .ne 5, 3) := by decide +kernel
theorem dX8_wasAt_41 : decode cX8_wasAt 41 = .ok (.iconst 1, 1) := by decide +kernel
theorem dX8_wasAt_42 : decode cX8_wasAt 42 = .ok (.ireturn, 1) := by decide +kernel
theorem dX8_wasAt_43 : decode cX8_wasAt 43 = .ok (.iinc 4 1, 3) := by decide +kernel
theorem dX8_wasAt_46 : decode cX8_wasAt 46 = .ok (.goto (-33), 3) := by decide +kernel
theorem dX8_wasAt_49 : decode cX8_wasAt 49 = .ok (.iconst 0, 1) := by decide +kernel
theorem dX8_wasAt_50 : decode cX8_wasAt 50 = .ok (.ireturn, 1) := by decide +kernel
set_option maxRecDepth 20000 in
theorem ggX9_init_X1_init : GoodIn wsX9_init wsX1_init := goodIn_r _ [11, 12, 2, 3, 13, 14, 15, 20, 21, 22] (by decide +kernel) (by decide +kernel)
set_option maxRecDepth 20000 in
theorem gX9_init_X1_init_n17 : GoodIn wsX9_init (wsX1_init) := ggX9_init_X1_init
theorem dX9_init_0 : decode cX9_init 0 = .ok (.aload_n 0, 1) := by decide +kernel
theorem dX9_init_1 : decode cX9_init 1 = .ok (.invokespecial 3, 3) := by decide +kernel
theorem dX9_init_4 : decode cX9_init 4 = .ok (.aload_n 0, 1) := by decide +kernel
theorem dX9_init_5 : decode cX9_init 5 = .ok (.sipush 400, 3) := by decide +kernel
theorem dX9_init_8 : decode cX9_init 8 = .ok (.newarray .long, 2) := by decide +kernel
theorem dX9_init_10 : decode cX9_init 10 = .ok (.putfield 9, 3) := by decide +kernel
theorem dX9_init_13 : decode cX9_init 13 = .ok (.aload_n 0, 1) := by decide +kernel
theorem dX9_init_14 : decode cX9_init 14 = .ok (.new 15, 3) := by decide +kernel
theorem dX9_init_17 : decode cX9_init 17 = .ok (.dup, 1) := by decide +kernel
theorem dX9_init_18 : decode cX9_init 18 = .ok (.invokespecial 17, 3) := by decide +kernel
theorem dX9_init_21 : decode cX9_init 21 = .ok (.putfield 18, 3) := by decide +kernel
theorem dX9_init_24 : decode cX9_init 24 = .ok (.return_, 1) := by decide +kernel
set_option maxRecDepth 20000 in
theorem ggX9_becomeRow_J7_fill_d0a16 : GoodIn wsX9_becomeRow wsJ7_fill_d0a16 := goodIn_r _ [7] (by decide +kernel) (by decide +kernel)
set_option maxRecDepth 20000 in
theorem gX9_becomeRow_J7_fill_d0a16 : GoodIn wsX9_becomeRow (va_wsS RX9 29 yJ7_fill_d0a16 wsJ7_fill_d0a16) := goodIn_app (goodIn_of _ (by decide +kernel)) ggX9_becomeRow_J7_fill_d0a16
theorem dX9_becomeRow_0 : decode cX9_becomeRow 0 = .ok (.aload_n 0, 1) := by decide +kernel
theorem dX9_becomeRow_1 : decode cX9_becomeRow 1 = .ok (.iload_n 1, 1) := by decide +kernel
theorem dX9_becomeRow_2 : decode cX9_becomeRow 2 = .ok (.putfield 22, 3) := by decide +kernel
theorem dX9_becomeRow_5 : decode cX9_becomeRow 5 = .ok (.aload_n 0, 1) := by decide +kernel
theorem dX9_becomeRow_6 : decode cX9_becomeRow 6 = .ok (.iload_n 2, 1) := by decide +kernel
theorem dX9_becomeRow_7 : decode cX9_becomeRow 7 = .ok (.putfield 26, 3) := by decide +kernel
theorem dX9_becomeRow_10 : decode cX9_becomeRow 10 = .ok (.aload_n 0, 1) := by decide +kernel
theorem dX9_becomeRow_11 : decode cX9_becomeRow 11 = .ok (.getfield 9, 3) := by decide +kernel
theorem dX9_becomeRow_14 : decode cX9_becomeRow 14 = .ok (.lconst 0, 1) := by decide +kernel
theorem dX9_becomeRow_15 : decode cX9_becomeRow 15 = .ok (.invokestatic 29, 3) := by decide +kernel
theorem dX9_becomeRow_18 : decode cX9_becomeRow 18 = .ok (.return_, 1) := by decide +kernel
set_option maxRecDepth 20000 in
theorem ggX9_becomeDisc_X1_become : GoodIn wsX9_becomeDisc wsX1_become := goodIn_r _ [7, 8, 9, 10, 11, 12, 13, 14, 19, 20, 21] (by decide +kernel) (by decide +kernel)
set_option maxRecDepth 20000 in
theorem gX9_becomeDisc_X1_become : GoodIn wsX9_becomeDisc (wsV RX9 35 RX1 yX1_become wsX1_become) := goodIn_app (goodIn_of _ (by decide +kernel)) ggX9_becomeDisc_X1_become
theorem dX9_becomeDisc_0 : decode cX9_becomeDisc 0 = .ok (.aload_n 0, 1) := by decide +kernel
theorem dX9_becomeDisc_1 : decode cX9_becomeDisc 1 = .ok (.iconst 5, 1) := by decide +kernel
theorem dX9_becomeDisc_2 : decode cX9_becomeDisc 2 = .ok (.putfield 22, 3) := by decide +kernel
theorem dX9_becomeDisc_5 : decode cX9_becomeDisc 5 = .ok (.aload_n 0, 1) := by decide +kernel
theorem dX9_becomeDisc_6 : decode cX9_becomeDisc 6 = .ok (.getfield 18, 3) := by decide +kernel
theorem dX9_becomeDisc_9 : decode cX9_becomeDisc 9 = .ok (.aload_n 1, 1) := by decide +kernel
theorem dX9_becomeDisc_10 : decode cX9_becomeDisc 10 = .ok (.invokevirtual 35, 3) := by decide +kernel
theorem dX9_becomeDisc_13 : decode cX9_becomeDisc 13 = .ok (.return_, 1) := by decide +kernel
theorem dX9_isRow_0 : decode cX9_isRow 0 = .ok (.aload_n 0, 1) := by decide +kernel
theorem dX9_isRow_1 : decode cX9_isRow 1 = .ok (.getfield 22, 3) := by decide +kernel
theorem dX9_isRow_4 : decode cX9_isRow 4 = .ok (.iconst 1, 1) := by decide +kernel
theorem dX9_isRow_5 : decode cX9_isRow 5 = .ok (.if_icmp .lt 15, 3) := by decide +kernel
theorem dX9_isRow_8 : decode cX9_isRow 8 = .ok (.aload_n 0, 1) := by decide +kernel
theorem dX9_isRow_9 : decode cX9_isRow 9 = .ok (.getfield 22, 3) := by decide +kernel
theorem dX9_isRow_12 : decode cX9_isRow 12 = .ok (.iconst 4, 1) := by decide +kernel
theorem dX9_isRow_13 : decode cX9_isRow 13 = .ok (.if_icmp .gt 7, 3) := by decide +kernel
theorem dX9_isRow_16 : decode cX9_isRow 16 = .ok (.iconst 1, 1) := by decide +kernel
theorem dX9_isRow_17 : decode cX9_isRow 17 = .ok (.goto 4, 3) := by decide +kernel
theorem dX9_isRow_20 : decode cX9_isRow 20 = .ok (.iconst 0, 1) := by decide +kernel
theorem dX9_isRow_21 : decode cX9_isRow 21 = .ok (.ireturn, 1) := by decide +kernel
theorem dX9_hasPlaces_0 : decode cX9_hasPlaces 0 = .ok (.iload_n 1, 1) := by decide +kernel
theorem dX9_hasPlaces_1 : decode cX9_hasPlaces 1 = .ok (.ifCond .lt 21, 3) := by decide +kernel
theorem dX9_hasPlaces_4 : decode cX9_hasPlaces 4 = .ok (.iload_n 2, 1) := by decide +kernel
theorem dX9_hasPlaces_5 : decode cX9_hasPlaces 5 = .ok (.ifCond .lt 17, 3) := by decide +kernel
theorem dX9_hasPlaces_8 : decode cX9_hasPlaces 8 = .ok (.iload_n 1, 1) := by decide +kernel
theorem dX9_hasPlaces_9 : decode cX9_hasPlaces 9 = .ok (.aload_n 0, 1) := by decide +kernel
theorem dX9_hasPlaces_10 : decode cX9_hasPlaces 10 = .ok (.getfield 26, 3) := by decide +kernel
theorem dX9_hasPlaces_13 : decode cX9_hasPlaces 13 = .ok (.iload_n 2, 1) := by decide +kernel
theorem dX9_hasPlaces_14 : decode cX9_hasPlaces 14 = .ok (.isub, 1) := by decide +kernel
theorem dX9_hasPlaces_15 : decode cX9_hasPlaces 15 = .ok (.if_icmp .gt 7, 3) := by decide +kernel
theorem dX9_hasPlaces_18 : decode cX9_hasPlaces 18 = .ok (.iconst 1, 1) := by decide +kernel
theorem dX9_hasPlaces_19 : decode cX9_hasPlaces 19 = .ok (.goto 4, 3) := by decide +kernel
theorem dX9_hasPlaces_22 : decode cX9_hasPlaces 22 = .ok (.iconst 0, 1) := by decide +kernel
theorem dX9_hasPlaces_23 : decode cX9_hasPlaces 23 = .ok (.ireturn, 1) := by decide +kernel
theorem dX9_narrowed_0 : decode cX9_narrowed 0 = .ok (.aload_n 0, 1) := by decide +kernel
theorem dX9_narrowed_1 : decode cX9_narrowed 1 = .ok (.getfield 22, 3) := by decide +kernel
theorem dX9_narrowed_4 : decode cX9_narrowed 4 = .ok (.tableswitch 42 1 3 #[28, 33, 38], 28) := by decide +kernel
theorem dX9_narrowed_32 : decode cX9_narrowed 32 = .ok (.lload_n 1, 1) := by decide +kernel
theorem dX9_narrowed_33 : decode cX9_narrowed 33 = .ok (.l2i, 1) := by decide +kernel
theorem dX9_narrowed_34 : decode cX9_narrowed 34 = .ok (.i2b, 1) := by decide +kernel
theorem dX9_narrowed_35 : decode cX9_narrowed 35 = .ok (.i2l, 1) := by decide +kernel
theorem dX9_narrowed_36 : decode cX9_narrowed 36 = .ok (.lreturn, 1) := by decide +kernel
theorem dX9_narrowed_37 : decode cX9_narrowed 37 = .ok (.lload_n 1, 1) := by decide +kernel
theorem dX9_narrowed_38 : decode cX9_narrowed 38 = .ok (.l2i, 1) := by decide +kernel
theorem dX9_narrowed_39 : decode cX9_narrowed 39 = .ok (.i2s, 1) := by decide +kernel
theorem dX9_narrowed_40 : decode cX9_narrowed 40 = .ok (.i2l, 1) := by decide +kernel
theorem dX9_narrowed_41 : decode cX9_narrowed 41 = .ok (.lreturn, 1) := by decide +kernel
theorem dX9_narrowed_42 : decode cX9_narrowed 42 = .ok (.lload_n 1, 1) := by decide +kernel
theorem dX9_narrowed_43 : decode cX9_narrowed 43 = .ok (.l2i, 1) := by decide +kernel
theorem dX9_narrowed_44 : decode cX9_narrowed 44 = .ok (.i2l, 1) := by decide +kernel
theorem dX9_narrowed_45 : decode cX9_narrowed 45 = .ok (.lreturn, 1) := by decide +kernel
theorem dX9_narrowed_46 : decode cX9_narrowed 46 = .ok (.lload_n 1, 1) := by decide +kernel
theorem dX9_narrowed_47 : decode cX9_narrowed 47 = .ok (.lreturn, 1) := by decide +kernel
