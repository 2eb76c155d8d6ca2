theorem dX11_tune_59 : decode cX11_tune 59 = .ok (.iload_n 3, 1) := by decide +kernel
theorem dX11_tune_60 : decode cX11_tune 60 = .ok (.imul, 1) := by decide +kernel
theorem dX11_tune_61 : decode cX11_tune 61 = .ok (.iload_n 2, 1) := by decide +kernel
theorem dX11_tune_62 : decode cX11_tune 62 = .ok (.iadd, 1) := by decide +kernel
theorem dX11_tune_63 : decode cX11_tune 63 = .ok (.iload_n 3, 1) := by decide +kernel
theorem dX11_tune_64 : decode cX11_tune 64 = .ok (.isub, 1) := by decide +kernel
theorem dX11_tune_65 : decode cX11_tune 65 = .ok (.ireturn, 1) := by decide +kernel
theorem dX11_tune_66 : decode cX11_tune 66 = .ok (.iinc 3 1, 3) := by decide +kernel
theorem dX11_tune_69 : decode cX11_tune 69 = .ok (.goto (-47), 3) := by decide +kernel
theorem dX11_tune_72 : decode cX11_tune 72 = .ok (.iinc 2 1, 3) := by decide +kernel
theorem dX11_tune_75 : decode cX11_tune 75 = .ok (.goto (-62), 3) := by decide +kernel
theorem dX11_tune_78 : decode cX11_tune 78 = .ok (.bipush (-4), 2) := by decide +kernel
theorem dX11_tune_80 : decode cX11_tune 80 = .ok (.ireturn, 1) := by decide +kernel
set_option maxRecDepth 20000 in
theorem ggX11_wind_X11_in : GoodIn wsX11_wind wsX11_in := goodIn_r _ [7] (by decide +kernel) (by decide +kernel)
set_option maxRecDepth 20000 in
theorem gX11_wind_X11_in : GoodIn wsX11_wind (va_wsS RX11 147 yX11_in wsX11_in) := goodIn_app (goodIn_of _ (by decide +kernel)) ggX11_wind_X11_in
theorem dX11_wind_0 : decode cX11_wind 0 = .ok (.iload_n 1, 1) := by decide +kernel
theorem dX11_wind_1 : decode cX11_wind 1 = .ok (.iconst 0, 1) := by decide +kernel
theorem dX11_wind_2 : decode cX11_wind 2 = .ok (.ldc 254, 2) := by decide +kernel
theorem dX11_wind_4 : decode cX11_wind 4 = .ok (.invokestatic 147, 3) := by decide +kernel
theorem dX11_wind_7 : decode cX11_wind 7 = .ok (.ifCond .eq 13, 3) := by decide +kernel
theorem dX11_wind_10 : decode cX11_wind 10 = .ok (.iload_n 2, 1) := by decide +kernel
theorem dX11_wind_11 : decode cX11_wind 11 = .ok (.iconst 0, 1) := by decide +kernel
theorem dX11_wind_12 : decode cX11_wind 12 = .ok (.ldc 254, 2) := by decide +kernel
theorem dX11_wind_14 : decode cX11_wind 14 = .ok (.invokestatic 147, 3) := by decide +kernel
theorem dX11_wind_17 : decode cX11_wind 17 = .ok (.ifCond .ne 5, 3) := by decide +kernel
theorem dX11_wind_20 : decode cX11_wind 20 = .ok (.iconst (-1), 1) := by decide +kernel
theorem dX11_wind_21 : decode cX11_wind 21 = .ok (.ireturn, 1) := by decide +kernel
theorem dX11_wind_22 : decode cX11_wind 22 = .ok (.aload_n 0, 1) := by decide +kernel
theorem dX11_wind_23 : decode cX11_wind 23 = .ok (.iload_n 1, 1) := by decide +kernel
theorem dX11_wind_24 : decode cX11_wind 24 = .ok (.putfield 39, 3) := by decide +kernel
theorem dX11_wind_27 : decode cX11_wind 27 = .ok (.aload_n 0, 1) := by decide +kernel
theorem dX11_wind_28 : decode cX11_wind 28 = .ok (.iload_n 2, 1) := by decide +kernel
theorem dX11_wind_29 : decode cX11_wind 29 = .ok (.putfield 42, 3) := by decide +kernel
theorem dX11_wind_32 : decode cX11_wind 32 = .ok (.iconst 0, 1) := by decide +kernel
theorem dX11_wind_33 : decode cX11_wind 33 = .ok (.ireturn, 1) := by decide +kernel
theorem dX11_thread_0 : decode cX11_thread 0 = .ok (.iload_n 1, 1) := by decide +kernel
theorem dX11_thread_1 : decode cX11_thread 1 = .ok (.ifCond .ne 10, 3) := by decide +kernel
theorem dX11_thread_4 : decode cX11_thread 4 = .ok (.aload_n 0, 1) := by decide +kernel
theorem dX11_thread_5 : decode cX11_thread 5 = .ok (.getfield 39, 3) := by decide +kernel
theorem dX11_thread_8 : decode cX11_thread 8 = .ok (.goto 16, 3) := by decide +kernel
theorem dX11_thread_11 : decode cX11_thread 11 = .ok (.iload_n 1, 1) := by decide +kernel
theorem dX11_thread_12 : decode cX11_thread 12 = .ok (.iconst 1, 1) := by decide +kernel
theorem dX11_thread_13 : decode cX11_thread 13 = .ok (.if_icmp .ne 10, 3) := by decide +kernel
theorem dX11_thread_16 : decode cX11_thread 16 = .ok (.aload_n 0, 1) := by decide +kernel
theorem dX11_thread_17 : decode cX11_thread 17 = .ok (.getfield 42, 3) := by decide +kernel
theorem dX11_thread_20 : decode cX11_thread 20 = .ok (.goto 4, 3) := by decide +kernel
theorem dX11_thread_23 : decode cX11_thread 23 = .ok (.iconst (-1), 1) := by decide +kernel
theorem dX11_thread_24 : decode cX11_thread 24 = .ok (.ireturn, 1) := by decide +kernel
set_option maxRecDepth 20000 in
theorem ggX11_step_X11_in : GoodIn wsX11_step wsX11_in := goodIn_r _ [7] (by decide +kernel) (by decide +kernel)
set_option maxRecDepth 20000 in
theorem gX11_step_X11_in : GoodIn wsX11_step (va_wsS RX11 147 yX11_in wsX11_in) := goodIn_app (goodIn_of _ (by decide +kernel)) ggX11_step_X11_in
theorem dX11_step_0 : decode cX11_step 0 = .ok (.iload_n 1, 1) := by decide +kernel
theorem dX11_step_1 : decode cX11_step 1 = .ok (.ifCond .ne 13, 3) := by decide +kernel
theorem dX11_step_4 : decode cX11_step 4 = .ok (.iload_n 2, 1) := by decide +kernel
theorem dX11_step_5 : decode cX11_step 5 = .ok (.iconst 0, 1) := by decide +kernel
theorem dX11_step_6 : decode cX11_step 6 = .ok (.bipush 7, 2) := by decide +kernel
theorem dX11_step_8 : decode cX11_step 8 = .ok (.invokestatic 147, 3) := by decide +kernel
theorem dX11_step_11 : decode cX11_step 11 = .ok (.goto 47, 3) := by decide +kernel
theorem dX11_step_14 : decode cX11_step 14 = .ok (.iload_n 1, 1) := by decide +kernel
theorem dX11_step_15 : decode cX11_step 15 = .ok (.iconst 1, 1) := by decide +kernel
theorem dX11_step_16 : decode cX11_step 16 = .ok (.if_icmp .ne 14, 3) := by decide +kernel
theorem dX11_step_19 : decode cX11_step 19 = .ok (.iload_n 2, 1) := by decide +kernel
theorem dX11_step_20 : decode cX11_step 20 = .ok (.iconst 1, 1) := by decide +kernel
theorem dX11_step_21 : decode cX11_step 21 = .ok (.sipush 200, 3) := by decide +kernel
theorem dX11_step_24 : decode cX11_step 24 = .ok (.invokestatic 147, 3) := by decide +kernel
theorem dX11_step_27 : decode cX11_step 27 = .ok (.goto 31, 3) := by decide +kernel
theorem dX11_step_30 : decode cX11_step 30 = .ok (.iload_n 1, 1) := by decide +kernel
theorem dX11_step_31 : decode cX11_step 31 = .ok (.iconst 2, 1) := by decide +kernel
theorem dX11_step_32 : decode cX11_step 32 = .ok (.if_icmp .ne 12, 3) := by decide +kernel
theorem dX11_step_35 : decode cX11_step 35 = .ok (.iload_n 2, 1) := by decide +kernel
theorem dX11_step_36 : decode cX11_step 36 = .ok (.iconst 1, 1) := by decide +kernel
theorem dX11_step_37 : decode cX11_step 37 = .ok (.iconst 3, 1) := by decide +kernel
theorem dX11_step_38 : decode cX11_step 38 = .ok (.invokestatic 147, 3) := by decide +kernel
theorem dX11_step_41 : decode cX11_step 41 = .ok (.goto 17, 3) := by decide +kernel
theorem dX11_step_44 : decode cX11_step 44 = .ok (.iload_n 1, 1) := by decide +kernel
theorem dX11_step_45 : decode cX11_step 45 = .ok (.iconst 3, 1) := by decide +kernel
theorem dX11_step_46 : decode cX11_step 46 = .ok (.if_icmp .ne 11, 3) := by decide +kernel
theorem dX11_step_49 : decode cX11_step 49 = .ok (.iload_n 2, 1) := by decide +kernel
theorem dX11_step_50 : decode cX11_step 50 = .ok (.ifCond .ne 7, 3) := by decide +kernel
theorem dX11_step_53 : decode cX11_step 53 = .ok (.iconst 1, 1) := by decide +kernel
theorem dX11_step_54 : decode cX11_step 54 = .ok (.goto 4, 3) := by decide +kernel
theorem dX11_step_57 : decode cX11_step 57 = .ok (.iconst 0, 1) := by decide +kernel
theorem dX11_step_58 : decode cX11_step 58 = .ok (.istore_n 3, 1) := by decide +kernel
theorem dX11_step_59 : decode cX11_step 59 = .ok (.iload_n 3, 1) := by decide +kernel
theorem dX11_step_60 : decode cX11_step 60 = .ok (.ifCond .ne 5, 3) := by decide +kernel
theorem dX11_step_63 : decode cX11_step 63 = .ok (.iconst (-1), 1) := by decide +kernel
theorem dX11_step_64 : decode cX11_step 64 = .ok (.ireturn, 1) := by decide +kernel
theorem dX11_step_65 : decode cX11_step 65 = .ok (.aload_n 0, 1) := by decide +kernel
theorem dX11_step_66 : decode cX11_step 66 = .ok (.getfield 115, 3) := by decide +kernel
theorem dX11_step_69 : decode cX11_step 69 = .ok (.bipush 20, 2) := by decide +kernel
theorem dX11_step_71 : decode cX11_step 71 = .ok (.if_icmp .ne 6, 3) := by decide +kernel
theorem dX11_step_74 : decode cX11_step 74 = .ok (.bipush (-2), 2) := by decide +kernel
theorem dX11_step_76 : decode cX11_step 76 = .ok (.ireturn, 1) := by decide +kernel
theorem dX11_step_77 : decode cX11_step 77 = .ok (.aload_n 0, 1) := by decide +kernel
theorem dX11_step_78 : decode cX11_step 78 = .ok (.getfield 45, 3) := by decide +kernel
theorem dX11_step_81 : decode cX11_step 81 = .ok (.aload_n 0, 1) := by decide +kernel
theorem dX11_step_82 : decode cX11_step 82 = .ok (.getfield 115, 3) := by decide +kernel
theorem dX11_step_85 : decode cX11_step 85 = .ok (.iload_n 1, 1) := by decide +kernel
theorem dX11_step_86 : decode cX11_step 86 = .ok (.iastore, 1) := by decide +kernel
theorem dX11_step_87 : decode cX11_step 87 = .ok (.aload_n 0, 1) := by decide +kernel
theorem dX11_step_88 : decode cX11_step 88 = .ok (.getfield 48, 3) := by decide +kernel
theorem dX11_step_91 : decode cX11_step 91 = .ok (.aload_n 0, 1) := by decide +kernel
theorem dX11_step_92 : decode cX11_step 92 = .ok (.getfield 115, 3) := by decide +kernel
theorem dX11_step_95 : decode cX11_step 95 = .ok (.iload_n 2, 1) := by decide +kernel
theorem dX11_step_96 : decode cX11_step 96 = .ok (.iastore, 1) := by decide +kernel
theorem dX11_step_97 : decode cX11_step 97 = .ok (.aload_n 0, 1) := by decide +kernel
theorem dX11_step_98 : decode cX11_step 98 = .ok (.dup, 1) := by decide +kernel
theorem dX11_step_99 : decode cX11_step 99 = .ok (.getfield 115, 3) := by decide +kernel
theorem dX11_step_102 : decode cX11_step 102 = .ok (.iconst 1, 1) := by decide +kernel
theorem dX11_step_103 : decode cX11_step 103 = .ok (.iadd, 1) := by decide +kernel
theorem dX11_step_104 : decode cX11_step 104 = .ok (.putfield 115, 3) := by decide +kernel
theorem dX11_step_107 : decode cX11_step 107 = .ok (.aload_n 0, 1) := by decide +kernel
theorem dX11_step_108 : decode cX11_step 108 = .ok (.getfield 115, 3) := by decide +kernel
theorem dX11_step_111 : decode cX11_step 111 = .ok (.ireturn, 1) := by decide +kernel
theorem dX11_stepless_0 : decode cX11_stepless 0 = .ok (.aload_n 0, 1) := by decide +kernel
theorem dX11_stepless_1 : decode cX11_stepless 1 = .ok (.getfield 115, 3) := by decide +kernel
theorem dX11_stepless_4 : decode cX11_stepless 4 = .ok (.istore_n 1, 1) := by decide +kernel
theorem dX11_stepless_5 : decode cX11_stepless 5 = .ok (.aload_n 0, 1) := by decide +kernel
theorem dX11_stepless_6 : decode cX11_stepless 6 = .ok (.iconst 0, 1) := by decide +kernel
theorem dX11_stepless_7 : decode cX11_stepless 7 = .ok (.putfield 115, 3) := by decide +kernel
theorem dX11_stepless_10 : decode cX11_stepless 10 = .ok (.iload_n 1, 1) := by decide +kernel
theorem dX11_stepless_11 : decode cX11_stepless 11 = .ok (.ireturn, 1) := by decide +kernel
set_option maxRecDepth 20000 in
theorem ggX11_sews_X11_lockOf : GoodIn wsX11_sews wsX11_lockOf := goodIn_r _ [26, 8, 30, 31, 32, 33, 34, 35, 36, 37, 38, 39, 40, 41, 42, 43, 44, 45, 46, 47, 48, 49, 50, 51, 52, 53, 54, 55, 56, 57, 58, 59, 60, 61, 62, 63, 64, 65, 66, 67, 68, 69, 70, 71, 72, 73, 74, 75, 76, 77, 78, 79, 80, 81, 82, 83, 84, 85, 86, 87, 88, 89, 90, 91] (by decide +kernel) (by decide +kernel)
set_option maxRecDepth 20000 in
theorem gX11_sews_X11_lockOf : GoodIn wsX11_sews (wsV RX11 248 RX11 yX11_lockOf wsX11_lockOf) := goodIn_app (goodIn_of _ (by decide +kernel)) ggX11_sews_X11_lockOf
set_option maxRecDepth 20000 in
theorem ggX11_sews_X11_away : GoodIn wsX11_sews wsX11_away := goodIn_r _ [29] (by decide +kernel) (by decide +kernel)
set_option maxRecDepth 20000 in
theorem gX11_sews_X11_away : GoodIn wsX11_sews (va_wsS RX11 198 yX11_away wsX11_away) := goodIn_app (goodIn_of _ (by decide +kernel)) ggX11_sews_X11_away
theorem dX11_sews_0 : decode cX11_sews 0 = .ok (.sipush 672, 3) := by decide +kernel
theorem dX11_sews_3 : decode cX11_sews 3 = .ok (.aload_n 0, 1) := by decide +kernel
theorem dX11_sews_4 : decode cX11_sews 4 = .ok (.getfield 255, 3) := by decide +kernel
theorem dX11_sews_7 : decode cX11_sews 7 = .ok (.iadd, 1) := by decide +kernel
theorem dX11_sews_8 : decode cX11_sews 8 = .ok (.istore_n 1, 1) := by decide +kernel
theorem dX11_sews_9 : decode cX11_sews 9 = .ok (.aload_n 0, 1) := by decide +kernel
theorem dX11_sews_10 : decode cX11_sews 10 = .ok (.getfield 19, 3) := by decide +kernel
theorem dX11_sews_13 : decode cX11_sews 13 = .ok (.iload_n 1, 1) := by decide +kernel
theorem dX11_sews_14 : decode cX11_sews 14 = .ok (.iaload, 1) := by decide +kernel
theorem dX11_sews_15 : decode cX11_sews 15 = .ok (.aload_n 0, 1) := by decide +kernel
theorem dX11_sews_16 : decode cX11_sews 16 = .ok (.getfield 258, 3) := by decide +kernel
theorem dX11_sews_19 : decode cX11_sews 19 = .ok (.isub, 1) := by decide +kernel
theorem dX11_sews_20 : decode cX11_sews 20 = .ok (.istore_n 2, 1) := by decide +kernel
theorem dX11_sews_21 : decode cX11_sews 21 = .ok (.aload_n 0, 1) := by decide +kernel
theorem dX11_sews_22 : decode cX11_sews 22 = .ok (.getfield 261, 3) := by decide +kernel
theorem dX11_sews_25 : decode cX11_sews 25 = .ok (.ifCond .eq 13, 3) := by decide +kernel
theorem dX11_sews_28 : decode cX11_sews 28 = .ok (.aload_n 0, 1) := by decide +kernel
theorem dX11_sews_29 : decode cX11_sews 29 = .ok (.getfield 22, 3) := by decide +kernel
theorem dX11_sews_32 : decode cX11_sews 32 = .ok (.iload_n 1, 1) := by decide +kernel
theorem dX11_sews_33 : decode cX11_sews 33 = .ok (.iaload, 1) := by decide +kernel
theorem dX11_sews_34 : decode cX11_sews 34 = .ok (.ineg, 1) := by decide +kernel
theorem dX11_sews_35 : decode cX11_sews 35 = .ok (.goto 9, 3) := by decide +kernel
theorem dX11_sews_38 : decode cX11_sews 38 = .ok (.aload_n 0, 1) := by decide +kernel
theorem dX11_sews_39 : decode cX11_sews 39 = .ok (.getfield 22, 3) := by decide +kernel
theorem dX11_sews_42 : decode cX11_sews 42 = .ok (.iload_n 1, 1) := by decide +kernel
theorem dX11_sews_43 : decode cX11_sews 43 = .ok (.iaload, 1) := by decide +kernel
theorem dX11_sews_44 : decode cX11_sews 44 = .ok (.istore_n 3, 1) := by decide +kernel
theorem dX11_sews_45 : decode cX11_sews 45 = .ok (.aload_n 0, 1) := by decide +kernel
theorem dX11_sews_46 : decode cX11_sews 46 = .ok (.aload_n 0, 1) := by decide +kernel
theorem dX11_sews_47 : decode cX11_sews 47 = .ok (.getfield 31, 3) := by decide +kernel
theorem dX11_sews_50 : decode cX11_sews 50 = .ok (.aload_n 0, 1) := by decide +kernel
theorem dX11_sews_51 : decode cX11_sews 51 = .ok (.getfield 35, 3) := by decide +kernel
theorem dX11_sews_54 : decode cX11_sews 54 = .ok (.invokevirtual 248, 3) := by decide +kernel
theorem dX11_sews_57 : decode cX11_sews 57 = .ok (.istore 4, 2) := by decide +kernel
theorem dX11_sews_59 : decode cX11_sews 59 = .ok (.iload_n 2, 1) := by decide +kernel
theorem dX11_sews_60 : decode cX11_sews 60 = .ok (.invokestatic 198, 3) := by decide +kernel
theorem dX11_sews_63 : decode cX11_sews 63 = .ok (.iload_n 3, 1) := by decide +kernel
theorem dX11_sews_64 : decode cX11_sews 64 = .ok (.invokestatic 198, 3) := by decide +kernel
theorem dX11_sews_67 : decode cX11_sews 67 = .ok (.iadd, 1) := by decide +kernel
theorem dX11_sews_68 : decode cX11_sews 68 = .ok (.iconst 2, 1) := by decide +kernel
theorem dX11_sews_69 : decode cX11_sews 69 = .ok (.iload 4, 2) := by decide +kernel
theorem dX11_sews_71 : decode cX11_sews 71 = .ok (.imul, 1) := by decide +kernel
theorem dX11_sews_72 : decode cX11_sews 72 = .ok (.iadd, 1) := by decide +kernel
theorem dX11_sews_73 : decode cX11_sews 73 = .ok (.istore 5, 2) := by decide +kernel
theorem dX11_sews_75 : decode cX11_sews 75 = .ok (.iload_n 2, 1) := by decide +kernel
theorem dX11_sews_76 : decode cX11_sews 76 = .ok (.invokestatic 198, 3) := by decide +kernel
theorem dX11_sews_79 : decode cX11_sews 79 = .ok (.iload_n 3, 1) := by decide +kernel
theorem dX11_sews_80 : decode cX11_sews 80 = .ok (.invokestatic 198, 3) := by decide +kernel
theorem dX11_sews_83 : decode cX11_sews 83 = .ok (.iadd, 1) := by decide +kernel
theorem dX11_sews_84 : decode cX11_sews 84 = .ok (.iconst 2, 1) := by decide +kernel
theorem dX11_sews_85 : decode cX11_sews 85 = .ok (.aload_n 0, 1) := by decide +kernel
theorem dX11_sews_86 : decode cX11_sews 86 = .ok (.getfield 28, 3) := by decide +kernel
theorem dX11_sews_89 : decode cX11_sews 89 = .ok (.iconst 0, 1) := by decide +kernel
theorem dX11_sews_90 : decode cX11_sews 90 = .ok (.iaload, 1) := by decide +kernel
theorem dX11_sews_91 : decode cX11_sews 91 = .ok (.aload_n 0, 1) := by decide +kernel
theorem dX11_sews_92 : decode cX11_sews 92 = .ok (.getfield 28, 3) := by decide +kernel
theorem dX11_sews_95 : decode cX11_sews 95 = .ok (.iconst 1, 1) := by decide +kernel
theorem dX11_sews_96 : decode cX11_sews 96 = .ok (.iaload, 1) := by decide +kernel
theorem dX11_sews_97 : decode cX11_sews 97 = .ok (.iadd, 1) := by decide +kernel
theorem dX11_sews_98 : decode cX11_sews 98 = .ok (.iload 4, 2) := by decide +kernel
theorem dX11_sews_100 : decode cX11_sews 100 = .ok (.isub, 1) := by decide +kernel
theorem dX11_sews_101 : decode cX11_sews 101 = .ok (.imul, 1) := by decide +kernel
theorem dX11_sews_102 : decode cX11_sews 102 = .ok (.iadd, 1) := by decide +kernel
theorem dX11_sews_103 : decode cX11_sews 103 = .ok (.istore 6, 2) := by decide +kernel
theorem dX11_sews_105 : decode cX11_sews 105 = .ok (.aload_n 0, 1) := by decide +kernel
theorem dX11_sews_106 : decode cX11_sews 106 = .ok (.aload_n 0, 1) := by decide +kernel
theorem dX11_sews_107 : decode cX11_sews 107 = .ok (.getfield 264, 3) := by decide +kernel
theorem dX11_sews_110 : decode cX11_sews 110 = .ok (.sipush 600, 3) := by decide +kernel
theorem dX11_sews_113 : decode cX11_sews 113 = .ok (.if_icmp .ne 7, 3) := by decide +kernel
theorem dX11_sews_116 : decode cX11_sews 116 = .ok (.iconst 3, 1) := by decide +kernel
theorem dX11_sews_117 : decode cX11_sews 117 = .ok (.goto 30, 3) := by decide +kernel
theorem dX11_sews_120 : decode cX11_sews 120 = .ok (.iload 5, 2) := by decide +kernel
theorem dX11_sews_122 : decode cX11_sews 122 = .ok (.aload_n 0, 1) := by decide +kernel
theorem dX11_sews_123 : decode cX11_sews 123 = .ok (.getfield 39, 3) := by decide +kernel
theorem dX11_sews_126 : decode cX11_sews 126 = .ok (.if_icmp .le 7, 3) := by decide +kernel
theorem dX11_sews_129 : decode cX11_sews 129 = .ok (.iconst 1, 1) := by decide +kernel
theorem dX11_sews_130 : decode cX11_sews 130 = .ok (.goto 17, 3) := by decide +kernel
theorem dX11_sews_133 : decode cX11_sews 133 = .ok (.iload 6, 2) := by decide +kernel
theorem dX11_sews_135 : decode cX11_sews 135 = .ok (.aload_n 0, 1) := by decide +kernel
theorem dX11_sews_136 : decode cX11_sews 136 = .ok (.getfield 42, 3) := by decide +kernel
theorem dX11_sews_139 : decode cX11_sews 139 = .ok (.if_icmp .le 7, 3) := by decide +kernel
theorem dX11_sews_142 : decode cX11_sews 142 = .ok (.iconst 2, 1) := by decide +kernel
theorem dX11_sews_143 : decode cX11_sews 143 = .ok (.goto 4, 3) := by decide +kernel
theorem dX11_sews_146 : decode cX11_sews 146 = .ok (.iconst 0, 1) := by decide +kernel
theorem dX11_sews_147 : decode cX11_sews 147 = .ok (.putfield 267, 3) := by decide +kernel
theorem dX11_sews_150 : decode cX11_sews 150 = .ok (.aload_n 0, 1) := by decide +kernel
theorem dX11_sews_151 : decode cX11_sews 151 = .ok (.getfield 267, 3) := by decide +kernel
theorem dX11_sews_154 : decode cX11_sews 154 = .ok (.ifCond .eq 5, 3) := by decide +kernel
theorem dX11_sews_157 : decode cX11_sews 157 = .ok (.iconst 0, 1) := by decide +kernel
theorem dX11_sews_158 : decode cX11_sews 158 = .ok (.ireturn, 1) := by decide +kernel
theorem dX11_sews_159 : decode cX11_sews 159 = .ok (.aload_n 0, 1) := by decide +kernel
theorem dX11_sews_160 : decode cX11_sews 160 = .ok (.dup, 1) := by decide +kernel
theorem dX11_sews_161 : decode cX11_sews 161 = .ok (.getfield 39, 3) := by decide +kernel
theorem dX11_sews_164 : decode cX11_sews 164 = .ok (.iload 5, 2) := by decide +kernel
theorem dX11_sews_166 : decode cX11_sews 166 = .ok (.isub, 1) := by decide +kernel
theorem dX11_sews_167 : decode cX11_sews 167 = .ok (.putfield 39, 3) := by decide +kernel
theorem dX11_sews_170 : decode cX11_sews 170 = .ok (.aload_n 0, 1) := by decide +kernel
theorem dX11_sews_171 : decode cX11_sews 171 = .ok (.dup, 1) := by decide +kernel
theorem dX11_sews_172 : decode cX11_sews 172 = .ok (.getfield 42, 3) := by decide +kernel
theorem dX11_sews_175 : decode cX11_sews 175 = .ok (.iload 6, 2) := by decide +kernel
theorem dX11_sews_177 : decode cX11_sews 177 = .ok (.isub, 1) := by decide +kernel
theorem dX11_sews_178 : decode cX11_sews 178 = .ok (.putfield 42, 3) := by decide +kernel
theorem dX11_sews_181 : decode cX11_sews 181 = .ok (.aload_n 0, 1) := by decide +kernel
theorem dX11_sews_182 : decode cX11_sews 182 = .ok (.dup, 1) := by decide +kernel
theorem dX11_sews_183 : decode cX11_sews 183 = .ok (.getfield 270, 3) := by decide +kernel
theorem dX11_sews_186 : decode cX11_sews 186 = .ok (.iload 5, 2) := by decide +kernel
theorem dX11_sews_188 : decode cX11_sews 188 = .ok (.iadd, 1) := by decide +kernel
theorem dX11_sews_189 : decode cX11_sews 189 = .ok (.putfield 270, 3) := by decide +kernel
theorem dX11_sews_192 : decode cX11_sews 192 = .ok (.aload_n 0, 1) := by decide +kernel
theorem dX11_sews_193 : decode cX11_sews 193 = .ok (.dup, 1) := by decide +kernel
theorem dX11_sews_194 : decode cX11_sews 194 = .ok (.getfield 273, 3) := by decide +kernel
theorem dX11_sews_197 : decode cX11_sews 197 = .ok (.iload 6, 2) := by decide +kernel
theorem dX11_sews_199 : decode cX11_sews 199 = .ok (.iadd, 1) := by decide +kernel
theorem dX11_sews_200 : decode cX11_sews 200 = .ok (.putfield 273, 3) := by decide +kernel
theorem dX11_sews_203 : decode cX11_sews 203 = .ok (.aload_n 0, 1) := by decide +kernel
theorem dX11_sews_204 : decode cX11_sews 204 = .ok (.dup, 1) := by decide +kernel
theorem dX11_sews_205 : decode cX11_sews 205 = .ok (.getfield 276, 3) := by decide +kernel
theorem dX11_sews_208 : decode cX11_sews 208 = .ok (.aload_n 0, 1) := by decide +kernel
theorem dX11_sews_209 : decode cX11_sews 209 = .ok (.getfield 279, 3) := by decide +kernel
theorem dX11_sews_212 : decode cX11_sews 212 = .ok (.ifCond .ne 7, 3) := by decide +kernel
theorem dX11_sews_215 : decode cX11_sews 215 = .ok (.iload_n 2, 1) := by decide +kernel
theorem dX11_sews_216 : decode cX11_sews 216 = .ok (.goto 30, 3) := by decide +kernel
theorem dX11_sews_219 : decode cX11_sews 219 = .ok (.aload_n 0, 1) := by decide +kernel
theorem dX11_sews_220 : decode cX11_sews 220 = .ok (.getfield 279, 3) := by decide +kernel
theorem dX11_sews_223 : decode cX11_sews 223 = .ok (.iconst 1, 1) := by decide +kernel
theorem dX11_sews_224 : decode cX11_sews 224 = .ok (.if_icmp .ne 8, 3) := by decide +kernel
theorem dX11_sews_227 : decode cX11_sews 227 = .ok (.iload_n 3, 1) := by decide +kernel
theorem dX11_sews_228 : decode cX11_sews 228 = .ok (.ineg, 1) := by decide +kernel
theorem dX11_sews_229 : decode cX11_sews 229 = .ok (.goto 17, 3) := by decide +kernel
theorem dX11_sews_232 : decode cX11_sews 232 = .ok (.aload_n 0, 1) := by decide +kernel
theorem dX11_sews_233 : decode cX11_sews 233 = .ok (.getfield 279, 3) := by decide +kernel
theorem dX11_sews_236 : decode cX11_sews 236 = .ok (.iconst 2, 1) := by decide +kernel
theorem dX11_sews_237 : decode cX11_sews 237 = .ok (.if_icmp .ne 8, 3) := by decide +kernel
theorem dX11_sews_240 : decode cX11_sews 240 = .ok (.iload_n 2, 1) := by decide +kernel
theorem dX11_sews_241 : decode cX11_sews 241 = .ok (.ineg, 1) := by decide +kernel
theorem dX11_sews_242 : decode cX11_sews 242 = .ok (.goto 4, 3) := by decide +kernel
theorem dX11_sews_245 : decode cX11_sews 245 = .ok (.iload_n 3, 1) := by decide +kernel
theorem dX11_sews_246 : decode cX11_sews 246 = .ok (.iadd, 1) := by decide +kernel
theorem dX11_sews_247 : decode cX11_sews 247 = .ok (.putfield 276, 3) := by decide +kernel
theorem dX11_sews_250 : decode cX11_sews 250 = .ok (.aload_n 0, 1) := by decide +kernel
theorem dX11_sews_251 : decode cX11_sews 251 = .ok (.dup, 1) := by decide +kernel
theorem dX11_sews_252 : decode cX11_sews 252 = .ok (.getfield 282, 3) := by decide +kernel
theorem dX11_sews_255 : decode cX11_sews 255 = .ok (.aload_n 0, 1) := by decide +kernel
theorem dX11_sews_256 : decode cX11_sews 256 = .ok (.getfield 279, 3) := by decide +kernel
theorem dX11_sews_259 : decode cX11_sews 259 = .ok (.ifCond .ne 7, 3) := by decide +kernel
theorem dX11_sews_262 : decode cX11_sews 262 = .ok (.iload_n 3, 1) := by decide +kernel
theorem dX11_sews_263 : decode cX11_sews 263 = .ok (.goto 30, 3) := by decide +kernel
theorem dX11_sews_266 : decode cX11_sews 266 = .ok (.aload_n 0, 1) := by decide +kernel
theorem dX11_sews_267 : decode cX11_sews 267 = .ok (.getfield 279, 3) := by decide +kernel
theorem dX11_sews_270 : decode cX11_sews 270 = .ok (.iconst 1, 1) := by decide +kernel
theorem dX11_sews_271 : decode cX11_sews 271 = .ok (.if_icmp .ne 7, 3) := by decide +kernel
theorem dX11_sews_274 : decode cX11_sews 274 = .ok (.iload_n 2, 1) := by decide +kernel
theorem dX11_sews_275 : decode cX11_sews 275 = .ok (.goto 18, 3) := by decide +kernel
theorem dX11_sews_278 : decode cX11_sews 278 = .ok (.aload_n 0, 1) := by decide +kernel
theorem dX11_sews_279 : decode cX11_sews 279 = .ok (.getfield 279, 3) := by decide +kernel
theorem dX11_sews_282 : decode cX11_sews 282 = .ok (.iconst 2, 1) := by decide +kernel
theorem dX11_sews_283 : decode cX11_sews 283 = .ok (.if_icmp .ne 8, 3) := by decide +kernel
theorem dX11_sews_286 : decode cX11_sews 286 = .ok (.iload_n 3, 1) := by decide +kernel
theorem dX11_sews_287 : decode cX11_sews 287 = .ok (.ineg, 1) := by decide +kernel
theorem dX11_sews_288 : decode cX11_sews 288 = .ok (.goto 5, 3) := by decide +kernel
theorem dX11_sews_291 : decode cX11_sews 291 = .ok (.iload_n 2, 1) := by decide +kernel
theorem dX11_sews_292 : decode cX11_sews 292 = .ok (.ineg, 1) := by decide +kernel
theorem dX11_sews_293 : decode cX11_sews 293 = .ok (.iadd, 1) := by decide +kernel
theorem dX11_sews_294 : decode cX11_sews 294 = .ok (.putfield 282, 3) := by decide +kernel
theorem dX11_sews_297 : decode cX11_sews 297 = .ok (.aload_n 0, 1) := by decide +kernel
theorem dX11_sews_298 : decode cX11_sews 298 = .ok (.getfield 276, 3) := by decide +kernel
theorem dX11_sews_301 : decode cX11_sews 301 = .ok (.ifCond .ne 14, 3) := by decide +kernel
theorem dX11_sews_304 : decode cX11_sews 304 = .ok (.aload_n 0, 1) := by decide +kernel
theorem dX11_sews_305 : decode cX11_sews 305 = .ok (.getfield 282, 3) := by decide +kernel
theorem dX11_sews_308 : decode cX11_sews 308 = .ok (.ifCond .ne 7, 3) := by decide +kernel
theorem dX11_sews_311 : decode cX11_sews 311 = .ok (.iconst 1, 1) := by decide +kernel
theorem dX11_sews_312 : decode cX11_sews 312 = .ok (.goto 4, 3) := by decide +kernel
theorem dX11_sews_315 : decode cX11_sews 315 = .ok (.iconst 0, 1) := by decide +kernel
theorem dX11_sews_316 : decode cX11_sews 316 = .ok (.istore 7, 2) := by decide +kernel
theorem dX11_sews_318 : decode cX11_sews 318 = .ok (.iconst 0, 1) := by decide +kernel
theorem dX11_sews_319 : decode cX11_sews 319 = .ok (.istore 8, 2) := by decide +kernel
theorem dX11_sews_321 : decode cX11_sews 321 = .ok (.iload 8, 2) := by decide +kernel
theorem dX11_sews_323 : decode cX11_sews 323 = .ok (.aload_n 0, 1) := by decide +kernel
theorem dX11_sews_324 : decode cX11_sews 324 = .ok (.getfield 264, 3) := by decide +kernel
theorem dX11_sews_327 : decode cX11_sews 327 = .ok (.if_icmp .ge 49, 3) := by decide +kernel
theorem dX11_sews_330 : decode cX11_sews 330 = .ok (.iload 7, 2) := by decide +kernel
theorem dX11_sews_332 : decode cX11_sews 332 = .ok (.ifCond .ne 31, 3) := by decide +kernel
theorem dX11_sews_335 : decode cX11_sews 335 = .ok (.aload_n 0, 1) := by decide +kernel
theorem dX11_sews_336 : decode cX11_sews 336 = .ok (.getfield 54, 3) := by decide +kernel
theorem dX11_sews_339 : decode cX11_sews 339 = .ok (.iload 8, 2) := by decide +kernel
theorem dX11_sews_341 : decode cX11_sews 341 = .ok (.iaload, 1) := by decide +kernel
theorem dX11_sews_342 : decode cX11_sews 342 = .ok (.aload_n 0, 1) := by decide +kernel
theorem dX11_sews_343 : decode cX11_sews 343 = .ok (.getfield 276, 3) := by decide +kernel
theorem dX11_sews_346 : decode cX11_sews 346 = .ok (.if_icmp .ne 21, 3) := by decide +kernel
theorem dX11_sews_349 : decode cX11_sews 349 = .ok (.aload_n 0, 1) := by decide +kernel
theorem dX11_sews_350 : decode cX11_sews 350 = .ok (.getfield 57, 3) := by decide +kernel
theorem dX11_sews_353 : decode cX11_sews 353 = .ok (.iload 8, 2) := by decide +kernel
theorem dX11_sews_355 : decode cX11_sews 355 = .ok (.iaload, 1) := by decide +kernel
theorem dX11_sews_356 : decode cX11_sews 356 = .ok (.aload_n 0, 1) := by decide +kernel
theorem dX11_sews_357 : decode cX11_sews 357 = .ok (.getfield 282, 3) := by decide +kernel
theorem dX11_sews_360 : decode cX11_sews 360 = .ok (.if_icmp .ne 7, 3) := by decide +kernel
theorem dX11_sews_363 : decode cX11_sews 363 = .ok (.iconst 1, 1) := by decide +kernel
theorem dX11_sews_364 : decode cX11_sews 364 = .ok (.goto 4, 3) := by decide +kernel
theorem dX11_sews_367 : decode cX11_sews 367 = .ok (.iconst 0, 1) := by decide +kernel
theorem dX11_sews_368 : decode cX11_sews 368 = .ok (.istore 7, 2) := by decide +kernel
theorem dX11_sews_370 : decode cX11_sews 370 = .ok (.iinc 8 1, 3) := by decide +kernel
theorem dX11_sews_373 : decode cX11_sews 373 = .ok (.goto (-52), 3) := by decide +kernel
theorem dX11_sews_376 : decode cX11_sews 376 = .ok (.aload_n 0, 1) := by decide +kernel
theorem dX11_sews_377 : decode cX11_sews 377 = .ok (.dup, 1) := by decide +kernel
theorem dX11_sews_378 : decode cX11_sews 378 = .ok (.getfield 285, 3) := by decide +kernel
theorem dX11_sews_381 : decode cX11_sews 381 = .ok (.iload 7, 2) := by decide +kernel
theorem dX11_sews_383 : decode cX11_sews 383 = .ok (.ifCond .eq 7, 3) := by decide +kernel
theorem dX11_sews_386 : decode cX11_sews 386 = .ok (.iconst 1, 1) := by decide +kernel
theorem dX11_sews_387 : decode cX11_sews 387 = .ok (.goto 4, 3) := by decide +kernel
theorem dX11_sews_390 : decode cX11_sews 390 = .ok (.iconst 0, 1) := by decide +kernel
theorem dX11_sews_391 : decode cX11_sews 391 = .ok (.iadd, 1) := by decide +kernel
theorem dX11_sews_392 : decode cX11_sews 392 = .ok (.putfield 285, 3) := by decide +kernel
theorem dX11_sews_395 : decode cX11_sews 395 = .ok (.aload_n 0, 1) := by decide +kernel
theorem dX11_sews_396 : decode cX11_sews 396 = .ok (.getfield 54, 3) := by decide +kernel
theorem dX11_sews_399 : decode cX11_sews 399 = .ok (.aload_n 0, 1) := by decide +kernel
theorem dX11_sews_400 : decode cX11_sews 400 = .ok (.getfield 264, 3) := by decide +kernel
theorem dX11_sews_403 : decode cX11_sews 403 = .ok (.aload_n 0, 1) := by decide +kernel
theorem dX11_sews_404 : decode cX11_sews 404 = .ok (.getfield 276, 3) := by decide +kernel
theorem dX11_sews_407 : decode cX11_sews 407 = .ok (.iastore, 1) := by decide +kernel
theorem dX11_sews_408 : decode cX11_sews 408 = .ok (.aload_n 0, 1) := by decide +kernel
theorem dX11_sews_409 : decode cX11_sews 409 = .ok (.getfield 57, 3) := by decide +kernel
theorem dX11_sews_412 : decode cX11_sews 412 = .ok (.aload_n 0, 1) := by decide +kernel
theorem dX11_sews_413 : decode cX11_sews 413 = .ok (.getfield 264, 3) := by decide +kernel
theorem dX11_sews_416 : decode cX11_sews 416 = .ok (.aload_n 0, 1) := by decide +kernel
theorem dX11_sews_417 : decode cX11_sews 417 = .ok (.getfield 282, 3) := by decide +kernel
theorem dX11_sews_420 : decode cX11_sews 420 = .ok (.iastore, 1) := by decide +kernel
theorem dX11_sews_421 : decode cX11_sews 421 = .ok (.aload_n 0, 1) := by decide +kernel
theorem dX11_sews_422 : decode cX11_sews 422 = .ok (.dup, 1) := by decide +kernel
theorem dX11_sews_423 : decode cX11_sews 423 = .ok (.getfield 264, 3) := by decide +kernel
theorem dX11_sews_426 : decode cX11_sews 426 = .ok (.iconst 1, 1) := by decide +kernel
theorem dX11_sews_427 : decode cX11_sews 427 = .ok (.iadd, 1) := by decide +kernel
theorem dX11_sews_428 : decode cX11_sews 428 = .ok (.putfield 264, 3) := by decide +kernel
theorem dX11_sews_431 : decode cX11_sews 431 = .ok (.aload_n 0, 1) := by decide +kernel
theorem dX11_sews_432 : decode cX11_sews 432 = .ok (.aload_n 0, 1) := by decide +kernel
theorem dX11_sews_433 : decode cX11_sews 433 = .ok (.getfield 19, 3) := by decide +kernel
theorem dX11_sews_436 : decode cX11_sews 436 = .ok (.iload_n 1, 1) := by decide +kernel
theorem dX11_sews_437 : decode cX11_sews 437 = .ok (.iaload, 1) := by decide +kernel
theorem dX11_sews_438 : decode cX11_sews 438 = .ok (.putfield 258, 3) := by decide +kernel
theorem dX11_sews_441 : decode cX11_sews 441 = .ok (.aload_n 0, 1) := by decide +kernel
theorem dX11_sews_442 : decode cX11_sews 442 = .ok (.aload_n 0, 1) := by decide +kernel
theorem dX11_sews_443 : decode cX11_sews 443 = .ok (.getfield 255, 3) := by decide +kernel
theorem dX11_sews_446 : decode cX11_sews 446 = .ok (.iconst 1, 1) := by decide +kernel
theorem dX11_sews_447 : decode cX11_sews 447 = .ok (.iadd, 1) := by decide +kernel
theorem dX11_sews_448 : decode cX11_sews 448 = .ok (.aload_n 0, 1) := by decide +kernel
theorem dX11_sews_449 : decode cX11_sews 449 = .ok (.getfield 16, 3) := by decide +kernel
theorem dX11_sews_452 : decode cX11_sews 452 = .ok (.bipush 14, 2) := by decide +kernel
theorem dX11_sews_454 : decode cX11_sews 454 = .ok (.iaload, 1) := by decide +kernel
theorem dX11_sews_455 : decode cX11_sews 455 = .ok (.irem, 1) := by decide +kernel
theorem dX11_sews_456 : decode cX11_sews 456 = .ok (.putfield 255, 3) := by decide +kernel
theorem dX11_sews_459 : decode cX11_sews 459 = .ok (.iconst 1, 1) := by decide +kernel
theorem dX11_sews_460 : decode cX11_sews 460 = .ok (.ireturn, 1) := by decide +kernel
set_option maxRecDepth 20000 in
theorem ggX11_ends_X11_copies : GoodIn wsX11_ends wsX11_copies := goodIn_r _ [10, 1, 11, 12, 38, 39, 40, 41, 42, 43, 44, 45, 46, 47, 48, 49, 50, 51, 52, 53, 54, 55, 56, 57, 58, 59, 60, 61, 62, 63, 64, 65, 66, 67, 68, 69, 70, 71, 72, 73, 74, 75, 76, 77, 78, 79, 80, 81, 82, 83, 84, 85, 86, 87, 88, 89, 90, 91, 92, 93, 94, 95, 96, 97, 98, 99] (by decide +kernel) (by decide +kernel)
set_option maxRecDepth 20000 in
theorem gX11_ends_X11_copies : GoodIn wsX11_ends (wsV RX11 222 RX11 yX11_copies wsX11_copies) := goodIn_app (goodIn_of _ (by decide +kernel)) ggX11_ends_X11_copies
set_option maxRecDepth 20000 in
theorem ggX11_ends_X11_sews : GoodIn wsX11_ends wsX11_sews := goodIn_r _ [16, 3, 11, 17, 5, 12, 18, 19, 20, 21, 22, 23, 2, 24, 25, 26, 4, 27, 28, 29, 30, 1, 31, 32, 33, 9, 34, 35, 36, 37, 38, 39, 40, 41, 42, 43, 44, 45, 46, 47, 48, 49, 50, 51, 52, 53, 54, 55, 56, 57, 58, 59, 60, 61, 62, 63, 64, 65, 66, 67, 68, 69, 70, 71, 72, 73, 74, 75, 76, 77, 78, 79, 80, 81, 82, 83, 84, 85, 86, 87, 88, 89, 90, 91, 92, 93, 94, 95, 96, 97, 98, 99] (by decide +kernel) (by decide +kernel)
set_option maxRecDepth 20000 in
theorem gX11_ends_X11_sews : GoodIn wsX11_ends (wsV RX11 288 RX11 yX11_sews wsX11_sews) := goodIn_app (goodIn_of _ (by decide +kernel)) ggX11_ends_X11_sews
theorem dX11_ends_0 : decode cX11_ends 0 = .ok (.iload_n 1, 1) := by decide +kernel
theorem dX11_ends_1 : decode cX11_ends 1 = .ok (.ifCond .ne 34, 3) := by decide +kernel
theorem dX11_ends_4 : decode cX11_ends 4 = .ok (.aload_n 0, 1) := by decide +kernel
theorem dX11_ends_5 : decode cX11_ends 5 = .ok (.getfield 16, 3) := by decide +kernel
theorem dX11_ends_8 : decode cX11_ends 8 = .ok (.iload_n 2, 1) := by decide +kernel
theorem dX11_ends_9 : decode cX11_ends 9 = .ok (.iaload, 1) := by decide +kernel
theorem dX11_ends_10 : decode cX11_ends 10 = .ok (.ifCond .ne 10, 3) := by decide +kernel
theorem dX11_ends_13 : decode cX11_ends 13 = .ok (.aload_n 0, 1) := by decide +kernel
theorem dX11_ends_14 : decode cX11_ends 14 = .ok (.iconst 4, 1) := by decide +kernel
theorem dX11_ends_15 : decode cX11_ends 15 = .ok (.putfield 267, 3) := by decide +kernel
theorem dX11_ends_18 : decode cX11_ends 18 = .ok (.iconst 0, 1) := by decide +kernel
theorem dX11_ends_19 : decode cX11_ends 19 = .ok (.ireturn, 1) := by decide +kernel
theorem dX11_ends_20 : decode cX11_ends 20 = .ok (.aload_n 0, 1) := by decide +kernel
theorem dX11_ends_21 : decode cX11_ends 21 = .ok (.iload_n 2, 1) := by decide +kernel
theorem dX11_ends_22 : decode cX11_ends 22 = .ok (.bipush 14, 2) := by decide +kernel
theorem dX11_ends_24 : decode cX11_ends 24 = .ok (.invokevirtual 222, 3) := by decide +kernel
theorem dX11_ends_27 : decode cX11_ends 27 = .ok (.aload_n 0, 1) := by decide +kernel
theorem dX11_ends_28 : decode cX11_ends 28 = .ok (.iconst 0, 1) := by decide +kernel
theorem dX11_ends_29 : decode cX11_ends 29 = .ok (.putfield 255, 3) := by decide +kernel
theorem dX11_ends_32 : decode cX11_ends 32 = .ok (.goto 86, 3) := by decide +kernel
theorem dX11_ends_35 : decode cX11_ends 35 = .ok (.iload_n 1, 1) := by decide +kernel
theorem dX11_ends_36 : decode cX11_ends 36 = .ok (.iconst 1, 1) := by decide +kernel
theorem dX11_ends_37 : decode cX11_ends 37 = .ok (.if_icmp .ne 45, 3) := by decide +kernel
theorem dX11_ends_40 : decode cX11_ends 40 = .ok (.aload_n 0, 1) := by decide +kernel
theorem dX11_ends_41 : decode cX11_ends 41 = .ok (.getfield 16, 3) := by decide +kernel
theorem dX11_ends_44 : decode cX11_ends 44 = .ok (.bipush 14, 2) := by decide +kernel
theorem dX11_ends_46 : decode cX11_ends 46 = .ok (.iaload, 1) := by decide +kernel
theorem dX11_ends_47 : decode cX11_ends 47 = .ok (.ifCond .ne 10, 3) := by decide +kernel
theorem dX11_ends_50 : decode cX11_ends 50 = .ok (.aload_n 0, 1) := by decide +kernel
theorem dX11_ends_51 : decode cX11_ends 51 = .ok (.iconst 4, 1) := by decide +kernel
theorem dX11_ends_52 : decode cX11_ends 52 = .ok (.putfield 267, 3) := by decide +kernel
theorem dX11_ends_55 : decode cX11_ends 55 = .ok (.iconst 0, 1) := by decide +kernel
theorem dX11_ends_56 : decode cX11_ends 56 = .ok (.ireturn, 1) := by decide +kernel
theorem dX11_ends_57 : decode cX11_ends 57 = .ok (.iconst 0, 1) := by decide +kernel
theorem dX11_ends_58 : decode cX11_ends 58 = .ok (.istore_n 3, 1) := by decide +kernel
theorem dX11_ends_59 : decode cX11_ends 59 = .ok (.iload_n 3, 1) := by decide +kernel
theorem dX11_ends_60 : decode cX11_ends 60 = .ok (.iload_n 2, 1) := by decide +kernel
theorem dX11_ends_61 : decode cX11_ends 61 = .ok (.if_icmp .ge 18, 3) := by decide +kernel
theorem dX11_ends_64 : decode cX11_ends 64 = .ok (.aload_n 0, 1) := by decide +kernel
theorem dX11_ends_65 : decode cX11_ends 65 = .ok (.invokevirtual 288, 3) := by decide +kernel
theorem dX11_ends_68 : decode cX11_ends 68 = .ok (.ifCond .ne 5, 3) := by decide +kernel
theorem dX11_ends_71 : decode cX11_ends 71 = .ok (.iconst 0, 1) := by decide +kernel
theorem dX11_ends_72 : decode cX11_ends 72 = .ok (.ireturn, 1) := by decide +kernel
theorem dX11_ends_73 : decode cX11_ends 73 = .ok (.iinc 3 1, 3) := by decide +kernel
theorem dX11_ends_76 : decode cX11_ends 76 = .ok (.goto (-17), 3) := by decide +kernel
theorem dX11_ends_79 : decode cX11_ends 79 = .ok (.goto 39, 3) := by decide +kernel
theorem dX11_ends_82 : decode cX11_ends 82 = .ok (.iload_n 1, 1) := by decide +kernel
theorem dX11_ends_83 : decode cX11_ends 83 = .ok (.iconst 2, 1) := by decide +kernel
theorem dX11_ends_84 : decode cX11_ends 84 = .ok (.if_icmp .ne 18, 3) := by decide +kernel
theorem dX11_ends_87 : decode cX11_ends 87 = .ok (.aload_n 0, 1) := by decide +kernel
theorem dX11_ends_88 : decode cX11_ends 88 = .ok (.aload_n 0, 1) := by decide +kernel
theorem dX11_ends_89 : decode cX11_ends 89 = .ok (.getfield 279, 3) := by decide +kernel
theorem dX11_ends_92 : decode cX11_ends 92 = .ok (.iload_n 2, 1) := by decide +kernel
theorem dX11_ends_93 : decode cX11_ends 93 = .ok (.iadd, 1) := by decide +kernel
theorem dX11_ends_94 : decode cX11_ends 94 = .ok (.iconst 4, 1) := by decide +kernel
theorem dX11_ends_95 : decode cX11_ends 95 = .ok (.irem, 1) := by decide +kernel
theorem dX11_ends_96 : decode cX11_ends 96 = .ok (.putfield 279, 3) := by decide +kernel
theorem dX11_ends_99 : decode cX11_ends 99 = .ok (.goto 19, 3) := by decide +kernel
theorem dX11_ends_102 : decode cX11_ends 102 = .ok (.aload_n 0, 1) := by decide +kernel
theorem dX11_ends_103 : decode cX11_ends 103 = .ok (.aload_n 0, 1) := by decide +kernel
theorem dX11_ends_104 : decode cX11_ends 104 = .ok (.getfield 261, 3) := by decide +kernel
theorem dX11_ends_107 : decode cX11_ends 107 = .ok (.ifCond .ne 7, 3) := by decide +kernel
theorem dX11_ends_110 : decode cX11_ends 110 = .ok (.iconst 1, 1) := by decide +kernel
theorem dX11_ends_111 : decode cX11_ends 111 = .ok (.goto 4, 3) := by decide +kernel
theorem dX11_ends_114 : decode cX11_ends 114 = .ok (.iconst 0, 1) := by decide +kernel
theorem dX11_ends_115 : decode cX11_ends 115 = .ok (.putfield 261, 3) := by decide +kernel
theorem dX11_ends_118 : decode cX11_ends 118 = .ok (.iconst 1, 1) := by decide +kernel
theorem dX11_ends_119 : decode cX11_ends 119 = .ok (.ireturn, 1) := by decide +kernel
set_option maxRecDepth 20000 in
theorem ggX11_sew_X11_ends : GoodIn wsX11_sew wsX11_ends := goodIn_r _ [23, 6, 10, 9, 4, 5, 24, 25, 26, 22, 27, 7, 28, 29, 30, 31, 32, 8, 33, 34, 35, 1, 36, 37, 12, 13, 2, 3, 38, 39, 11, 40, 41, 42, 43, 44, 45, 46, 47, 48, 49, 50, 51, 52, 53, 54, 55, 56, 57, 58, 59, 60, 61, 62, 63, 64, 65, 66, 67, 68, 69, 70, 71, 72, 73, 74, 75, 76, 77, 78, 79, 80, 81, 82, 83, 84, 85, 86, 87, 88, 89, 90, 91, 92, 93, 94, 95, 96, 97, 98, 99, 100, 101, 102, 103, 104, 105, 106, 107, 108] (by decide +kernel) (by decide +kernel)
set_option maxRecDepth 20000 in
theorem gX11_sew_X11_ends : GoodIn wsX11_sew (wsV RX11 291 RX11 yX11_ends wsX11_ends) := goodIn_app (goodIn_of _ (by decide +kernel)) ggX11_sew_X11_ends
theorem dX11_sew_0 : decode cX11_sew 0 = .ok (.aload_n 0, 1) := by decide +kernel
theorem dX11_sew_1 : decode cX11_sew 1 = .ok (.iconst 0, 1) := by decide +kernel
theorem dX11_sew_2 : decode cX11_sew 2 = .ok (.putfield 264, 3) := by decide +kernel
theorem dX11_sew_5 : decode cX11_sew 5 = .ok (.aload_n 0, 1) := by decide +kernel
theorem dX11_sew_6 : decode cX11_sew 6 = .ok (.iconst 0, 1) := by decide +kernel
theorem dX11_sew_7 : decode cX11_sew 7 = .ok (.putfield 276, 3) := by decide +kernel
theorem dX11_sew_10 : decode cX11_sew 10 = .ok (.aload_n 0, 1) := by decide +kernel
theorem dX11_sew_11 : decode cX11_sew 11 = .ok (.iconst 0, 1) := by decide +kernel
theorem dX11_sew_12 : decode cX11_sew 12 = .ok (.putfield 282, 3) := by decide +kernel
theorem dX11_sew_15 : decode cX11_sew 15 = .ok (.aload_n 0, 1) := by decide +kernel
theorem dX11_sew_16 : decode cX11_sew 16 = .ok (.iconst 0, 1) := by decide +kernel
theorem dX11_sew_17 : decode cX11_sew 17 = .ok (.putfield 279, 3) := by decide +kernel
theorem dX11_sew_20 : decode cX11_sew 20 = .ok (.aload_n 0, 1) := by decide +kernel
theorem dX11_sew_21 : decode cX11_sew 21 = .ok (.iconst 0, 1) := by decide +kernel
theorem dX11_sew_22 : decode cX11_sew 22 = .ok (.putfield 261, 3) := by decide +kernel
theorem dX11_sew_25 : decode cX11_sew 25 = .ok (.aload_n 0, 1) := by decide +kernel
theorem dX11_sew_26 : decode cX11_sew 26 = .ok (.aload_n 0, 1) := by decide +kernel
theorem dX11_sew_27 : decode cX11_sew 27 = .ok (.getfield 16, 3) := by decide +kernel
theorem dX11_sew_30 : decode cX11_sew 30 = .ok (.bipush 14, 2) := by decide +kernel
theorem dX11_sew_32 : decode cX11_sew 32 = .ok (.iaload, 1) := by decide +kernel
theorem dX11_sew_33 : decode cX11_sew 33 = .ok (.ifCond .ne 7, 3) := by decide +kernel
theorem dX11_sew_36 : decode cX11_sew 36 = .ok (.iconst 0, 1) := by decide +kernel
theorem dX11_sew_37 : decode cX11_sew 37 = .ok (.goto 21, 3) := by decide +kernel
theorem dX11_sew_40 : decode cX11_sew 40 = .ok (.aload_n 0, 1) := by decide +kernel
theorem dX11_sew_41 : decode cX11_sew 41 = .ok (.getfield 19, 3) := by decide +kernel
theorem dX11_sew_44 : decode cX11_sew 44 = .ok (.sipush 672, 3) := by decide +kernel
theorem dX11_sew_47 : decode cX11_sew 47 = .ok (.aload_n 0, 1) := by decide +kernel
theorem dX11_sew_48 : decode cX11_sew 48 = .ok (.getfield 16, 3) := by decide +kernel
theorem dX11_sew_51 : decode cX11_sew 51 = .ok (.bipush 14, 2) := by decide +kernel
theorem dX11_sew_53 : decode cX11_sew 53 = .ok (.iaload, 1) := by decide +kernel
theorem dX11_sew_54 : decode cX11_sew 54 = .ok (.iadd, 1) := by decide +kernel
theorem dX11_sew_55 : decode cX11_sew 55 = .ok (.iconst 1, 1) := by decide +kernel
theorem dX11_sew_56 : decode cX11_sew 56 = .ok (.isub, 1) := by decide +kernel
theorem dX11_sew_57 : decode cX11_sew 57 = .ok (.iaload, 1) := by decide +kernel
theorem dX11_sew_58 : decode cX11_sew 58 = .ok (.putfield 258, 3) := by decide +kernel
theorem dX11_sew_61 : decode cX11_sew 61 = .ok (.aload_n 0, 1) := by decide +kernel
theorem dX11_sew_62 : decode cX11_sew 62 = .ok (.iconst 0, 1) := by decide +kernel
theorem dX11_sew_63 : decode cX11_sew 63 = .ok (.putfield 255, 3) := by decide +kernel
theorem dX11_sew_66 : decode cX11_sew 66 = .ok (.aload_n 0, 1) := by decide +kernel
theorem dX11_sew_67 : decode cX11_sew 67 = .ok (.iconst 0, 1) := by decide +kernel
theorem dX11_sew_68 : decode cX11_sew 68 = .ok (.putfield 267, 3) := by decide +kernel
theorem dX11_sew_71 : decode cX11_sew 71 = .ok (.aload_n 0, 1) := by decide +kernel
theorem dX11_sew_72 : decode cX11_sew 72 = .ok (.iconst 0, 1) := by decide +kernel
theorem dX11_sew_73 : decode cX11_sew 73 = .ok (.putfield 285, 3) := by decide +kernel
theorem dX11_sew_76 : decode cX11_sew 76 = .ok (.aload_n 0, 1) := by decide +kernel
theorem dX11_sew_77 : decode cX11_sew 77 = .ok (.iconst 0, 1) := by decide +kernel
theorem dX11_sew_78 : decode cX11_sew 78 = .ok (.putfield 270, 3) := by decide +kernel
theorem dX11_sew_81 : decode cX11_sew 81 = .ok (.aload_n 0, 1) := by decide +kernel
theorem dX11_sew_82 : decode cX11_sew 82 = .ok (.iconst 0, 1) := by decide +kernel
theorem dX11_sew_83 : decode cX11_sew 83 = .ok (.putfield 273, 3) := by decide +kernel
theorem dX11_sew_86 : decode cX11_sew 86 = .ok (.iconst 0, 1) := by decide +kernel
theorem dX11_sew_87 : decode cX11_sew 87 = .ok (.istore_n 1, 1) := by decide +kernel
theorem dX11_sew_88 : decode cX11_sew 88 = .ok (.iload_n 1, 1) := by decide +kernel
theorem dX11_sew_89 : decode cX11_sew 89 = .ok (.aload_n 0, 1) := by decide +kernel
theorem dX11_sew_90 : decode cX11_sew 90 = .ok (.getfield 115, 3) := by decide +kernel
theorem dX11_sew_93 : decode cX11_sew 93 = .ok (.if_icmp .ge 28, 3) := by decide +kernel
theorem dX11_sew_96 : decode cX11_sew 96 = .ok (.aload_n 0, 1) := by decide +kernel
theorem dX11_sew_97 : decode cX11_sew 97 = .ok (.aload_n 0, 1) := by decide +kernel
theorem dX11_sew_98 : decode cX11_sew 98 = .ok (.getfield 45, 3) := by decide +kernel
theorem dX11_sew_101 : decode cX11_sew 101 = .ok (.iload_n 1, 1) := by decide +kernel
theorem dX11_sew_102 : decode cX11_sew 102 = .ok (.iaload, 1) := by decide +kernel
theorem dX11_sew_103 : decode cX11_sew 103 = .ok (.aload_n 0, 1) := by decide +kernel
theorem dX11_sew_104 : decode cX11_sew 104 = .ok (.getfield 48, 3) := by decide +kernel
theorem dX11_sew_107 : decode cX11_sew 107 = .ok (.iload_n 1, 1) := by decide +kernel
theorem dX11_sew_108 : decode cX11_sew 108 = .ok (.iaload, 1) := by decide +kernel
theorem dX11_sew_109 : decode cX11_sew 109 = .ok (.invokevirtual 291, 3) := by decide +kernel
theorem dX11_sew_112 : decode cX11_sew 112 = .ok (.ifCond .eq 9, 3) := by decide +kernel
theorem dX11_sew_115 : decode cX11_sew 115 = .ok (.iinc 1 1, 3) := by decide +kernel
theorem dX11_sew_118 : decode cX11_sew 118 = .ok (.goto (-30), 3) := by decide +kernel
theorem dX11_sew_121 : decode cX11_sew 121 = .ok (.aload_n 0, 1) := by decide +kernel
theorem dX11_sew_122 : decode cX11_sew 122 = .ok (.iconst 1, 1) := by decide +kernel
theorem dX11_sew_123 : decode cX11_sew 123 = .ok (.putfield 118, 3) := by decide +kernel
theorem dX11_sew_126 : decode cX11_sew 126 = .ok (.aload_n 0, 1) := by decide +kernel
theorem dX11_sew_127 : decode cX11_sew 127 = .ok (.getfield 51, 3) := by decide +kernel
theorem dX11_sew_130 : decode cX11_sew 130 = .ok (.iconst 0, 1) := by decide +kernel
theorem dX11_sew_131 : decode cX11_sew 131 = .ok (.aload_n 0, 1) := by decide +kernel
theorem dX11_sew_132 : decode cX11_sew 132 = .ok (.getfield 264, 3) := by decide +kernel
theorem dX11_sew_135 : decode cX11_sew 135 = .ok (.iastore, 1) := by decide +kernel
theorem dX11_sew_136 : decode cX11_sew 136 = .ok (.aload_n 0, 1) := by decide +kernel
theorem dX11_sew_137 : decode cX11_sew 137 = .ok (.getfield 51, 3) := by decide +kernel
theorem dX11_sew_140 : decode cX11_sew 140 = .ok (.iconst 1, 1) := by decide +kernel
theorem dX11_sew_141 : decode cX11_sew 141 = .ok (.aload_n 0, 1) := by decide +kernel
theorem dX11_sew_142 : decode cX11_sew 142 = .ok (.getfield 276, 3) := by decide +kernel
theorem dX11_sew_145 : decode cX11_sew 145 = .ok (.iastore, 1) := by decide +kernel
theorem dX11_sew_146 : decode cX11_sew 146 = .ok (.aload_n 0, 1) := by decide +kernel
theorem dX11_sew_147 : decode cX11_sew 147 = .ok (.getfield 51, 3) := by decide +kernel
theorem dX11_sew_150 : decode cX11_sew 150 = .ok (.iconst 2, 1) := by decide +kernel
theorem dX11_sew_151 : decode cX11_sew 151 = .ok (.aload_n 0, 1) := by decide +kernel
theorem dX11_sew_152 : decode cX11_sew 152 = .ok (.getfield 282, 3) := by decide +kernel
theorem dX11_sew_155 : decode cX11_sew 155 = .ok (.iastore, 1) := by decide +kernel
theorem dX11_sew_156 : decode cX11_sew 156 = .ok (.aload_n 0, 1) := by decide +kernel
theorem dX11_sew_157 : decode cX11_sew 157 = .ok (.getfield 51, 3) := by decide +kernel
theorem dX11_sew_160 : decode cX11_sew 160 = .ok (.iconst 3, 1) := by decide +kernel
theorem dX11_sew_161 : decode cX11_sew 161 = .ok (.aload_n 0, 1) := by decide +kernel
theorem dX11_sew_162 : decode cX11_sew 162 = .ok (.getfield 279, 3) := by decide +kernel
theorem dX11_sew_165 : decode cX11_sew 165 = .ok (.iastore, 1) := by decide +kernel
theorem dX11_sew_166 : decode cX11_sew 166 = .ok (.aload_n 0, 1) := by decide +kernel
theorem dX11_sew_167 : decode cX11_sew 167 = .ok (.getfield 51, 3) := by decide +kernel
theorem dX11_sew_170 : decode cX11_sew 170 = .ok (.iconst 4, 1) := by decide +kernel
theorem dX11_sew_171 : decode cX11_sew 171 = .ok (.aload_n 0, 1) := by decide +kernel
theorem dX11_sew_172 : decode cX11_sew 172 = .ok (.getfield 261, 3) := by decide +kernel
theorem dX11_sew_175 : decode cX11_sew 175 = .ok (.ifCond .eq 7, 3) := by decide +kernel
theorem dX11_sew_178 : decode cX11_sew 178 = .ok (.iconst 1, 1) := by decide +kernel
theorem dX11_sew_179 : decode cX11_sew 179 = .ok (.goto 4, 3) := by decide +kernel
theorem dX11_sew_182 : decode cX11_sew 182 = .ok (.iconst 0, 1) := by decide +kernel
theorem dX11_sew_183 : decode cX11_sew 183 = .ok (.iastore, 1) := by decide +kernel
theorem dX11_sew_184 : decode cX11_sew 184 = .ok (.aload_n 0, 1) := by decide +kernel
theorem dX11_sew_185 : decode cX11_sew 185 = .ok (.getfield 51, 3) := by decide +kernel
theorem dX11_sew_188 : decode cX11_sew 188 = .ok (.iconst 5, 1) := by decide +kernel
theorem dX11_sew_189 : decode cX11_sew 189 = .ok (.aload_n 0, 1) := by decide +kernel
theorem dX11_sew_190 : decode cX11_sew 190 = .ok (.getfield 267, 3) := by decide +kernel
theorem dX11_sew_193 : decode cX11_sew 193 = .ok (.iastore, 1) := by decide +kernel
theorem dX11_sew_194 : decode cX11_sew 194 = .ok (.aload_n 0, 1) := by decide +kernel
theorem dX11_sew_195 : decode cX11_sew 195 = .ok (.getfield 51, 3) := by decide +kernel
theorem dX11_sew_198 : decode cX11_sew 198 = .ok (.bipush 6, 2) := by decide +kernel
theorem dX11_sew_200 : decode cX11_sew 200 = .ok (.aload_n 0, 1) := by decide +kernel
theorem dX11_sew_201 : decode cX11_sew 201 = .ok (.getfield 285, 3) := by decide +kernel
theorem dX11_sew_204 : decode cX11_sew 204 = .ok (.iastore, 1) := by decide +kernel
theorem dX11_sew_205 : decode cX11_sew 205 = .ok (.aload_n 0, 1) := by decide +kernel
theorem dX11_sew_206 : decode cX11_sew 206 = .ok (.getfield 51, 3) := by decide +kernel
theorem dX11_sew_209 : decode cX11_sew 209 = .ok (.bipush 7, 2) := by decide +kernel
theorem dX11_sew_211 : decode cX11_sew 211 = .ok (.aload_n 0, 1) := by decide +kernel
theorem dX11_sew_212 : decode cX11_sew 212 = .ok (.getfield 270, 3) := by decide +kernel
theorem dX11_sew_215 : decode cX11_sew 215 = .ok (.iastore, 1) := by decide +kernel
theorem dX11_sew_216 : decode cX11_sew 216 = .ok (.aload_n 0, 1) := by decide +kernel
theorem dX11_sew_217 : decode cX11_sew 217 = .ok (.getfield 51, 3) := by decide +kernel
theorem dX11_sew_220 : decode cX11_sew 220 = .ok (.bipush 8, 2) := by decide +kernel
theorem dX11_sew_222 : decode cX11_sew 222 = .ok (.aload_n 0, 1) := by decide +kernel
theorem dX11_sew_223 : decode cX11_sew 223 = .ok (.getfield 273, 3) := by decide +kernel
theorem dX11_sew_226 : decode cX11_sew 226 = .ok (.iastore, 1) := by decide +kernel
theorem dX11_sew_227 : decode cX11_sew 227 = .ok (.aload_n 0, 1) := by decide +kernel
theorem dX11_sew_228 : decode cX11_sew 228 = .ok (.getfield 51, 3) := by decide +kernel
theorem dX11_sew_231 : decode cX11_sew 231 = .ok (.bipush 9, 2) := by decide +kernel
theorem dX11_sew_233 : decode cX11_sew 233 = .ok (.iload_n 1, 1) := by decide +kernel
theorem dX11_sew_234 : decode cX11_sew 234 = .ok (.iastore, 1) := by decide +kernel
theorem dX11_sew_235 : decode cX11_sew 235 = .ok (.aload_n 0, 1) := by decide +kernel
theorem dX11_sew_236 : decode cX11_sew 236 = .ok (.getfield 264, 3) := by decide +kernel
theorem dX11_sew_239 : decode cX11_sew 239 = .ok (.ireturn, 1) := by decide +kernel
set_option maxRecDepth 20000 in
theorem ggX11_seam_X11_in : GoodIn wsX11_seam wsX11_in := goodIn_r _ [7] (by decide +kernel) (by decide +kernel)
set_option maxRecDepth 20000 in
theorem gX11_seam_X11_in : GoodIn wsX11_seam (va_wsS RX11 147 yX11_in wsX11_in) := goodIn_app (goodIn_of _ (by decide +kernel)) ggX11_seam_X11_in
theorem dX11_seam_0 : decode cX11_seam 0 = .ok (.aload_n 0, 1) := by decide +kernel
theorem dX11_seam_1 : decode cX11_seam 1 = .ok (.iload_n 1, 1) := by decide +kernel
theorem dX11_seam_2 : decode cX11_seam 2 = .ok (.iconst 0, 1) := by decide +kernel
theorem dX11_seam_3 : decode cX11_seam 3 = .ok (.bipush 9, 2) := by decide +kernel
theorem dX11_seam_5 : decode cX11_seam 5 = .ok (.invokestatic 147, 3) := by decide +kernel
theorem dX11_seam_8 : decode cX11_seam 8 = .ok (.ifCond .ne 7, 3) := by decide +kernel
theorem dX11_seam_11 : decode cX11_seam 11 = .ok (.iconst 1, 1) := by decide +kernel
theorem dX11_seam_12 : decode cX11_seam 12 = .ok (.goto 15, 3) := by decide +kernel
theorem dX11_seam_15 : decode cX11_seam 15 = .ok (.aload_n 0, 1) := by decide +kernel
theorem dX11_seam_16 : decode cX11_seam 16 = .ok (.getfield 118, 3) := by decide +kernel
theorem dX11_seam_19 : decode cX11_seam 19 = .ok (.ifCond .ne 7, 3) := by decide +kernel
theorem dX11_seam_22 : decode cX11_seam 22 = .ok (.iconst 2, 1) := by decide +kernel
theorem dX11_seam_23 : decode cX11_seam 23 = .ok (.goto 4, 3) := by decide +kernel
theorem dX11_seam_26 : decode cX11_seam 26 = .ok (.iconst 0, 1) := by decide +kernel
theorem dX11_seam_27 : decode cX11_seam 27 = .ok (.putfield 103, 3) := by decide +kernel
theorem dX11_seam_30 : decode cX11_seam 30 = .ok (.aload_n 0, 1) := by decide +kernel
theorem dX11_seam_31 : decode cX11_seam 31 = .ok (.getfield 103, 3) := by decide +kernel
theorem dX11_seam_34 : decode cX11_seam 34 = .ok (.ifCond .eq 7, 3) := by decide +kernel
theorem dX11_seam_37 : decode cX11_seam 37 = .ok (.iconst 0, 1) := by decide +kernel
theorem dX11_seam_38 : decode cX11_seam 38 = .ok (.goto 9, 3) := by decide +kernel
theorem dX11_seam_41 : decode cX11_seam 41 = .ok (.aload_n 0, 1) := by decide +kernel
theorem dX11_seam_42 : decode cX11_seam 42 = .ok (.getfield 51, 3) := by decide +kernel
theorem dX11_seam_45 : decode cX11_seam 45 = .ok (.iload_n 1, 1) := by decide +kernel
theorem dX11_seam_46 : decode cX11_seam 46 = .ok (.iaload, 1) := by decide +kernel
theorem dX11_seam_47 : decode cX11_seam 47 = .ok (.ireturn, 1) := by decide +kernel
set_option maxRecDepth 20000 in
theorem ggX11_sewn_X11_in : GoodIn wsX11_sewn wsX11_in := goodIn_r _ [9] (by decide +kernel) (by decide +kernel)
set_option maxRecDepth 20000 in
theorem gX11_sewn_X11_in : GoodIn wsX11_sewn (va_wsS RX11 147 yX11_in wsX11_in) := goodIn_app (goodIn_of _ (by decide +kernel)) ggX11_sewn_X11_in
theorem dX11_sewn_0 : decode cX11_sewn 0 = .ok (.aload_n 0, 1) := by decide +kernel
theorem dX11_sewn_1 : decode cX11_sewn 1 = .ok (.iload_n 2, 1) := by decide +kernel
theorem dX11_sewn_2 : decode cX11_sewn 2 = .ok (.iconst 0, 1) := by decide +kernel
theorem dX11_sewn_3 : decode cX11_sewn 3 = .ok (.iconst 1, 1) := by decide +kernel
theorem dX11_sewn_4 : decode cX11_sewn 4 = .ok (.invokestatic 147, 3) := by decide +kernel
theorem dX11_sewn_7 : decode cX11_sewn 7 = .ok (.ifCond .ne 7, 3) := by decide +kernel
theorem dX11_sewn_10 : decode cX11_sewn 10 = .ok (.iconst 1, 1) := by decide +kernel
theorem dX11_sewn_11 : decode cX11_sewn 11 = .ok (.goto 31, 3) := by decide +kernel
theorem dX11_sewn_14 : decode cX11_sewn 14 = .ok (.aload_n 0, 1) := by decide +kernel
theorem dX11_sewn_15 : decode cX11_sewn 15 = .ok (.getfield 118, 3) := by decide +kernel
theorem dX11_sewn_18 : decode cX11_sewn 18 = .ok (.ifCond .eq 19, 3) := by decide +kernel
theorem dX11_sewn_21 : decode cX11_sewn 21 = .ok (.iload_n 1, 1) := by decide +kernel
theorem dX11_sewn_22 : decode cX11_sewn 22 = .ok (.iconst 0, 1) := by decide +kernel
theorem dX11_sewn_23 : decode cX11_sewn 23 = .ok (.aload_n 0, 1) := by decide +kernel
theorem dX11_sewn_24 : decode cX11_sewn 24 = .ok (.getfield 51, 3) := by decide +kernel
theorem dX11_sewn_27 : decode cX11_sewn 27 = .ok (.iconst 0, 1) := by decide +kernel
theorem dX11_sewn_28 : decode cX11_sewn 28 = .ok (.iaload, 1) := by decide +kernel
theorem dX11_sewn_29 : decode cX11_sewn 29 = .ok (.iconst 1, 1) := by decide +kernel
theorem dX11_sewn_30 : decode cX11_sewn 30 = .ok (.isub, 1) := by decide +kernel
theorem dX11_sewn_31 : decode cX11_sewn 31 = .ok (.invokestatic 147, 3) := by decide +kernel
theorem dX11_sewn_34 : decode cX11_sewn 34 = .ok (.ifCond .ne 7, 3) := by decide +kernel
theorem dX11_sewn_37 : decode cX11_sewn 37 = .ok (.iconst 2, 1) := by decide +kernel
theorem dX11_sewn_38 : decode cX11_sewn 38 = .ok (.goto 4, 3) := by decide +kernel
theorem dX11_sewn_41 : decode cX11_sewn 41 = .ok (.iconst 0, 1) := by decide +kernel
theorem dX11_sewn_42 : decode cX11_sewn 42 = .ok (.putfield 103, 3) := by decide +kernel
theorem dX11_sewn_45 : decode cX11_sewn 45 = .ok (.aload_n 0, 1) := by decide +kernel
theorem dX11_sewn_46 : decode cX11_sewn 46 = .ok (.getfield 103, 3) := by decide +kernel
theorem dX11_sewn_49 : decode cX11_sewn 49 = .ok (.ifCond .eq 7, 3) := by decide +kernel
theorem dX11_sewn_52 : decode cX11_sewn 52 = .ok (.iconst 0, 1) := by decide +kernel
theorem dX11_sewn_53 : decode cX11_sewn 53 = .ok (.goto 22, 3) := by decide +kernel
theorem dX11_sewn_56 : decode cX11_sewn 56 = .ok (.iload_n 2, 1) := by decide +kernel
theorem dX11_sewn_57 : decode cX11_sewn 57 = .ok (.ifCond .ne 12, 3) := by decide +kernel
theorem dX11_sewn_60 : decode cX11_sewn 60 = .ok (.aload_n 0, 1) := by decide +kernel
theorem dX11_sewn_61 : decode cX11_sewn 61 = .ok (.getfield 54, 3) := by decide +kernel
theorem dX11_sewn_64 : decode cX11_sewn 64 = .ok (.iload_n 1, 1) := by decide +kernel
theorem dX11_sewn_65 : decode cX11_sewn 65 = .ok (.iaload, 1) := by decide +kernel
theorem dX11_sewn_66 : decode cX11_sewn 66 = .ok (.goto 9, 3) := by decide +kernel
theorem dX11_sewn_69 : decode cX11_sewn 69 = .ok (.aload_n 0, 1) := by decide +kernel
theorem dX11_sewn_70 : decode cX11_sewn 70 = .ok (.getfield 57, 3) := by decide +kernel
theorem dX11_sewn_73 : decode cX11_sewn 73 = .ok (.iload_n 1, 1) := by decide +kernel
theorem dX11_sewn_74 : decode cX11_sewn 74 = .ok (.iaload, 1) := by decide +kernel
theorem dX11_sewn_75 : decode cX11_sewn 75 = .ok (.ireturn, 1) := by decide +kernel
set_option maxRecDepth 20000 in
theorem ggX11_lacksRim_X11_isTape : GoodIn wsX11_lacksRim wsX11_isTape := goodIn_r _ [6, 7, 8, 5, 9] (by decide +kernel) (by decide +kernel)
set_option maxRecDepth 20000 in
theorem gX11_lacksRim_X11_isTape : GoodIn wsX11_lacksRim (va_wsS RX11 183 yX11_isTape wsX11_isTape) := goodIn_app (goodIn_of _ (by decide +kernel)) ggX11_lacksRim_X11_isTape
set_option maxRecDepth 20000 in
theorem ggX11_lacksRim_X11_refuse : GoodIn wsX11_lacksRim wsX11_refuse := goodIn_r _ [13, 14, 15, 16, 17, 18, 19, 20, 21, 22, 23, 24, 25, 26, 27, 28, 29, 30, 31, 32, 33, 34, 35, 36, 37, 38, 39, 40, 41, 42, 43, 44, 45, 46, 47, 48, 49, 50, 51, 52, 53, 54, 55, 56, 57, 58, 59, 60, 61, 62, 63, 64, 65, 66, 67, 68, 69, 70, 71, 72, 73, 74, 75, 76] (by decide +kernel) (by decide +kernel)
set_option maxRecDepth 20000 in
theorem gX11_lacksRim_X11_refuse : GoodIn wsX11_lacksRim (wsV RX11 186 RX11 yX11_refuse wsX11_refuse) := goodIn_app (goodIn_of _ (by decide +kernel)) ggX11_lacksRim_X11_refuse
set_option maxRecDepth 20000 in
theorem ggX11_lacksRim_X11_in : GoodIn wsX11_lacksRim wsX11_in := goodIn_r _ [9] (by decide +kernel) (by decide +kernel)
set_option maxRecDepth 20000 in
theorem gX11_lacksRim_X11_in : GoodIn wsX11_lacksRim (va_wsS RX11 147 yX11_in wsX11_in) := goodIn_app (goodIn_of _ (by decide +kernel)) ggX11_lacksRim_X11_in
theorem dX11_lacksRim_0 : decode cX11_lacksRim 0 = .ok (.iload_n 1, 1) := by decide +kernel
theorem dX11_lacksRim_1 : decode cX11_lacksRim 1 = .ok (.invokestatic 183, 3) := by decide +kernel
theorem dX11_lacksRim_4 : decode cX11_lacksRim 4 = .ok (.ifCond .eq 7, 3) := by decide +kernel
theorem dX11_lacksRim_7 : decode cX11_lacksRim 7 = .ok (.iload_n 2, 1) := by decide +kernel
theorem dX11_lacksRim_8 : decode cX11_lacksRim 8 = .ok (.ifCond .ne 7, 3) := by decide +kernel
theorem dX11_lacksRim_11 : decode cX11_lacksRim 11 = .ok (.iconst (-1), 1) := by decide +kernel
theorem dX11_lacksRim_12 : decode cX11_lacksRim 12 = .ok (.goto 61, 3) := by decide +kernel
theorem dX11_lacksRim_15 : decode cX11_lacksRim 15 = .ok (.aload_n 0, 1) := by decide +kernel
theorem dX11_lacksRim_16 : decode cX11_lacksRim 16 = .ok (.getfield 66, 3) := by decide +kernel
theorem dX11_lacksRim_19 : decode cX11_lacksRim 19 = .ok (.iload_n 1, 1) := by decide +kernel
theorem dX11_lacksRim_20 : decode cX11_lacksRim 20 = .ok (.iaload, 1) := by decide +kernel
theorem dX11_lacksRim_21 : decode cX11_lacksRim 21 = .ok (.ifCond .ne 12, 3) := by decide +kernel
theorem dX11_lacksRim_24 : decode cX11_lacksRim 24 = .ok (.aload_n 0, 1) := by decide +kernel
theorem dX11_lacksRim_25 : decode cX11_lacksRim 25 = .ok (.bipush (-11), 2) := by decide +kernel
theorem dX11_lacksRim_27 : decode cX11_lacksRim 27 = .ok (.invokevirtual 186, 3) := by decide +kernel
theorem dX11_lacksRim_30 : decode cX11_lacksRim 30 = .ok (.goto 43, 3) := by decide +kernel
theorem dX11_lacksRim_33 : decode cX11_lacksRim 33 = .ok (.aload_n 0, 1) := by decide +kernel
theorem dX11_lacksRim_34 : decode cX11_lacksRim 34 = .ok (.getfield 66, 3) := by decide +kernel
theorem dX11_lacksRim_37 : decode cX11_lacksRim 37 = .ok (.iload_n 1, 1) := by decide +kernel
theorem dX11_lacksRim_38 : decode cX11_lacksRim 38 = .ok (.iaload, 1) := by decide +kernel
theorem dX11_lacksRim_39 : decode cX11_lacksRim 39 = .ok (.iconst 1, 1) := by decide +kernel
theorem dX11_lacksRim_40 : decode cX11_lacksRim 40 = .ok (.if_icmp .eq 12, 3) := by decide +kernel
theorem dX11_lacksRim_43 : decode cX11_lacksRim 43 = .ok (.aload_n 0, 1) := by decide +kernel
theorem dX11_lacksRim_44 : decode cX11_lacksRim 44 = .ok (.bipush (-12), 2) := by decide +kernel
theorem dX11_lacksRim_46 : decode cX11_lacksRim 46 = .ok (.invokevirtual 186, 3) := by decide +kernel
theorem dX11_lacksRim_49 : decode cX11_lacksRim 49 = .ok (.goto 24, 3) := by decide +kernel
theorem dX11_lacksRim_52 : decode cX11_lacksRim 52 = .ok (.aload_n 0, 1) := by decide +kernel
theorem dX11_lacksRim_53 : decode cX11_lacksRim 53 = .ok (.getfield 69, 3) := by decide +kernel
theorem dX11_lacksRim_56 : decode cX11_lacksRim 56 = .ok (.iload_n 1, 1) := by decide +kernel
theorem dX11_lacksRim_57 : decode cX11_lacksRim 57 = .ok (.iaload, 1) := by decide +kernel
theorem dX11_lacksRim_58 : decode cX11_lacksRim 58 = .ok (.iconst 1, 1) := by decide +kernel
theorem dX11_lacksRim_59 : decode cX11_lacksRim 59 = .ok (.bipush 48, 2) := by decide +kernel
theorem dX11_lacksRim_61 : decode cX11_lacksRim 61 = .ok (.invokestatic 147, 3) := by decide +kernel
theorem dX11_lacksRim_64 : decode cX11_lacksRim 64 = .ok (.ifCond .ne 8, 3) := by decide +kernel
theorem dX11_lacksRim_67 : decode cX11_lacksRim 67 = .ok (.bipush (-4), 2) := by decide +kernel
theorem dX11_lacksRim_69 : decode cX11_lacksRim 69 = .ok (.goto 4, 3) := by decide +kernel
theorem dX11_lacksRim_72 : decode cX11_lacksRim 72 = .ok (.iconst 0, 1) := by decide +kernel
theorem dX11_lacksRim_73 : decode cX11_lacksRim 73 = .ok (.ireturn, 1) := by decide +kernel
set_option maxRecDepth 20000 in
theorem ggX11_isNamed_X11_in : GoodIn wsX11_isNamed wsX11_in := goodIn_r _ [8] (by decide +kernel) (by decide +kernel)
set_option maxRecDepth 20000 in
theorem gX11_isNamed_X11_in : GoodIn wsX11_isNamed (va_wsS RX11 147 yX11_in wsX11_in) := goodIn_app (goodIn_of _ (by decide +kernel)) ggX11_isNamed_X11_in
theorem dX11_isNamed_0 : decode cX11_isNamed 0 = .ok (.aload_n 0, 1) := by decide +kernel
theorem dX11_isNamed_1 : decode cX11_isNamed 1 = .ok (.getfield 16, 3) := by decide +kernel
theorem dX11_isNamed_4 : decode cX11_isNamed 4 = .ok (.iload_n 3, 1) := by decide +kernel
theorem dX11_isNamed_5 : decode cX11_isNamed 5 = .ok (.iaload, 1) := by decide +kernel
theorem dX11_isNamed_6 : decode cX11_isNamed 6 = .ok (.istore 6, 2) := by decide +kernel
theorem dX11_isNamed_8 : decode cX11_isNamed 8 = .ok (.iconst 0, 1) := by decide +kernel
theorem dX11_isNamed_9 : decode cX11_isNamed 9 = .ok (.istore 7, 2) := by decide +kernel
theorem dX11_isNamed_11 : decode cX11_isNamed 11 = .ok (.iload 7, 2) := by decide +kernel
theorem dX11_isNamed_13 : decode cX11_isNamed 13 = .ok (.aload_n 0, 1) := by decide +kernel
theorem dX11_isNamed_14 : decode cX11_isNamed 14 = .ok (.getfield 69, 3) := by decide +kernel
theorem dX11_isNamed_17 : decode cX11_isNamed 17 = .ok (.iload_n 1, 1) := by decide +kernel
theorem dX11_isNamed_18 : decode cX11_isNamed 18 = .ok (.iaload, 1) := by decide +kernel
theorem dX11_isNamed_19 : decode cX11_isNamed 19 = .ok (.if_icmp .ge 88, 3) := by decide +kernel
theorem dX11_isNamed_22 : decode cX11_isNamed 22 = .ok (.aload_n 0, 1) := by decide +kernel
theorem dX11_isNamed_23 : decode cX11_isNamed 23 = .ok (.getfield 72, 3) := by decide +kernel
theorem dX11_isNamed_26 : decode cX11_isNamed 26 = .ok (.sipush 400, 3) := by decide +kernel
theorem dX11_isNamed_29 : decode cX11_isNamed 29 = .ok (.iload_n 1, 1) := by decide +kernel
theorem dX11_isNamed_30 : decode cX11_isNamed 30 = .ok (.imul, 1) := by decide +kernel
theorem dX11_isNamed_31 : decode cX11_isNamed 31 = .ok (.iload 7, 2) := by decide +kernel
theorem dX11_isNamed_33 : decode cX11_isNamed 33 = .ok (.iadd, 1) := by decide +kernel
theorem dX11_isNamed_34 : decode cX11_isNamed 34 = .ok (.laload, 1) := by decide +kernel
theorem dX11_isNamed_35 : decode cX11_isNamed 35 = .ok (.l2i, 1) := by decide +kernel
theorem dX11_isNamed_36 : decode cX11_isNamed 36 = .ok (.istore 8, 2) := by decide +kernel
theorem dX11_isNamed_38 : decode cX11_isNamed 38 = .ok (.iload 5, 2) := by decide +kernel
theorem dX11_isNamed_40 : decode cX11_isNamed 40 = .ok (.iload 4, 2) := by decide +kernel
theorem dX11_isNamed_42 : decode cX11_isNamed 42 = .ok (.iload 7, 2) := by decide +kernel
theorem dX11_isNamed_44 : decode cX11_isNamed 44 = .ok (.imul, 1) := by decide +kernel
theorem dX11_isNamed_45 : decode cX11_isNamed 45 = .ok (.iadd, 1) := by decide +kernel
theorem dX11_isNamed_46 : decode cX11_isNamed 46 = .ok (.iload 6, 2) := by decide +kernel
theorem dX11_isNamed_48 : decode cX11_isNamed 48 = .ok (.irem, 1) := by decide +kernel
theorem dX11_isNamed_49 : decode cX11_isNamed 49 = .ok (.istore 9, 2) := by decide +kernel
theorem dX11_isNamed_51 : decode cX11_isNamed 51 = .ok (.aload_n 0, 1) := by decide +kernel
theorem dX11_isNamed_52 : decode cX11_isNamed 52 = .ok (.getfield 19, 3) := by decide +kernel
theorem dX11_isNamed_55 : decode cX11_isNamed 55 = .ok (.bipush 48, 2) := by decide +kernel
theorem dX11_isNamed_57 : decode cX11_isNamed 57 = .ok (.iload_n 3, 1) := by decide +kernel
theorem dX11_isNamed_58 : decode cX11_isNamed 58 = .ok (.imul, 1) := by decide +kernel
theorem dX11_isNamed_59 : decode cX11_isNamed 59 = .ok (.iload 9, 2) := by decide +kernel
theorem dX11_isNamed_61 : decode cX11_isNamed 61 = .ok (.ifCond .ge 11, 3) := by decide +kernel
theorem dX11_isNamed_64 : decode cX11_isNamed 64 = .ok (.iload 9, 2) := by decide +kernel
theorem dX11_isNamed_66 : decode cX11_isNamed 66 = .ok (.iload 6, 2) := by decide +kernel
theorem dX11_isNamed_68 : decode cX11_isNamed 68 = .ok (.iadd, 1) := by decide +kernel
theorem dX11_isNamed_69 : decode cX11_isNamed 69 = .ok (.goto 5, 3) := by decide +kernel
theorem dX11_isNamed_72 : decode cX11_isNamed 72 = .ok (.iload 9, 2) := by decide +kernel
theorem dX11_isNamed_74 : decode cX11_isNamed 74 = .ok (.iadd, 1) := by decide +kernel
theorem dX11_isNamed_75 : decode cX11_isNamed 75 = .ok (.iaload, 1) := by decide +kernel
theorem dX11_isNamed_76 : decode cX11_isNamed 76 = .ok (.istore 10, 2) := by decide +kernel
theorem dX11_isNamed_78 : decode cX11_isNamed 78 = .ok (.iload 8, 2) := by decide +kernel
theorem dX11_isNamed_80 : decode cX11_isNamed 80 = .ok (.bipush (-128), 2) := by decide +kernel
theorem dX11_isNamed_82 : decode cX11_isNamed 82 = .ok (.if_icmp .eq 19, 3) := by decide +kernel
theorem dX11_isNamed_85 : decode cX11_isNamed 85 = .ok (.iload 8, 2) := by decide +kernel
theorem dX11_isNamed_87 : decode cX11_isNamed 87 = .ok (.iload 10, 2) := by decide +kernel
theorem dX11_isNamed_89 : decode cX11_isNamed 89 = .ok (.iload_n 2, 1) := by decide +kernel
theorem dX11_isNamed_90 : decode cX11_isNamed 90 = .ok (.isub, 1) := by decide +kernel
theorem dX11_isNamed_91 : decode cX11_isNamed 91 = .ok (.iload 10, 2) := by decide +kernel
theorem dX11_isNamed_93 : decode cX11_isNamed 93 = .ok (.invokestatic 147, 3) := by decide +kernel
theorem dX11_isNamed_96 : decode cX11_isNamed 96 = .ok (.ifCond .ne 5, 3) := by decide +kernel
theorem dX11_isNamed_99 : decode cX11_isNamed 99 = .ok (.iconst 0, 1) := by decide +kernel
theorem dX11_isNamed_100 : decode cX11_isNamed 100 = .ok (.ireturn, 1) := by decide +kernel
theorem dX11_isNamed_101 : decode cX11_isNamed 101 = .ok (.iinc 7 1, 3) := by decide +kernel
theorem dX11_isNamed_104 : decode cX11_isNamed 104 = .ok (.goto (-93), 3) := by decide +kernel
theorem dX11_isNamed_107 : decode cX11_isNamed 107 = .ok (.iconst 1, 1) := by decide +kernel
theorem dX11_isNamed_108 : decode cX11_isNamed 108 = .ok (.ireturn, 1) := by decide +kernel
set_option maxRecDepth 20000 in
theorem ggX11_namesOf_X11_isNamed : GoodIn wsX11_namesOf wsX11_isNamed := goodIn_r _ [7, 2, 8, 9, 10, 11, 12, 6, 13, 14, 15, 16, 17, 18, 19, 20, 21, 22, 23, 24, 25, 26, 27, 28, 29, 30, 31, 32, 33, 34, 35, 36, 37, 38, 39, 40, 41, 42, 43, 44, 45, 46, 47, 48, 49, 50, 51, 52, 53, 54, 55, 56, 57, 58, 59, 60, 61, 62, 63, 64, 65, 66, 67, 68, 69, 70, 71, 72, 73, 74, 75] (by decide +kernel) (by decide +kernel)
set_option maxRecDepth 20000 in
theorem gX11_namesOf_X11_isNamed : GoodIn wsX11_namesOf (wsV RX11 298 RX11 yX11_isNamed wsX11_isNamed) := goodIn_app (goodIn_of _ (by decide +kernel)) ggX11_namesOf_X11_isNamed
theorem dX11_namesOf_0 : decode cX11_namesOf 0 = .ok (.iconst 0, 1) := by decide +kernel
theorem dX11_namesOf_1 : decode cX11_namesOf 1 = .ok (.istore 4, 2) := by decide +kernel
theorem dX11_namesOf_3 : decode cX11_namesOf 3 = .ok (.aload_n 0, 1) := by decide +kernel
theorem dX11_namesOf_4 : decode cX11_namesOf 4 = .ok (.iconst (-1), 1) := by decide +kernel
theorem dX11_namesOf_5 : decode cX11_namesOf 5 = .ok (.putfield 295, 3) := by decide +kernel
theorem dX11_namesOf_8 : decode cX11_namesOf 8 = .ok (.iconst 0, 1) := by decide +kernel
theorem dX11_namesOf_9 : decode cX11_namesOf 9 = .ok (.istore 5, 2) := by decide +kernel
theorem dX11_namesOf_11 : decode cX11_namesOf 11 = .ok (.iload 5, 2) := by decide +kernel
theorem dX11_namesOf_13 : decode cX11_namesOf 13 = .ok (.bipush 8, 2) := by decide +kernel
theorem dX11_namesOf_15 : decode cX11_namesOf 15 = .ok (.if_icmp .ge 103, 3) := by decide +kernel
theorem dX11_namesOf_18 : decode cX11_namesOf 18 = .ok (.iconst 0, 1) := by decide +kernel
theorem dX11_namesOf_19 : decode cX11_namesOf 19 = .ok (.istore 6, 2) := by decide +kernel
theorem dX11_namesOf_21 : decode cX11_namesOf 21 = .ok (.iload 6, 2) := by decide +kernel
theorem dX11_namesOf_23 : decode cX11_namesOf 23 = .ok (.iconst 2, 1) := by decide +kernel
theorem dX11_namesOf_24 : decode cX11_namesOf 24 = .ok (.if_icmp .ge 88, 3) := by decide +kernel
theorem dX11_namesOf_27 : decode cX11_namesOf 27 = .ok (.iconst 0, 1) := by decide +kernel
theorem dX11_namesOf_28 : decode cX11_namesOf 28 = .ok (.istore 7, 2) := by decide +kernel
theorem dX11_namesOf_30 : decode cX11_namesOf 30 = .ok (.iload 7, 2) := by decide +kernel
theorem dX11_namesOf_32 : decode cX11_namesOf 32 = .ok (.aload_n 0, 1) := by decide +kernel
theorem dX11_namesOf_33 : decode cX11_namesOf 33 = .ok (.getfield 16, 3) := by decide +kernel
theorem dX11_namesOf_36 : decode cX11_namesOf 36 = .ok (.iload 5, 2) := by decide +kernel
theorem dX11_namesOf_38 : decode cX11_namesOf 38 = .ok (.iaload, 1) := by decide +kernel
theorem dX11_namesOf_39 : decode cX11_namesOf 39 = .ok (.if_icmp .ge 67, 3) := by decide +kernel
theorem dX11_namesOf_42 : decode cX11_namesOf 42 = .ok (.aload_n 0, 1) := by decide +kernel
theorem dX11_namesOf_43 : decode cX11_namesOf 43 = .ok (.iload_n 1, 1) := by decide +kernel
theorem dX11_namesOf_44 : decode cX11_namesOf 44 = .ok (.iload_n 2, 1) := by decide +kernel
theorem dX11_namesOf_45 : decode cX11_namesOf 45 = .ok (.iload 5, 2) := by decide +kernel
theorem dX11_namesOf_47 : decode cX11_namesOf 47 = .ok (.iload 6, 2) := by decide +kernel
theorem dX11_namesOf_49 : decode cX11_namesOf 49 = .ok (.ifCond .ne 7, 3) := by decide +kernel
theorem dX11_namesOf_52 : decode cX11_namesOf 52 = .ok (.iconst 1, 1) := by decide +kernel
theorem dX11_namesOf_53 : decode cX11_namesOf 53 = .ok (.goto 4, 3) := by decide +kernel
theorem dX11_namesOf_56 : decode cX11_namesOf 56 = .ok (.iconst (-1), 1) := by decide +kernel
theorem dX11_namesOf_57 : decode cX11_namesOf 57 = .ok (.iload 7, 2) := by decide +kernel
theorem dX11_namesOf_59 : decode cX11_namesOf 59 = .ok (.invokevirtual 298, 3) := by decide +kernel
theorem dX11_namesOf_62 : decode cX11_namesOf 62 = .ok (.ifCond .eq 38, 3) := by decide +kernel
theorem dX11_namesOf_65 : decode cX11_namesOf 65 = .ok (.aload_n 0, 1) := by decide +kernel
theorem dX11_namesOf_66 : decode cX11_namesOf 66 = .ok (.iload 4, 2) := by decide +kernel
theorem dX11_namesOf_68 : decode cX11_namesOf 68 = .ok (.iload_n 3, 1) := by decide +kernel
theorem dX11_namesOf_69 : decode cX11_namesOf 69 = .ok (.if_icmp .ne 21, 3) := by decide +kernel
theorem dX11_namesOf_72 : decode cX11_namesOf 72 = .ok (.sipush 1000, 3) := by decide +kernel
theorem dX11_namesOf_75 : decode cX11_namesOf 75 = .ok (.iload 5, 2) := by decide +kernel
theorem dX11_namesOf_77 : decode cX11_namesOf 77 = .ok (.imul, 1) := by decide +kernel
theorem dX11_namesOf_78 : decode cX11_namesOf 78 = .ok (.bipush 100, 2) := by decide +kernel
theorem dX11_namesOf_80 : decode cX11_namesOf 80 = .ok (.iload 6, 2) := by decide +kernel
theorem dX11_namesOf_82 : decode cX11_namesOf 82 = .ok (.imul, 1) := by decide +kernel
theorem dX11_namesOf_83 : decode cX11_namesOf 83 = .ok (.iadd, 1) := by decide +kernel
theorem dX11_namesOf_84 : decode cX11_namesOf 84 = .ok (.iload 7, 2) := by decide +kernel
theorem dX11_namesOf_86 : decode cX11_namesOf 86 = .ok (.iadd, 1) := by decide +kernel
theorem dX11_namesOf_87 : decode cX11_namesOf 87 = .ok (.goto 7, 3) := by decide +kernel
theorem dX11_namesOf_90 : decode cX11_namesOf 90 = .ok (.aload_n 0, 1) := by decide +kernel
theorem dX11_namesOf_91 : decode cX11_namesOf 91 = .ok (.getfield 295, 3) := by decide +kernel
theorem dX11_namesOf_94 : decode cX11_namesOf 94 = .ok (.putfield 295, 3) := by decide +kernel
theorem dX11_namesOf_97 : decode cX11_namesOf 97 = .ok (.iinc 4 1, 3) := by decide +kernel
theorem dX11_namesOf_100 : decode cX11_namesOf 100 = .ok (.iinc 7 1, 3) := by decide +kernel
theorem dX11_namesOf_103 : decode cX11_namesOf 103 = .ok (.goto (-73), 3) := by decide +kernel
theorem dX11_namesOf_106 : decode cX11_namesOf 106 = .ok (.iinc 6 1, 3) := by decide +kernel
theorem dX11_namesOf_109 : decode cX11_namesOf 109 = .ok (.goto (-88), 3) := by decide +kernel
theorem dX11_namesOf_112 : decode cX11_namesOf 112 = .ok (.iinc 5 1, 3) := by decide +kernel
theorem dX11_namesOf_115 : decode cX11_namesOf 115 = .ok (.goto (-104), 3) := by decide +kernel
theorem dX11_namesOf_118 : decode cX11_namesOf 118 = .ok (.iload 4, 2) := by decide +kernel
theorem dX11_namesOf_120 : decode cX11_namesOf 120 = .ok (.ireturn, 1) := by decide +kernel
set_option maxRecDepth 20000 in
theorem ggX11_names_X11_in : GoodIn wsX11_names wsX11_in := goodIn_r _ [4] (by decide +kernel) (by decide +kernel)
set_option maxRecDepth 20000 in
theorem gX11_names_X11_in : GoodIn wsX11_names (va_wsS RX11 147 yX11_in wsX11_in) := goodIn_app (goodIn_of _ (by decide +kernel)) ggX11_names_X11_in
set_option maxRecDepth 20000 in
theorem ggX11_names_X11_lacksRim : GoodIn wsX11_names wsX11_lacksRim := goodIn_r _ [8, 9, 10, 11, 12, 3, 13, 1, 2, 4, 14, 15, 16, 17, 18, 31, 32, 33, 34, 35, 36, 37, 38, 39, 40, 41, 42, 43, 44, 45, 46, 47, 48, 49, 50, 51, 52, 53, 54, 55, 56, 57, 58, 59, 60, 61, 62, 63, 64, 65, 66, 67, 68, 69, 70, 71, 72, 73, 74, 75, 76, 77, 78, 79, 80, 81, 82, 83, 84, 85, 86, 87, 88, 89, 90, 91, 92] (by decide +kernel) (by decide +kernel)
set_option maxRecDepth 20000 in
theorem gX11_names_X11_lacksRim : GoodIn wsX11_names (wsV RX11 302 RX11 yX11_lacksRim wsX11_lacksRim) := goodIn_app (goodIn_of _ (by decide +kernel)) ggX11_names_X11_lacksRim
set_option maxRecDepth 20000 in
theorem ggX11_names_X11_namesOf : GoodIn wsX11_names wsX11_namesOf := goodIn_r _ [22, 23, 24, 25, 26, 27, 3, 28, 10, 29, 30, 1, 2, 4, 31, 32, 33, 34, 35, 36, 37, 38, 39, 40, 41, 42, 43, 44, 45, 46, 47, 48, 49, 50, 51, 52, 53, 54, 55, 56, 57, 58, 59, 60, 61, 62, 63, 64, 65, 66, 67, 68, 69, 70, 71, 72, 73, 74, 75, 76, 77, 78, 79, 80, 81, 82, 83, 84, 85, 86, 87, 88, 89, 90, 91, 92] (by decide +kernel) (by decide +kernel)
set_option maxRecDepth 20000 in
theorem gX11_names_X11_namesOf : GoodIn wsX11_names (wsV RX11 306 RX11 yX11_namesOf wsX11_namesOf) := goodIn_app (goodIn_of _ (by decide +kernel)) ggX11_names_X11_namesOf
theorem dX11_names_0 : decode cX11_names 0 = .ok (.aload_n 0, 1) := by decide +kernel
theorem dX11_names_1 : decode cX11_names 1 = .ok (.iload_n 1, 1) := by decide +kernel
theorem dX11_names_2 : decode cX11_names 2 = .ok (.iload_n 2, 1) := by decide +kernel
theorem dX11_names_3 : decode cX11_names 3 = .ok (.iconst 0, 1) := by decide +kernel
theorem dX11_names_4 : decode cX11_names 4 = .ok (.bipush 6, 2) := by decide +kernel
theorem dX11_names_6 : decode cX11_names 6 = .ok (.invokestatic 147, 3) := by decide +kernel
theorem dX11_names_9 : decode cX11_names 9 = .ok (.invokevirtual 302, 3) := by decide +kernel
theorem dX11_names_12 : decode cX11_names 12 = .ok (.istore_n 3, 1) := by decide +kernel
theorem dX11_names_13 : decode cX11_names 13 = .ok (.iload_n 3, 1) := by decide +kernel
theorem dX11_names_14 : decode cX11_names 14 = .ok (.ifCond .eq 7, 3) := by decide +kernel
theorem dX11_names_17 : decode cX11_names 17 = .ok (.iload_n 3, 1) := by decide +kernel
theorem dX11_names_18 : decode cX11_names 18 = .ok (.goto 10, 3) := by decide +kernel
theorem dX11_names_21 : decode cX11_names 21 = .ok (.aload_n 0, 1) := by decide +kernel
theorem dX11_names_22 : decode cX11_names 22 = .ok (.iload_n 1, 1) := by decide +kernel
theorem dX11_names_23 : decode cX11_names 23 = .ok (.iload_n 2, 1) := by decide +kernel
theorem dX11_names_24 : decode cX11_names 24 = .ok (.iconst (-1), 1) := by decide +kernel
theorem dX11_names_25 : decode cX11_names 25 = .ok (.invokevirtual 306, 3) := by decide +kernel
theorem dX11_names_28 : decode cX11_names 28 = .ok (.ireturn, 1) := by decide +kernel
set_option maxRecDepth 20000 in
theorem ggX11_name_X11_in : GoodIn wsX11_name wsX11_in := goodIn_r _ [5] (by decide +kernel) (by decide +kernel)
set_option maxRecDepth 20000 in
theorem gX11_name_X11_in : GoodIn wsX11_name (va_wsS RX11 147 yX11_in wsX11_in) := goodIn_app (goodIn_of _ (by decide +kernel)) ggX11_name_X11_in
set_option maxRecDepth 20000 in
theorem ggX11_name_X11_lacksRim : GoodIn wsX11_name wsX11_lacksRim := goodIn_r _ [9, 10, 11, 12, 13, 4, 14, 2, 3, 5, 15, 16, 17, 18, 19, 31, 32, 33, 34, 35, 36, 37, 38, 39, 40, 41, 42, 43, 44, 45, 46, 47, 48, 49, 50, 51, 52, 53, 54, 55, 56, 57, 58, 59, 60, 61, 62, 63, 64, 65, 66, 67, 68, 69, 70, 71, 72, 73, 74, 75, 76, 77, 78, 79, 80, 81, 82, 83, 84, 85, 86, 87, 88, 89, 90, 91, 92] (by decide +kernel) (by decide +kernel)
set_option maxRecDepth 20000 in
theorem gX11_name_X11_lacksRim : GoodIn wsX11_name (wsV RX11 302 RX11 yX11_lacksRim wsX11_lacksRim) := goodIn_app (goodIn_of _ (by decide +kernel)) ggX11_name_X11_lacksRim
set_option maxRecDepth 20000 in
theorem ggX11_name_X11_namesOf : GoodIn wsX11_name wsX11_namesOf := goodIn_r _ [23, 1, 24, 25, 26, 27, 4, 28, 11, 29, 30, 2, 3, 5, 31, 32, 33, 34, 35, 36, 37, 38, 39, 40, 41, 42, 43, 44, 45, 46, 47, 48, 49, 50, 51, 52, 53, 54, 55, 56, 57, 58, 59, 60, 61, 62, 63, 64, 65, 66, 67, 68, 69, 70, 71, 72, 73, 74, 75, 76, 77, 78, 79, 80, 81, 82, 83, 84, 85, 86, 87, 88, 89, 90, 91, 92] (by decide +kernel) (by decide +kernel)
set_option maxRecDepth 20000 in
theorem gX11_name_X11_namesOf : GoodIn wsX11_name (wsV RX11 306 RX11 yX11_namesOf wsX11_namesOf) := goodIn_app (goodIn_of _ (by decide +kernel)) ggX11_name_X11_namesOf
theorem dX11_name_0 : decode cX11_name 0 = .ok (.aload_n 0, 1) := by decide +kernel
theorem dX11_name_1 : decode cX11_name 1 = .ok (.iload_n 1, 1) := by decide +kernel
theorem dX11_name_2 : decode cX11_name 2 = .ok (.iload_n 2, 1) := by decide +kernel
theorem dX11_name_3 : decode cX11_name 3 = .ok (.iconst 0, 1) := by decide +kernel
theorem dX11_name_4 : decode cX11_name 4 = .ok (.bipush 6, 2) := by decide +kernel
theorem dX11_name_6 : decode cX11_name 6 = .ok (.invokestatic 147, 3) := by decide +kernel
theorem dX11_name_9 : decode cX11_name 9 = .ok (.ifCond .eq 11, 3) := by decide +kernel
theorem dX11_name_12 : decode cX11_name 12 = .ok (.iload_n 3, 1) := by decide +kernel
theorem dX11_name_13 : decode cX11_name 13 = .ok (.ifCond .lt 7, 3) := by decide +kernel
theorem dX11_name_16 : decode cX11_name 16 = .ok (.iconst 1, 1) := by decide +kernel
theorem dX11_name_17 : decode cX11_name 17 = .ok (.goto 4, 3) := by decide +kernel
theorem dX11_name_20 : decode cX11_name 20 = .ok (.iconst 0, 1) := by decide +kernel
theorem dX11_name_21 : decode cX11_name 21 = .ok (.invokevirtual 302, 3) := by decide +kernel
theorem dX11_name_24 : decode cX11_name 24 = .ok (.istore 4, 2) := by decide +kernel
theorem dX11_name_26 : decode cX11_name 26 = .ok (.iload 4, 2) := by decide +kernel
theorem dX11_name_28 : decode cX11_name 28 = .ok (.ifCond .eq 6, 3) := by decide +kernel
theorem dX11_name_31 : decode cX11_name 31 = .ok (.iload 4, 2) := by decide +kernel
theorem dX11_name_33 : decode cX11_name 33 = .ok (.ireturn, 1) := by decide +kernel
theorem dX11_name_34 : decode cX11_name 34 = .ok (.aload_n 0, 1) := by decide +kernel
theorem dX11_name_35 : decode cX11_name 35 = .ok (.iload_n 1, 1) := by decide +kernel
theorem dX11_name_36 : decode cX11_name 36 = .ok (.iload_n 2, 1) := by decide +kernel
theorem dX11_name_37 : decode cX11_name 37 = .ok (.iload_n 3, 1) := by decide +kernel
theorem dX11_name_38 : decode cX11_name 38 = .ok (.invokevirtual 306, 3) := by decide +kernel
theorem dX11_name_41 : decode cX11_name 41 = .ok (.istore 5, 2) := by decide +kernel
theorem dX11_name_43 : decode cX11_name 43 = .ok (.iload_n 3, 1) := by decide +kernel
theorem dX11_name_44 : decode cX11_name 44 = .ok (.iload 5, 2) := by decide +kernel
theorem dX11_name_46 : decode cX11_name 46 = .ok (.if_icmp .ge 10, 3) := by decide +kernel
theorem dX11_name_49 : decode cX11_name 49 = .ok (.aload_n 0, 1) := by decide +kernel
theorem dX11_name_50 : decode cX11_name 50 = .ok (.getfield 295, 3) := by decide +kernel
theorem dX11_name_53 : decode cX11_name 53 = .ok (.goto 4, 3) := by decide +kernel
theorem dX11_name_56 : decode cX11_name 56 = .ok (.iconst (-1), 1) := by decide +kernel
theorem dX11_name_57 : decode cX11_name 57 = .ok (.ireturn, 1) := by decide +kernel
set_option maxRecDepth 20000 in
theorem ggX11_wear_X11_lacksRim : GoodIn wsX11_wear wsX11_lacksRim := goodIn_r _ [5, 6, 7, 8, 9, 4, 10, 11, 12, 13, 14, 15, 16, 17, 18, 31, 32, 33, 34, 35, 36, 37, 38, 39, 40, 41, 42, 43, 44, 45, 46, 47, 48, 49, 50, 51, 52, 53, 54, 55, 56, 57, 58, 59, 60, 61, 62, 63, 64, 65, 66, 67, 68, 69, 70, 71, 72, 73, 74, 75, 76, 77, 78, 79, 80, 81, 82, 83, 84, 85, 86, 87, 88, 89, 90, 91, 92] (by decide +kernel) (by decide +kernel)
set_option maxRecDepth 20000 in
theorem gX11_wear_X11_lacksRim : GoodIn wsX11_wear (wsV RX11 302 RX11 yX11_lacksRim wsX11_lacksRim) := goodIn_app (goodIn_of _ (by decide +kernel)) ggX11_wear_X11_lacksRim
set_option maxRecDepth 20000 in
theorem ggX11_wear_X11_namesOf : GoodIn wsX11_wear wsX11_namesOf := goodIn_r _ [22, 23, 24, 25, 26, 27, 4, 28, 7, 29, 30, 11, 12, 13, 31, 32, 33, 34, 35, 36, 37, 38, 39, 40, 41, 42, 43, 44, 45, 46, 47, 48, 49, 50, 51, 52, 53, 54, 55, 56, 57, 58, 59, 60, 61, 62, 63, 64, 65, 66, 67, 68, 69, 70, 71, 72, 73, 74, 75, 76, 77, 78, 79, 80, 81, 82, 83, 84, 85, 86, 87, 88, 89, 90, 91, 92] (by decide +kernel) (by decide +kernel)
set_option maxRecDepth 20000 in
theorem gX11_wear_X11_namesOf : GoodIn wsX11_wear (wsV RX11 306 RX11 yX11_namesOf wsX11_namesOf) := goodIn_app (goodIn_of _ (by decide +kernel)) ggX11_wear_X11_namesOf
theorem dX11_wear_0 : decode cX11_wear 0 = .ok (.aload_n 0, 1) := by decide +kernel
theorem dX11_wear_1 : decode cX11_wear 1 = .ok (.iload_n 1, 1) := by decide +kernel
theorem dX11_wear_2 : decode cX11_wear 2 = .ok (.iconst 1, 1) := by decide +kernel
theorem dX11_wear_3 : decode cX11_wear 3 = .ok (.invokevirtual 302, 3) := by decide +kernel
theorem dX11_wear_6 : decode cX11_wear 6 = .ok (.istore_n 2, 1) := by decide +kernel
theorem dX11_wear_7 : decode cX11_wear 7 = .ok (.iload_n 2, 1) := by decide +kernel
theorem dX11_wear_8 : decode cX11_wear 8 = .ok (.ifCond .eq 5, 3) := by decide +kernel
theorem dX11_wear_11 : decode cX11_wear 11 = .ok (.iload_n 2, 1) := by decide +kernel
theorem dX11_wear_12 : decode cX11_wear 12 = .ok (.ireturn, 1) := by decide +kernel
theorem dX11_wear_13 : decode cX11_wear 13 = .ok (.iconst 0, 1) := by decide +kernel
theorem dX11_wear_14 : decode cX11_wear 14 = .ok (.istore_n 3, 1) := by decide +kernel
theorem dX11_wear_15 : decode cX11_wear 15 = .ok (.iload_n 3, 1) := by decide +kernel
theorem dX11_wear_16 : decode cX11_wear 16 = .ok (.bipush 6, 2) := by decide +kernel
theorem dX11_wear_18 : decode cX11_wear 18 = .ok (.if_icmp .gt 21, 3) := by decide +kernel
theorem dX11_wear_21 : decode cX11_wear 21 = .ok (.aload_n 0, 1) := by decide +kernel
theorem dX11_wear_22 : decode cX11_wear 22 = .ok (.iload_n 1, 1) := by decide +kernel
theorem dX11_wear_23 : decode cX11_wear 23 = .ok (.iload_n 3, 1) := by decide +kernel
theorem dX11_wear_24 : decode cX11_wear 24 = .ok (.iconst (-1), 1) := by decide +kernel
theorem dX11_wear_25 : decode cX11_wear 25 = .ok (.invokevirtual 306, 3) := by decide +kernel
theorem dX11_wear_28 : decode cX11_wear 28 = .ok (.ifCond .le 5, 3) := by decide +kernel
theorem dX11_wear_31 : decode cX11_wear 31 = .ok (.iload_n 3, 1) := by decide +kernel
theorem dX11_wear_32 : decode cX11_wear 32 = .ok (.ireturn, 1) := by decide +kernel
theorem dX11_wear_33 : decode cX11_wear 33 = .ok (.iinc 3 1, 3) := by decide +kernel
theorem dX11_wear_36 : decode cX11_wear 36 = .ok (.goto (-21), 3) := by decide +kernel
theorem dX11_wear_39 : decode cX11_wear 39 = .ok (.bipush (-4), 2) := by decide +kernel
theorem dX11_wear_41 : decode cX11_wear 41 = .ok (.ireturn, 1) := by decide +kernel
set_option maxRecDepth 20000 in
theorem ggX11_outcomeOf_X11_away : GoodIn wsX11_outcomeOf wsX11_away := goodIn_r _ [4] (by decide +kernel) (by decide +kernel)
set_option maxRecDepth 20000 in
theorem gX11_outcomeOf_X11_away : GoodIn wsX11_outcomeOf (va_wsS RX11 198 yX11_away wsX11_away) := goodIn_app (goodIn_of _ (by decide +kernel)) ggX11_outcomeOf_X11_away
theorem dX11_outcomeOf_0 : decode cX11_outcomeOf 0 = .ok (.iload_n 0, 1) := by decide +kernel
theorem dX11_outcomeOf_1 : decode cX11_outcomeOf 1 = .ok (.sipush 308, 3) := by decide +kernel
theorem dX11_outcomeOf_4 : decode cX11_outcomeOf 4 = .ok (.idiv, 1) := by decide +kernel
theorem dX11_outcomeOf_5 : decode cX11_outcomeOf 5 = .ok (.iconst 4, 1) := by decide +kernel
theorem dX11_outcomeOf_6 : decode cX11_outcomeOf 6 = .ok (.isub, 1) := by decide +kernel
theorem dX11_outcomeOf_7 : decode cX11_outcomeOf 7 = .ok (.istore_n 2, 1) := by decide +kernel
theorem dX11_outcomeOf_8 : decode cX11_outcomeOf 8 = .ok (.iload_n 0, 1) := by decide +kernel
theorem dX11_outcomeOf_9 : decode cX11_outcomeOf 9 = .ok (.bipush 44, 2) := by decide +kernel
theorem dX11_outcomeOf_11 : decode cX11_outcomeOf 11 = .ok (.idiv, 1) := by decide +kernel
theorem dX11_outcomeOf_12 : decode cX11_outcomeOf 12 = .ok (.bipush 7, 2) := by decide +kernel
theorem dX11_outcomeOf_14 : decode cX11_outcomeOf 14 = .ok (.irem, 1) := by decide +kernel
theorem dX11_outcomeOf_15 : decode cX11_outcomeOf 15 = .ok (.iconst 3, 1) := by decide +kernel
theorem dX11_outcomeOf_16 : decode cX11_outcomeOf 16 = .ok (.isub, 1) := by decide +kernel
theorem dX11_outcomeOf_17 : decode cX11_outcomeOf 17 = .ok (.istore_n 3, 1) := by decide +kernel
theorem dX11_outcomeOf_18 : decode cX11_outcomeOf 18 = .ok (.iload_n 0, 1) := by decide +kernel
theorem dX11_outcomeOf_19 : decode cX11_outcomeOf 19 = .ok (.bipush 11, 2) := by decide +kernel
theorem dX11_outcomeOf_21 : decode cX11_outcomeOf 21 = .ok (.idiv, 1) := by decide +kernel
theorem dX11_outcomeOf_22 : decode cX11_outcomeOf 22 = .ok (.iconst 4, 1) := by decide +kernel
theorem dX11_outcomeOf_23 : decode cX11_outcomeOf 23 = .ok (.irem, 1) := by decide +kernel
theorem dX11_outcomeOf_24 : decode cX11_outcomeOf 24 = .ok (.istore 4, 2) := by decide +kernel
theorem dX11_outcomeOf_26 : decode cX11_outcomeOf 26 = .ok (.iload_n 0, 1) := by decide +kernel
theorem dX11_outcomeOf_27 : decode cX11_outcomeOf 27 = .ok (.bipush 11, 2) := by decide +kernel
theorem dX11_outcomeOf_29 : decode cX11_outcomeOf 29 = .ok (.irem, 1) := by decide +kernel
theorem dX11_outcomeOf_30 : decode cX11_outcomeOf 30 = .ok (.iconst 5, 1) := by decide +kernel
theorem dX11_outcomeOf_31 : decode cX11_outcomeOf 31 = .ok (.isub, 1) := by decide +kernel
theorem dX11_outcomeOf_32 : decode cX11_outcomeOf 32 = .ok (.istore 5, 2) := by decide +kernel
theorem dX11_outcomeOf_34 : decode cX11_outcomeOf 34 = .ok (.iload_n 1, 1) := by decide +kernel
theorem dX11_outcomeOf_35 : decode cX11_outcomeOf 35 = .ok (.bipush 65, 2) := by decide +kernel
theorem dX11_outcomeOf_37 : decode cX11_outcomeOf 37 = .ok (.idiv, 1) := by decide +kernel
theorem dX11_outcomeOf_38 : decode cX11_outcomeOf 38 = .ok (.iconst 1, 1) := by decide +kernel
theorem dX11_outcomeOf_39 : decode cX11_outcomeOf 39 = .ok (.iadd, 1) := by decide +kernel
theorem dX11_outcomeOf_40 : decode cX11_outcomeOf 40 = .ok (.istore 6, 2) := by decide +kernel
theorem dX11_outcomeOf_42 : decode cX11_outcomeOf 42 = .ok (.iload_n 1, 1) := by decide +kernel
theorem dX11_outcomeOf_43 : decode cX11_outcomeOf 43 = .ok (.bipush 13, 2) := by decide +kernel
theorem dX11_outcomeOf_45 : decode cX11_outcomeOf 45 = .ok (.idiv, 1) := by decide +kernel
theorem dX11_outcomeOf_46 : decode cX11_outcomeOf 46 = .ok (.iconst 5, 1) := by decide +kernel
theorem dX11_outcomeOf_47 : decode cX11_outcomeOf 47 = .ok (.irem, 1) := by decide +kernel
theorem dX11_outcomeOf_48 : decode cX11_outcomeOf 48 = .ok (.iconst 1, 1) := by decide +kernel
theorem dX11_outcomeOf_49 : decode cX11_outcomeOf 49 = .ok (.iadd, 1) := by decide +kernel
theorem dX11_outcomeOf_50 : decode cX11_outcomeOf 50 = .ok (.istore 7, 2) := by decide +kernel
theorem dX11_outcomeOf_52 : decode cX11_outcomeOf 52 = .ok (.iload_n 1, 1) := by decide +kernel
theorem dX11_outcomeOf_53 : decode cX11_outcomeOf 53 = .ok (.bipush 13, 2) := by decide +kernel
theorem dX11_outcomeOf_55 : decode cX11_outcomeOf 55 = .ok (.irem, 1) := by decide +kernel
theorem dX11_outcomeOf_56 : decode cX11_outcomeOf 56 = .ok (.bipush 6, 2) := by decide +kernel
theorem dX11_outcomeOf_58 : decode cX11_outcomeOf 58 = .ok (.isub, 1) := by decide +kernel
theorem dX11_outcomeOf_59 : decode cX11_outcomeOf 59 = .ok (.istore 8, 2) := by decide +kernel
theorem dX11_outcomeOf_61 : decode cX11_outcomeOf 61 = .ok (.iconst 2, 1) := by decide +kernel
theorem dX11_outcomeOf_62 : decode cX11_outcomeOf 62 = .ok (.iload_n 2, 1) := by decide +kernel
theorem dX11_outcomeOf_63 : decode cX11_outcomeOf 63 = .ok (.imul, 1) := by decide +kernel
theorem dX11_outcomeOf_64 : decode cX11_outcomeOf 64 = .ok (.iload_n 3, 1) := by decide +kernel
theorem dX11_outcomeOf_65 : decode cX11_outcomeOf 65 = .ok (.iload 8, 2) := by decide +kernel
theorem dX11_outcomeOf_67 : decode cX11_outcomeOf 67 = .ok (.imul, 1) := by decide +kernel
theorem dX11_outcomeOf_68 : decode cX11_outcomeOf 68 = .ok (.iadd, 1) := by decide +kernel
theorem dX11_outcomeOf_69 : decode cX11_outcomeOf 69 = .ok (.invokestatic 198, 3) := by decide +kernel
theorem dX11_outcomeOf_72 : decode cX11_outcomeOf 72 = .ok (.bipush 9, 2) := by decide +kernel
theorem dX11_outcomeOf_74 : decode cX11_outcomeOf 74 = .ok (.iload 4, 2) := by decide +kernel
theorem dX11_outcomeOf_76 : decode cX11_outcomeOf 76 = .ok (.isub, 1) := by decide +kernel
theorem dX11_outcomeOf_77 : decode cX11_outcomeOf 77 = .ok (.iload 6, 2) := by decide +kernel
theorem dX11_outcomeOf_79 : decode cX11_outcomeOf 79 = .ok (.isub, 1) := by decide +kernel
theorem dX11_outcomeOf_80 : decode cX11_outcomeOf 80 = .ok (.if_icmp .le 5, 3) := by decide +kernel
theorem dX11_outcomeOf_83 : decode cX11_outcomeOf 83 = .ok (.iconst 1, 1) := by decide +kernel
theorem dX11_outcomeOf_84 : decode cX11_outcomeOf 84 = .ok (.ireturn, 1) := by decide +kernel
theorem dX11_outcomeOf_85 : decode cX11_outcomeOf 85 = .ok (.bipush 10, 2) := by decide +kernel
theorem dX11_outcomeOf_87 : decode cX11_outcomeOf 87 = .ok (.iload 5, 2) := by decide +kernel
theorem dX11_outcomeOf_89 : decode cX11_outcomeOf 89 = .ok (.imul, 1) := by decide +kernel
theorem dX11_outcomeOf_90 : decode cX11_outcomeOf 90 = .ok (.bipush 6, 2) := by decide +kernel
theorem dX11_outcomeOf_92 : decode cX11_outcomeOf 92 = .ok (.iload 7, 2) := by decide +kernel
theorem dX11_outcomeOf_94 : decode cX11_outcomeOf 94 = .ok (.imul, 1) := by decide +kernel
theorem dX11_outcomeOf_95 : decode cX11_outcomeOf 95 = .ok (.if_icmp .le 5, 3) := by decide +kernel
theorem dX11_outcomeOf_98 : decode cX11_outcomeOf 98 = .ok (.iconst 3, 1) := by decide +kernel
theorem dX11_outcomeOf_99 : decode cX11_outcomeOf 99 = .ok (.ireturn, 1) := by decide +kernel
theorem dX11_outcomeOf_100 : decode cX11_outcomeOf 100 = .ok (.bipush 10, 2) := by decide +kernel
theorem dX11_outcomeOf_102 : decode cX11_outcomeOf 102 = .ok (.iload 5, 2) := by decide +kernel
theorem dX11_outcomeOf_104 : decode cX11_outcomeOf 104 = .ok (.imul, 1) := by decide +kernel
theorem dX11_outcomeOf_105 : decode cX11_outcomeOf 105 = .ok (.bipush (-6), 2) := by decide +kernel
theorem dX11_outcomeOf_107 : decode cX11_outcomeOf 107 = .ok (.iload 7, 2) := by decide +kernel
theorem dX11_outcomeOf_109 : decode cX11_outcomeOf 109 = .ok (.imul, 1) := by decide +kernel
theorem dX11_outcomeOf_110 : decode cX11_outcomeOf 110 = .ok (.if_icmp .ge 5, 3) := by decide +kernel
theorem dX11_outcomeOf_113 : decode cX11_outcomeOf 113 = .ok (.iconst 2, 1) := by decide +kernel
theorem dX11_outcomeOf_114 : decode cX11_outcomeOf 114 = .ok (.ireturn, 1) := by decide +kernel
theorem dX11_outcomeOf_115 : decode cX11_outcomeOf 115 = .ok (.iload_n 3, 1) := by decide +kernel
theorem dX11_outcomeOf_116 : decode cX11_outcomeOf 116 = .ok (.invokestatic 198, 3) := by decide +kernel
theorem dX11_outcomeOf_119 : decode cX11_outcomeOf 119 = .ok (.iconst 3, 1) := by decide +kernel
theorem dX11_outcomeOf_120 : decode cX11_outcomeOf 120 = .ok (.if_icmp .ne 22, 3) := by decide +kernel
theorem dX11_outcomeOf_123 : decode cX11_outcomeOf 123 = .ok (.iload 6, 2) := by decide +kernel
theorem dX11_outcomeOf_125 : decode cX11_outcomeOf 125 = .ok (.iconst 4, 1) := by decide +kernel
theorem dX11_outcomeOf_126 : decode cX11_outcomeOf 126 = .ok (.if_icmp .lt 16, 3) := by decide +kernel
theorem dX11_outcomeOf_129 : decode cX11_outcomeOf 129 = .ok (.iload 8, 2) := by decide +kernel
theorem dX11_outcomeOf_131 : decode cX11_outcomeOf 131 = .ok (.invokestatic 198, 3) := by decide +kernel
theorem dX11_outcomeOf_134 : decode cX11_outcomeOf 134 = .ok (.iconst 4, 1) := by decide +kernel
theorem dX11_outcomeOf_135 : decode cX11_outcomeOf 135 = .ok (.if_icmp .lt 7, 3) := by decide +kernel
theorem dX11_outcomeOf_138 : decode cX11_outcomeOf 138 = .ok (.iconst 4, 1) := by decide +kernel
theorem dX11_outcomeOf_139 : decode cX11_outcomeOf 139 = .ok (.goto 4, 3) := by decide +kernel
theorem dX11_outcomeOf_142 : decode cX11_outcomeOf 142 = .ok (.iconst 0, 1) := by decide +kernel
theorem dX11_outcomeOf_143 : decode cX11_outcomeOf 143 = .ok (.ireturn, 1) := by decide +kernel
theorem dX11_causes_0 : decode cX11_causes 0 = .ok (.iload_n 0, 1) := by decide +kernel
theorem dX11_causes_1 : decode cX11_causes 1 = .ok (.sipush 308, 3) := by decide +kernel
theorem dX11_causes_4 : decode cX11_causes 4 = .ok (.idiv, 1) := by decide +kernel
theorem dX11_causes_5 : decode cX11_causes 5 = .ok (.iconst 4, 1) := by decide +kernel
theorem dX11_causes_6 : decode cX11_causes 6 = .ok (.if_icmp .eq 7, 3) := by decide +kernel
theorem dX11_causes_9 : decode cX11_causes 9 = .ok (.iconst 1, 1) := by decide +kernel
theorem dX11_causes_10 : decode cX11_causes 10 = .ok (.goto 4, 3) := by decide +kernel
theorem dX11_causes_13 : decode cX11_causes 13 = .ok (.iconst 0, 1) := by decide +kernel
theorem dX11_causes_14 : decode cX11_causes 14 = .ok (.iload_n 0, 1) := by decide +kernel
theorem dX11_causes_15 : decode cX11_causes 15 = .ok (.bipush 44, 2) := by decide +kernel
theorem dX11_causes_17 : decode cX11_causes 17 = .ok (.idiv, 1) := by decide +kernel
theorem dX11_causes_18 : decode cX11_causes 18 = .ok (.bipush 7, 2) := by decide +kernel
theorem dX11_causes_20 : decode cX11_causes 20 = .ok (.irem, 1) := by decide +kernel
theorem dX11_causes_21 : decode cX11_causes 21 = .ok (.iconst 3, 1) := by decide +kernel
theorem dX11_causes_22 : decode cX11_causes 22 = .ok (.if_icmp .eq 7, 3) := by decide +kernel
theorem dX11_causes_25 : decode cX11_causes 25 = .ok (.iconst 1, 1) := by decide +kernel
theorem dX11_causes_26 : decode cX11_causes 26 = .ok (.goto 4, 3) := by decide +kernel
theorem dX11_causes_29 : decode cX11_causes 29 = .ok (.iconst 0, 1) := by decide +kernel
theorem dX11_causes_30 : decode cX11_causes 30 = .ok (.iadd, 1) := by decide +kernel
theorem dX11_causes_31 : decode cX11_causes 31 = .ok (.iload_n 0, 1) := by decide +kernel
theorem dX11_causes_32 : decode cX11_causes 32 = .ok (.bipush 11, 2) := by decide +kernel
theorem dX11_causes_34 : decode cX11_causes 34 = .ok (.idiv, 1) := by decide +kernel
theorem dX11_causes_35 : decode cX11_causes 35 = .ok (.iconst 4, 1) := by decide +kernel
theorem dX11_causes_36 : decode cX11_causes 36 = .ok (.irem, 1) := by decide +kernel
theorem dX11_causes_37 : decode cX11_causes 37 = .ok (.ifCond .eq 7, 3) := by decide +kernel
theorem dX11_causes_40 : decode cX11_causes 40 = .ok (.iconst 1, 1) := by decide +kernel
theorem dX11_causes_41 : decode cX11_causes 41 = .ok (.goto 4, 3) := by decide +kernel
theorem dX11_causes_44 : decode cX11_causes 44 = .ok (.iconst 0, 1) := by decide +kernel
theorem dX11_causes_45 : decode cX11_causes 45 = .ok (.iadd, 1) := by decide +kernel
theorem dX11_causes_46 : decode cX11_causes 46 = .ok (.iload_n 0, 1) := by decide +kernel
theorem dX11_causes_47 : decode cX11_causes 47 = .ok (.bipush 11, 2) := by decide +kernel
theorem dX11_causes_49 : decode cX11_causes 49 = .ok (.irem, 1) := by decide +kernel
theorem dX11_causes_50 : decode cX11_causes 50 = .ok (.iconst 5, 1) := by decide +kernel
theorem dX11_causes_51 : decode cX11_causes 51 = .ok (.if_icmp .eq 7, 3) := by decide +kernel
theorem dX11_causes_54 : decode cX11_causes 54 = .ok (.iconst 1, 1) := by decide +kernel
theorem dX11_causes_55 : decode cX11_causes 55 = .ok (.goto 4, 3) := by decide +kernel
theorem dX11_causes_58 : decode cX11_causes 58 = .ok (.iconst 0, 1) := by decide +kernel
theorem dX11_causes_59 : decode cX11_causes 59 = .ok (.iadd, 1) := by decide +kernel
theorem dX11_causes_60 : decode cX11_causes 60 = .ok (.ireturn, 1) := by decide +kernel
set_option maxRecDepth 20000 in
theorem ggX11_outcome_X11_in : GoodIn wsX11_outcome wsX11_in := goodIn_r _ [4] (by decide +kernel) (by decide +kernel)
set_option maxRecDepth 20000 in
theorem gX11_outcome_X11_in : GoodIn wsX11_outcome (va_wsS RX11 147 yX11_in wsX11_in) := goodIn_app (goodIn_of _ (by decide +kernel)) ggX11_outcome_X11_in
set_option maxRecDepth 20000 in
theorem ggX11_outcome_X11_outcomeOf : GoodIn wsX11_outcome wsX11_outcomeOf := goodIn_r _ [7, 8, 9, 3, 10] (by decide +kernel) (by decide +kernel)
set_option maxRecDepth 20000 in
theorem gX11_outcome_X11_outcomeOf : GoodIn wsX11_outcome (va_wsS RX11 309 yX11_outcomeOf wsX11_outcomeOf) := goodIn_app (goodIn_of _ (by decide +kernel)) ggX11_outcome_X11_outcomeOf
theorem dX11_outcome_0 : decode cX11_outcome 0 = .ok (.iload_n 1, 1) := by decide +kernel
theorem dX11_outcome_1 : decode cX11_outcome 1 = .ok (.iconst 0, 1) := by decide +kernel
theorem dX11_outcome_2 : decode cX11_outcome 2 = .ok (.sipush 2771, 3) := by decide +kernel
theorem dX11_outcome_5 : decode cX11_outcome 5 = .ok (.invokestatic 147, 3) := by decide +kernel
theorem dX11_outcome_8 : decode cX11_outcome 8 = .ok (.ifCond .eq 22, 3) := by decide +kernel
theorem dX11_outcome_11 : decode cX11_outcome 11 = .ok (.iload_n 2, 1) := by decide +kernel
theorem dX11_outcome_12 : decode cX11_outcome 12 = .ok (.iconst 0, 1) := by decide +kernel
theorem dX11_outcome_13 : decode cX11_outcome 13 = .ok (.sipush 324, 3) := by decide +kernel
theorem dX11_outcome_16 : decode cX11_outcome 16 = .ok (.invokestatic 147, 3) := by decide +kernel
theorem dX11_outcome_19 : decode cX11_outcome 19 = .ok (.ifCond .eq 11, 3) := by decide +kernel
theorem dX11_outcome_22 : decode cX11_outcome 22 = .ok (.iload_n 1, 1) := by decide +kernel
theorem dX11_outcome_23 : decode cX11_outcome 23 = .ok (.iload_n 2, 1) := by decide +kernel
theorem dX11_outcome_24 : decode cX11_outcome 24 = .ok (.invokestatic 309, 3) := by decide +kernel
theorem dX11_outcome_27 : decode cX11_outcome 27 = .ok (.goto 4, 3) := by decide +kernel
theorem dX11_outcome_30 : decode cX11_outcome 30 = .ok (.iconst (-1), 1) := by decide +kernel
theorem dX11_outcome_31 : decode cX11_outcome 31 = .ok (.ireturn, 1) := by decide +kernel
set_option maxRecDepth 20000 in
theorem ggX11_note_X11_in : GoodIn wsX11_note wsX11_in := goodIn_r _ [7] (by decide +kernel) (by decide +kernel)
set_option maxRecDepth 20000 in
theorem gX11_note_X11_in : GoodIn wsX11_note (va_wsS RX11 147 yX11_in wsX11_in) := goodIn_app (goodIn_of _ (by decide +kernel)) ggX11_note_X11_in
theorem dX11_note_0 : decode cX11_note 0 = .ok (.iload_n 1, 1) := by decide +kernel
theorem dX11_note_1 : decode cX11_note 1 = .ok (.iconst 0, 1) := by decide +kernel
theorem dX11_note_2 : decode cX11_note 2 = .ok (.sipush 324, 3) := by decide +kernel
theorem dX11_note_5 : decode cX11_note 5 = .ok (.invokestatic 147, 3) := by decide +kernel
theorem dX11_note_8 : decode cX11_note 8 = .ok (.ifCond .eq 12, 3) := by decide +kernel
theorem dX11_note_11 : decode cX11_note 11 = .ok (.iload_n 2, 1) := by decide +kernel
theorem dX11_note_12 : decode cX11_note 12 = .ok (.iconst 0, 1) := by decide +kernel
theorem dX11_note_13 : decode cX11_note 13 = .ok (.iconst 4, 1) := by decide +kernel
theorem dX11_note_14 : decode cX11_note 14 = .ok (.invokestatic 147, 3) := by decide +kernel
theorem dX11_note_17 : decode cX11_note 17 = .ok (.ifCond .ne 5, 3) := by decide +kernel
theorem dX11_note_20 : decode cX11_note 20 = .ok (.iconst (-1), 1) := by decide +kernel
theorem dX11_note_21 : decode cX11_note 21 = .ok (.ireturn, 1) := by decide +kernel
theorem dX11_note_22 : decode cX11_note 22 = .ok (.aload_n 0, 1) := by decide +kernel
theorem dX11_note_23 : decode cX11_note 23 = .ok (.getfield 122, 3) := by decide +kernel
theorem dX11_note_26 : decode cX11_note 26 = .ok (.bipush 24, 2) := by decide +kernel
theorem dX11_note_28 : decode cX11_note 28 = .ok (.if_icmp .ne 6, 3) := by decide +kernel
theorem dX11_note_31 : decode cX11_note 31 = .ok (.bipush (-2), 2) := by decide +kernel
theorem dX11_note_33 : decode cX11_note 33 = .ok (.ireturn, 1) := by decide +kernel
theorem dX11_note_34 : decode cX11_note 34 = .ok (.aload_n 0, 1) := by decide +kernel
theorem dX11_note_35 : decode cX11_note 35 = .ok (.getfield 60, 3) := by decide +kernel
theorem dX11_note_38 : decode cX11_note 38 = .ok (.aload_n 0, 1) := by decide +kernel
theorem dX11_note_39 : decode cX11_note 39 = .ok (.getfield 122, 3) := by decide +kernel
theorem dX11_note_42 : decode cX11_note 42 = .ok (.iload_n 1, 1) := by decide +kernel
theorem dX11_note_43 : decode cX11_note 43 = .ok (.iastore, 1) := by decide +kernel
theorem dX11_note_44 : decode cX11_note 44 = .ok (.aload_n 0, 1) := by decide +kernel
theorem dX11_note_45 : decode cX11_note 45 = .ok (.getfield 63, 3) := by decide +kernel
theorem dX11_note_48 : decode cX11_note 48 = .ok (.aload_n 0, 1) := by decide +kernel
theorem dX11_note_49 : decode cX11_note 49 = .ok (.getfield 122, 3) := by decide +kernel
theorem dX11_note_52 : decode cX11_note 52 = .ok (.iload_n 2, 1) := by decide +kernel
theorem dX11_note_53 : decode cX11_note 53 = .ok (.iastore, 1) := by decide +kernel
theorem dX11_note_54 : decode cX11_note 54 = .ok (.aload_n 0, 1) := by decide +kernel
theorem dX11_note_55 : decode cX11_note 55 = .ok (.dup, 1) := by decide +kernel
theorem dX11_note_56 : decode cX11_note 56 = .ok (.getfield 122, 3) := by decide +kernel
theorem dX11_note_59 : decode cX11_note 59 = .ok (.iconst 1, 1) := by decide +kernel
theorem dX11_note_60 : decode cX11_note 60 = .ok (.iadd, 1) := by decide +kernel
theorem dX11_note_61 : decode cX11_note 61 = .ok (.putfield 122, 3) := by decide +kernel
theorem dX11_note_64 : decode cX11_note 64 = .ok (.aload_n 0, 1) := by decide +kernel
theorem dX11_note_65 : decode cX11_note 65 = .ok (.getfield 122, 3) := by decide +kernel
theorem dX11_note_68 : decode cX11_note 68 = .ok (.ireturn, 1) := by decide +kernel
theorem dX11_noteless_0 : decode cX11_noteless 0 = .ok (.aload_n 0, 1) := by decide +kernel
theorem dX11_noteless_1 : decode cX11_noteless 1 = .ok (.getfield 122, 3) := by decide +kernel
theorem dX11_noteless_4 : decode cX11_noteless 4 = .ok (.istore_n 1, 1) := by decide +kernel
theorem dX11_noteless_5 : decode cX11_noteless 5 = .ok (.aload_n 0, 1) := by decide +kernel
theorem dX11_noteless_6 : decode cX11_noteless 6 = .ok (.iconst 0, 1) := by decide +kernel
theorem dX11_noteless_7 : decode cX11_noteless 7 = .ok (.putfield 122, 3) := by decide +kernel
theorem dX11_noteless_10 : decode cX11_noteless 10 = .ok (.iload_n 1, 1) := by decide +kernel
theorem dX11_noteless_11 : decode cX11_noteless 11 = .ok (.ireturn, 1) := by decide +kernel
set_option maxRecDepth 20000 in
theorem ggX11_lefts_X11_causes : GoodIn wsX11_lefts wsX11_causes := goodIn_r _ [9] (by decide +kernel) (by decide +kernel)
set_option maxRecDepth 20000 in
theorem gX11_lefts_X11_causes : GoodIn wsX11_lefts (va_wsS RX11 315 yX11_causes wsX11_causes) := goodIn_app (goodIn_of _ (by decide +kernel)) ggX11_lefts_X11_causes
set_option maxRecDepth 20000 in
theorem ggX11_lefts_X11_outcomeOf : GoodIn wsX11_lefts wsX11_outcomeOf := goodIn_r _ [12, 13, 14, 8, 15] (by decide +kernel) (by decide +kernel)
set_option maxRecDepth 20000 in
theorem gX11_lefts_X11_outcomeOf : GoodIn wsX11_lefts (va_wsS RX11 309 yX11_outcomeOf wsX11_outcomeOf) := goodIn_app (goodIn_of _ (by decide +kernel)) ggX11_lefts_X11_outcomeOf
theorem dX11_lefts_0 : decode cX11_lefts 0 = .ok (.aload_n 0, 1) := by decide +kernel
theorem dX11_lefts_1 : decode cX11_lefts 1 = .ok (.iconst 0, 1) := by decide +kernel
theorem dX11_lefts_2 : decode cX11_lefts 2 = .ok (.putfield 312, 3) := by decide +kernel
theorem dX11_lefts_5 : decode cX11_lefts 5 = .ok (.iconst 0, 1) := by decide +kernel
theorem dX11_lefts_6 : decode cX11_lefts 6 = .ok (.istore_n 2, 1) := by decide +kernel
theorem dX11_lefts_7 : decode cX11_lefts 7 = .ok (.iload_n 2, 1) := by decide +kernel
theorem dX11_lefts_8 : decode cX11_lefts 8 = .ok (.sipush 2772, 3) := by decide +kernel
theorem dX11_lefts_11 : decode cX11_lefts 11 = .ok (.if_icmp .ge 96, 3) := by decide +kernel
theorem dX11_lefts_14 : decode cX11_lefts 14 = .ok (.iload_n 2, 1) := by decide +kernel
theorem dX11_lefts_15 : decode cX11_lefts 15 = .ok (.invokestatic 315, 3) := by decide +kernel
theorem dX11_lefts_18 : decode cX11_lefts 18 = .ok (.iload_n 1, 1) := by decide +kernel
theorem dX11_lefts_19 : decode cX11_lefts 19 = .ok (.if_icmp .gt 7, 3) := by decide +kernel
theorem dX11_lefts_22 : decode cX11_lefts 22 = .ok (.iconst 1, 1) := by decide +kernel
theorem dX11_lefts_23 : decode cX11_lefts 23 = .ok (.goto 4, 3) := by decide +kernel
theorem dX11_lefts_26 : decode cX11_lefts 26 = .ok (.iconst 0, 1) := by decide +kernel
theorem dX11_lefts_27 : decode cX11_lefts 27 = .ok (.istore_n 3, 1) := by decide +kernel
theorem dX11_lefts_28 : decode cX11_lefts 28 = .ok (.iconst 0, 1) := by decide +kernel
theorem dX11_lefts_29 : decode cX11_lefts 29 = .ok (.istore 4, 2) := by decide +kernel
theorem dX11_lefts_31 : decode cX11_lefts 31 = .ok (.iload 4, 2) := by decide +kernel
theorem dX11_lefts_33 : decode cX11_lefts 33 = .ok (.aload_n 0, 1) := by decide +kernel
theorem dX11_lefts_34 : decode cX11_lefts 34 = .ok (.getfield 122, 3) := by decide +kernel
theorem dX11_lefts_37 : decode cX11_lefts 37 = .ok (.if_icmp .ge 40, 3) := by decide +kernel
theorem dX11_lefts_40 : decode cX11_lefts 40 = .ok (.iload_n 3, 1) := by decide +kernel
theorem dX11_lefts_41 : decode cX11_lefts 41 = .ok (.ifCond .eq 36, 3) := by decide +kernel
theorem dX11_lefts_44 : decode cX11_lefts 44 = .ok (.iload_n 2, 1) := by decide +kernel
theorem dX11_lefts_45 : decode cX11_lefts 45 = .ok (.aload_n 0, 1) := by decide +kernel
theorem dX11_lefts_46 : decode cX11_lefts 46 = .ok (.getfield 60, 3) := by decide +kernel
theorem dX11_lefts_49 : decode cX11_lefts 49 = .ok (.iload 4, 2) := by decide +kernel
theorem dX11_lefts_51 : decode cX11_lefts 51 = .ok (.iaload, 1) := by decide +kernel
theorem dX11_lefts_52 : decode cX11_lefts 52 = .ok (.invokestatic 309, 3) := by decide +kernel
theorem dX11_lefts_55 : decode cX11_lefts 55 = .ok (.aload_n 0, 1) := by decide +kernel
theorem dX11_lefts_56 : decode cX11_lefts 56 = .ok (.getfield 63, 3) := by decide +kernel
theorem dX11_lefts_59 : decode cX11_lefts 59 = .ok (.iload 4, 2) := by decide +kernel
theorem dX11_lefts_61 : decode cX11_lefts 61 = .ok (.iaload, 1) := by decide +kernel
theorem dX11_lefts_62 : decode cX11_lefts 62 = .ok (.if_icmp .ne 7, 3) := by decide +kernel
theorem dX11_lefts_65 : decode cX11_lefts 65 = .ok (.iconst 1, 1) := by decide +kernel
theorem dX11_lefts_66 : decode cX11_lefts 66 = .ok (.goto 4, 3) := by decide +kernel
theorem dX11_lefts_69 : decode cX11_lefts 69 = .ok (.iconst 0, 1) := by decide +kernel
theorem dX11_lefts_70 : decode cX11_lefts 70 = .ok (.istore_n 3, 1) := by decide +kernel
theorem dX11_lefts_71 : decode cX11_lefts 71 = .ok (.iinc 4 1, 3) := by decide +kernel
theorem dX11_lefts_74 : decode cX11_lefts 74 = .ok (.goto (-43), 3) := by decide +kernel
theorem dX11_lefts_77 : decode cX11_lefts 77 = .ok (.iload_n 3, 1) := by decide +kernel
theorem dX11_lefts_78 : decode cX11_lefts 78 = .ok (.ifCond .eq 23, 3) := by decide +kernel
theorem dX11_lefts_81 : decode cX11_lefts 81 = .ok (.aload_n 0, 1) := by decide +kernel
theorem dX11_lefts_82 : decode cX11_lefts 82 = .ok (.getfield 94, 3) := by decide +kernel
theorem dX11_lefts_85 : decode cX11_lefts 85 = .ok (.aload_n 0, 1) := by decide +kernel
theorem dX11_lefts_86 : decode cX11_lefts 86 = .ok (.getfield 312, 3) := by decide +kernel
theorem dX11_lefts_89 : decode cX11_lefts 89 = .ok (.iload_n 2, 1) := by decide +kernel
theorem dX11_lefts_90 : decode cX11_lefts 90 = .ok (.iastore, 1) := by decide +kernel
theorem dX11_lefts_91 : decode cX11_lefts 91 = .ok (.aload_n 0, 1) := by decide +kernel
theorem dX11_lefts_92 : decode cX11_lefts 92 = .ok (.dup, 1) := by decide +kernel
theorem dX11_lefts_93 : decode cX11_lefts 93 = .ok (.getfield 312, 3) := by decide +kernel
theorem dX11_lefts_96 : decode cX11_lefts 96 = .ok (.iconst 1, 1) := by decide +kernel
theorem dX11_lefts_97 : decode cX11_lefts 97 = .ok (.iadd, 1) := by decide +kernel
theorem dX11_lefts_98 : decode cX11_lefts 98 = .ok (.putfield 312, 3) := by decide +kernel
theorem dX11_lefts_101 : decode cX11_lefts 101 = .ok (.iinc 2 1, 3) := by decide +kernel
theorem dX11_lefts_104 : decode cX11_lefts 104 = .ok (.goto (-97), 3) := by decide +kernel
theorem dX11_lefts_107 : decode cX11_lefts 107 = .ok (.return_, 1) := by decide +kernel
set_option maxRecDepth 20000 in
theorem ggX11_shareOf_X11_outcomeOf : GoodIn wsX11_shareOf wsX11_outcomeOf := goodIn_r _ [7, 8, 9, 6, 10] (by decide +kernel) (by decide +kernel)
set_option maxRecDepth 20000 in
theorem gX11_shareOf_X11_outcomeOf : GoodIn wsX11_shareOf (va_wsS RX11 309 yX11_outcomeOf wsX11_outcomeOf) := goodIn_app (goodIn_of _ (by decide +kernel)) ggX11_shareOf_X11_outcomeOf
theorem dX11_shareOf_0 : decode cX11_shareOf 0 = .ok (.iconst 0, 1) := by decide +kernel
theorem dX11_shareOf_1 : decode cX11_shareOf 1 = .ok (.istore_n 2, 1) := by decide +kernel
theorem dX11_shareOf_2 : decode cX11_shareOf 2 = .ok (.iload_n 2, 1) := by decide +kernel
theorem dX11_shareOf_3 : decode cX11_shareOf 3 = .ok (.iconst 5, 1) := by decide +kernel
theorem dX11_shareOf_4 : decode cX11_shareOf 4 = .ok (.if_icmp .ge 16, 3) := by decide +kernel
theorem dX11_shareOf_7 : decode cX11_shareOf 7 = .ok (.aload_n 0, 1) := by decide +kernel
theorem dX11_shareOf_8 : decode cX11_shareOf 8 = .ok (.getfield 97, 3) := by decide +kernel
theorem dX11_shareOf_11 : decode cX11_shareOf 11 = .ok (.iload_n 2, 1) := by decide +kernel
theorem dX11_shareOf_12 : decode cX11_shareOf 12 = .ok (.iconst 0, 1) := by decide +kernel
theorem dX11_shareOf_13 : decode cX11_shareOf 13 = .ok (.iastore, 1) := by decide +kernel
theorem dX11_shareOf_14 : decode cX11_shareOf 14 = .ok (.iinc 2 1, 3) := by decide +kernel
theorem dX11_shareOf_17 : decode cX11_shareOf 17 = .ok (.goto (-15), 3) := by decide +kernel
theorem dX11_shareOf_20 : decode cX11_shareOf 20 = .ok (.iconst 0, 1) := by decide +kernel
theorem dX11_shareOf_21 : decode cX11_shareOf 21 = .ok (.istore_n 2, 1) := by decide +kernel
theorem dX11_shareOf_22 : decode cX11_shareOf 22 = .ok (.iconst 0, 1) := by decide +kernel
theorem dX11_shareOf_23 : decode cX11_shareOf 23 = .ok (.istore_n 3, 1) := by decide +kernel
theorem dX11_shareOf_24 : decode cX11_shareOf 24 = .ok (.iload_n 3, 1) := by decide +kernel
theorem dX11_shareOf_25 : decode cX11_shareOf 25 = .ok (.aload_n 0, 1) := by decide +kernel
theorem dX11_shareOf_26 : decode cX11_shareOf 26 = .ok (.getfield 312, 3) := by decide +kernel
theorem dX11_shareOf_29 : decode cX11_shareOf 29 = .ok (.if_icmp .ge 55, 3) := by decide +kernel
theorem dX11_shareOf_32 : decode cX11_shareOf 32 = .ok (.aload_n 0, 1) := by decide +kernel
theorem dX11_shareOf_33 : decode cX11_shareOf 33 = .ok (.getfield 94, 3) := by decide +kernel
theorem dX11_shareOf_36 : decode cX11_shareOf 36 = .ok (.iload_n 3, 1) := by decide +kernel
theorem dX11_shareOf_37 : decode cX11_shareOf 37 = .ok (.iaload, 1) := by decide +kernel
theorem dX11_shareOf_38 : decode cX11_shareOf 38 = .ok (.iload_n 1, 1) := by decide +kernel
theorem dX11_shareOf_39 : decode cX11_shareOf 39 = .ok (.invokestatic 309, 3) := by decide +kernel
theorem dX11_shareOf_42 : decode cX11_shareOf 42 = .ok (.istore 4, 2) := by decide +kernel
theorem dX11_shareOf_44 : decode cX11_shareOf 44 = .ok (.aload_n 0, 1) := by decide +kernel
theorem dX11_shareOf_45 : decode cX11_shareOf 45 = .ok (.getfield 97, 3) := by decide +kernel
theorem dX11_shareOf_48 : decode cX11_shareOf 48 = .ok (.iload 4, 2) := by decide +kernel
theorem dX11_shareOf_50 : decode cX11_shareOf 50 = .ok (.dup2, 1) := by decide +kernel
theorem dX11_shareOf_51 : decode cX11_shareOf 51 = .ok (.iaload, 1) := by decide +kernel
theorem dX11_shareOf_52 : decode cX11_shareOf 52 = .ok (.iconst 1, 1) := by decide +kernel
theorem dX11_shareOf_53 : decode cX11_shareOf 53 = .ok (.iadd, 1) := by decide +kernel
theorem dX11_shareOf_54 : decode cX11_shareOf 54 = .ok (.iastore, 1) := by decide +kernel
theorem dX11_shareOf_55 : decode cX11_shareOf 55 = .ok (.aload_n 0, 1) := by decide +kernel
theorem dX11_shareOf_56 : decode cX11_shareOf 56 = .ok (.getfield 97, 3) := by decide +kernel
theorem dX11_shareOf_59 : decode cX11_shareOf 59 = .ok (.iload 4, 2) := by decide +kernel
theorem dX11_shareOf_61 : decode cX11_shareOf 61 = .ok (.iaload, 1) := by decide +kernel
theorem dX11_shareOf_62 : decode cX11_shareOf 62 = .ok (.iload_n 2, 1) := by decide +kernel
theorem dX11_shareOf_63 : decode cX11_shareOf 63 = .ok (.if_icmp .le 13, 3) := by decide +kernel
theorem dX11_shareOf_66 : decode cX11_shareOf 66 = .ok (.aload_n 0, 1) := by decide +kernel
theorem dX11_shareOf_67 : decode cX11_shareOf 67 = .ok (.getfield 97, 3) := by decide +kernel
theorem dX11_shareOf_70 : decode cX11_shareOf 70 = .ok (.iload 4, 2) := by decide +kernel
theorem dX11_shareOf_72 : decode cX11_shareOf 72 = .ok (.iaload, 1) := by decide +kernel
theorem dX11_shareOf_73 : decode cX11_shareOf 73 = .ok (.goto 4, 3) := by decide +kernel
theorem dX11_shareOf_76 : decode cX11_shareOf 76 = .ok (.iload_n 2, 1) := by decide +kernel
theorem dX11_shareOf_77 : decode cX11_shareOf 77 = .ok (.istore_n 2, 1) := by decide +kernel
theorem dX11_shareOf_78 : decode cX11_shareOf 78 = .ok (.iinc 3 1, 3) := by decide +kernel
theorem dX11_shareOf_81 : decode cX11_shareOf 81 = .ok (.goto (-57), 3) := by decide +kernel
theorem dX11_shareOf_84 : decode cX11_shareOf 84 = .ok (.iload_n 2, 1) := by decide +kernel
theorem dX11_shareOf_85 : decode cX11_shareOf 85 = .ok (.ireturn, 1) := by decide +kernel
set_option maxRecDepth 20000 in
theorem ggX11_bestOf_X11_shareOf : GoodIn wsX11_bestOf wsX11_shareOf := goodIn_r _ [6, 7, 1, 8, 9, 10, 5, 11, 12, 13, 14, 15, 16, 17, 18, 19, 20, 21, 22, 23, 24, 25, 26, 27, 28, 29, 30, 31, 32, 33, 34, 35, 36, 37, 38, 39, 40, 41, 42, 43, 44, 45, 46, 47, 48, 49, 50, 51, 52, 53, 54, 55, 56, 57, 58, 59, 60, 61, 62, 63, 64, 65, 66, 67, 68, 69, 70, 71, 72, 73, 74, 75, 76] (by decide +kernel) (by decide +kernel)
set_option maxRecDepth 20000 in
theorem gX11_bestOf_X11_shareOf : GoodIn wsX11_bestOf (wsV RX11 318 RX11 yX11_shareOf wsX11_shareOf) := goodIn_app (goodIn_of _ (by decide +kernel)) ggX11_bestOf_X11_shareOf
theorem dX11_bestOf_0 : decode cX11_bestOf 0 = .ok (.iconst 0, 1) := by decide +kernel
theorem dX11_bestOf_1 : decode cX11_bestOf 1 = .ok (.istore_n 1, 1) := by decide +kernel
theorem dX11_bestOf_2 : decode cX11_bestOf 2 = .ok (.aload_n 0, 1) := by decide +kernel
theorem dX11_bestOf_3 : decode cX11_bestOf 3 = .ok (.iconst 0, 1) := by decide +kernel
theorem dX11_bestOf_4 : decode cX11_bestOf 4 = .ok (.invokevirtual 318, 3) := by decide +kernel
theorem dX11_bestOf_7 : decode cX11_bestOf 7 = .ok (.istore_n 2, 1) := by decide +kernel
theorem dX11_bestOf_8 : decode cX11_bestOf 8 = .ok (.iconst 1, 1) := by decide +kernel
theorem dX11_bestOf_9 : decode cX11_bestOf 9 = .ok (.istore_n 3, 1) := by decide +kernel
theorem dX11_bestOf_10 : decode cX11_bestOf 10 = .ok (.iload_n 3, 1) := by decide +kernel
theorem dX11_bestOf_11 : decode cX11_bestOf 11 = .ok (.sipush 325, 3) := by decide +kernel
theorem dX11_bestOf_14 : decode cX11_bestOf 14 = .ok (.if_icmp .ge 41, 3) := by decide +kernel
theorem dX11_bestOf_17 : decode cX11_bestOf 17 = .ok (.aload_n 0, 1) := by decide +kernel
theorem dX11_bestOf_18 : decode cX11_bestOf 18 = .ok (.iload_n 3, 1) := by decide +kernel
theorem dX11_bestOf_19 : decode cX11_bestOf 19 = .ok (.invokevirtual 318, 3) := by decide +kernel
theorem dX11_bestOf_22 : decode cX11_bestOf 22 = .ok (.istore 4, 2) := by decide +kernel
theorem dX11_bestOf_24 : decode cX11_bestOf 24 = .ok (.iload 4, 2) := by decide +kernel
theorem dX11_bestOf_26 : decode cX11_bestOf 26 = .ok (.iload_n 2, 1) := by decide +kernel
theorem dX11_bestOf_27 : decode cX11_bestOf 27 = .ok (.if_icmp .ge 7, 3) := by decide +kernel
theorem dX11_bestOf_30 : decode cX11_bestOf 30 = .ok (.iload_n 3, 1) := by decide +kernel
theorem dX11_bestOf_31 : decode cX11_bestOf 31 = .ok (.goto 4, 3) := by decide +kernel
theorem dX11_bestOf_34 : decode cX11_bestOf 34 = .ok (.iload_n 1, 1) := by decide +kernel
theorem dX11_bestOf_35 : decode cX11_bestOf 35 = .ok (.istore_n 1, 1) := by decide +kernel
theorem dX11_bestOf_36 : decode cX11_bestOf 36 = .ok (.iload 4, 2) := by decide +kernel
theorem dX11_bestOf_38 : decode cX11_bestOf 38 = .ok (.iload_n 2, 1) := by decide +kernel
theorem dX11_bestOf_39 : decode cX11_bestOf 39 = .ok (.if_icmp .ge 8, 3) := by decide +kernel
theorem dX11_bestOf_42 : decode cX11_bestOf 42 = .ok (.iload 4, 2) := by decide +kernel
theorem dX11_bestOf_44 : decode cX11_bestOf 44 = .ok (.goto 4, 3) := by decide +kernel
theorem dX11_bestOf_47 : decode cX11_bestOf 47 = .ok (.iload_n 2, 1) := by decide +kernel
theorem dX11_bestOf_48 : decode cX11_bestOf 48 = .ok (.istore_n 2, 1) := by decide +kernel
theorem dX11_bestOf_49 : decode cX11_bestOf 49 = .ok (.iinc 3 1, 3) := by decide +kernel
theorem dX11_bestOf_52 : decode cX11_bestOf 52 = .ok (.goto (-42), 3) := by decide +kernel
theorem dX11_bestOf_55 : decode cX11_bestOf 55 = .ok (.iload_n 2, 1) := by decide +kernel
theorem dX11_bestOf_56 : decode cX11_bestOf 56 = .ok (.aload_n 0, 1) := by decide +kernel
theorem dX11_bestOf_57 : decode cX11_bestOf 57 = .ok (.getfield 312, 3) := by decide +kernel
theorem dX11_bestOf_60 : decode cX11_bestOf 60 = .ok (.if_icmp .ge 7, 3) := by decide +kernel
theorem dX11_bestOf_63 : decode cX11_bestOf 63 = .ok (.iload_n 1, 1) := by decide +kernel
theorem dX11_bestOf_64 : decode cX11_bestOf 64 = .ok (.goto 4, 3) := by decide +kernel
theorem dX11_bestOf_67 : decode cX11_bestOf 67 = .ok (.iconst (-1), 1) := by decide +kernel
theorem dX11_bestOf_68 : decode cX11_bestOf 68 = .ok (.ireturn, 1) := by decide +kernel
set_option maxRecDepth 20000 in
theorem ggX11_left_X11_in : GoodIn wsX11_left wsX11_in := goodIn_r _ [5] (by decide +kernel) (by decide +kernel)
set_option maxRecDepth 20000 in
theorem gX11_left_X11_in : GoodIn wsX11_left (va_wsS RX11 147 yX11_in wsX11_in) := goodIn_app (goodIn_of _ (by decide +kernel)) ggX11_left_X11_in
set_option maxRecDepth 20000 in
theorem ggX11_left_X11_lefts : GoodIn wsX11_left wsX11_lefts := goodIn_r _ [9, 1, 10, 11, 12, 13, 14, 15, 4, 16, 17, 18, 19, 20, 21, 22, 23, 24, 25, 26, 27, 28, 29, 30, 31, 32, 33, 34, 35, 36, 37, 38, 39, 40, 41, 42, 43, 44, 45, 46, 47, 48, 49, 50, 51, 52, 53, 54, 55, 56, 57, 58, 59, 60, 61, 62, 63, 64, 65, 66, 67, 68, 69, 70, 71, 72, 73, 74, 75, 76, 77, 78, 79, 80, 81, 82, 83, 84] (by decide +kernel) (by decide +kernel)
set_option maxRecDepth 20000 in
theorem gX11_left_X11_lefts : GoodIn wsX11_left (wsV RX11 321 RX11 yX11_lefts wsX11_lefts) := goodIn_app (goodIn_of _ (by decide +kernel)) ggX11_left_X11_lefts
theorem dX11_left_0 : decode cX11_left 0 = .ok (.iload_n 1, 1) := by decide +kernel
theorem dX11_left_1 : decode cX11_left 1 = .ok (.iconst 0, 1) := by decide +kernel
theorem dX11_left_2 : decode cX11_left 2 = .ok (.iconst 4, 1) := by decide +kernel
theorem dX11_left_3 : decode cX11_left 3 = .ok (.invokestatic 147, 3) := by decide +kernel
theorem dX11_left_6 : decode cX11_left 6 = .ok (.ifCond .ne 5, 3) := by decide +kernel
theorem dX11_left_9 : decode cX11_left 9 = .ok (.iconst (-1), 1) := by decide +kernel
theorem dX11_left_10 : decode cX11_left 10 = .ok (.ireturn, 1) := by decide +kernel
theorem dX11_left_11 : decode cX11_left 11 = .ok (.aload_n 0, 1) := by decide +kernel
theorem dX11_left_12 : decode cX11_left 12 = .ok (.iload_n 1, 1) := by decide +kernel
theorem dX11_left_13 : decode cX11_left 13 = .ok (.invokevirtual 321, 3) := by decide +kernel
theorem dX11_left_16 : decode cX11_left 16 = .ok (.aload_n 0, 1) := by decide +kernel
theorem dX11_left_17 : decode cX11_left 17 = .ok (.getfield 312, 3) := by decide +kernel
theorem dX11_left_20 : decode cX11_left 20 = .ok (.ireturn, 1) := by decide +kernel
set_option maxRecDepth 20000 in
theorem ggX11_state_X11_in : GoodIn wsX11_state wsX11_in := goodIn_r _ [6] (by decide +kernel) (by decide +kernel)
set_option maxRecDepth 20000 in
theorem gX11_state_X11_in : GoodIn wsX11_state (va_wsS RX11 147 yX11_in wsX11_in) := goodIn_app (goodIn_of _ (by decide +kernel)) ggX11_state_X11_in
set_option maxRecDepth 20000 in
theorem ggX11_state_X11_lefts : GoodIn wsX11_state wsX11_lefts := goodIn_r _ [10, 1, 11, 12, 13, 2, 14, 15, 5, 16, 17, 18, 19, 20, 21, 22, 23, 24, 25, 26, 27, 28, 29, 30, 31, 32, 33, 34, 35, 36, 37, 38, 39, 40, 41, 42, 43, 44, 45, 46, 47, 48, 49, 50, 51, 52, 53, 54, 55, 56, 57, 58, 59, 60, 61, 62, 63, 64, 65, 66, 67, 68, 69, 70, 71, 72, 73, 74, 75, 76, 77, 78, 79, 80, 81, 82, 83, 84] (by decide +kernel) (by decide +kernel)
set_option maxRecDepth 20000 in
theorem gX11_state_X11_lefts : GoodIn wsX11_state (wsV RX11 321 RX11 yX11_lefts wsX11_lefts) := goodIn_app (goodIn_of _ (by decide +kernel)) ggX11_state_X11_lefts
theorem dX11_state_0 : decode cX11_state 0 = .ok (.iload_n 1, 1) := by decide +kernel
theorem dX11_state_1 : decode cX11_state 1 = .ok (.iconst 0, 1) := by decide +kernel
theorem dX11_state_2 : decode cX11_state 2 = .ok (.iconst 4, 1) := by decide +kernel
theorem dX11_state_3 : decode cX11_state 3 = .ok (.invokestatic 147, 3) := by decide +kernel
theorem dX11_state_6 : decode cX11_state 6 = .ok (.ifCond .ne 5, 3) := by decide +kernel
theorem dX11_state_9 : decode cX11_state 9 = .ok (.iconst (-1), 1) := by decide +kernel
theorem dX11_state_10 : decode cX11_state 10 = .ok (.ireturn, 1) := by decide +kernel
theorem dX11_state_11 : decode cX11_state 11 = .ok (.aload_n 0, 1) := by decide +kernel
theorem dX11_state_12 : decode cX11_state 12 = .ok (.iload_n 1, 1) := by decide +kernel
theorem dX11_state_13 : decode cX11_state 13 = .ok (.invokevirtual 321, 3) := by decide +kernel
theorem dX11_state_16 : decode cX11_state 16 = .ok (.iload_n 2, 1) := by decide +kernel
theorem dX11_state_17 : decode cX11_state 17 = .ok (.iconst 0, 1) := by decide +kernel
theorem dX11_state_18 : decode cX11_state 18 = .ok (.aload_n 0, 1) := by decide +kernel
theorem dX11_state_19 : decode cX11_state 19 = .ok (.getfield 312, 3) := by decide +kernel
theorem dX11_state_22 : decode cX11_state 22 = .ok (.iconst 1, 1) := by decide +kernel
theorem dX11_state_23 : decode cX11_state 23 = .ok (.isub, 1) := by decide +kernel
theorem dX11_state_24 : decode cX11_state 24 = .ok (.invokestatic 147, 3) := by decide +kernel
theorem dX11_state_27 : decode cX11_state 27 = .ok (.ifCond .eq 12, 3) := by decide +kernel
theorem dX11_state_30 : decode cX11_state 30 = .ok (.aload_n 0, 1) := by decide +kernel
theorem dX11_state_31 : decode cX11_state 31 = .ok (.getfield 94, 3) := by decide +kernel
theorem dX11_state_34 : decode cX11_state 34 = .ok (.iload_n 2, 1) := by decide +kernel
theorem dX11_state_35 : decode cX11_state 35 = .ok (.iaload, 1) := by decide +kernel
theorem dX11_state_36 : decode cX11_state 36 = .ok (.goto 4, 3) := by decide +kernel
theorem dX11_state_39 : decode cX11_state 39 = .ok (.iconst (-1), 1) := by decide +kernel
theorem dX11_state_40 : decode cX11_state 40 = .ok (.ireturn, 1) := by decide +kernel
set_option maxRecDepth 20000 in
theorem ggX11_best_X11_in : GoodIn wsX11_best wsX11_in := goodIn_r _ [5] (by decide +kernel) (by decide +kernel)
set_option maxRecDepth 20000 in
theorem gX11_best_X11_in : GoodIn wsX11_best (va_wsS RX11 147 yX11_in wsX11_in) := goodIn_app (goodIn_of _ (by decide +kernel)) ggX11_best_X11_in
set_option maxRecDepth 20000 in
theorem ggX11_best_X11_lefts : GoodIn wsX11_best wsX11_lefts := goodIn_r _ [9, 1, 10, 11, 12, 13, 14, 15, 4, 16, 17, 18, 19, 20, 21, 22, 32, 33, 34, 35, 36, 37, 38, 39, 40, 41, 42, 43, 44, 45, 46, 47, 48, 49, 50, 51, 52, 53, 54, 55, 56, 57, 58, 59, 60, 61, 62, 63, 64, 65, 66, 67, 68, 69, 70, 71, 72, 73, 74, 75, 76, 77, 78, 79, 80, 81, 82, 83, 84, 85, 86, 87, 88, 89, 90, 91, 92, 93] (by decide +kernel) (by decide +kernel)
set_option maxRecDepth 20000 in
theorem gX11_best_X11_lefts : GoodIn wsX11_best (wsV RX11 321 RX11 yX11_lefts wsX11_lefts) := goodIn_app (goodIn_of _ (by decide +kernel)) ggX11_best_X11_lefts
set_option maxRecDepth 20000 in
theorem ggX11_best_X11_bestOf : GoodIn wsX11_best wsX11_bestOf := goodIn_r _ [26, 1, 27, 28, 29, 4, 30, 31, 13, 17, 18, 19, 20, 21, 22, 32, 33, 34, 35, 36, 37, 38, 39, 40, 41, 42, 43, 44, 45, 46, 47, 48, 49, 50, 51, 52, 53, 54, 55, 56, 57, 58, 59, 60, 61, 62, 63, 64, 65, 66, 67, 68, 69, 70, 71, 72, 73, 74, 75, 76, 77, 78, 79, 80, 81, 82, 83, 84, 85, 86, 87, 88, 89, 90, 91, 92, 93] (by decide +kernel) (by decide +kernel)
set_option maxRecDepth 20000 in
theorem gX11_best_X11_bestOf : GoodIn wsX11_best (wsV RX11 325 RX11 yX11_bestOf wsX11_bestOf) := goodIn_app (goodIn_of _ (by decide +kernel)) ggX11_best_X11_bestOf
theorem dX11_best_0 : decode cX11_best 0 = .ok (.iload_n 1, 1) := by decide +kernel
theorem dX11_best_1 : decode cX11_best 1 = .ok (.iconst 0, 1) := by decide +kernel
theorem dX11_best_2 : decode cX11_best 2 = .ok (.iconst 4, 1) := by decide +kernel
theorem dX11_best_3 : decode cX11_best 3 = .ok (.invokestatic 147, 3) := by decide +kernel
theorem dX11_best_6 : decode cX11_best 6 = .ok (.ifCond .ne 5, 3) := by decide +kernel
theorem dX11_best_9 : decode cX11_best 9 = .ok (.iconst (-1), 1) := by decide +kernel
theorem dX11_best_10 : decode cX11_best 10 = .ok (.ireturn, 1) := by decide +kernel
theorem dX11_best_11 : decode cX11_best 11 = .ok (.aload_n 0, 1) := by decide +kernel
theorem dX11_best_12 : decode cX11_best 12 = .ok (.iload_n 1, 1) := by decide +kernel
theorem dX11_best_13 : decode cX11_best 13 = .ok (.invokevirtual 321, 3) := by decide +kernel
theorem dX11_best_16 : decode cX11_best 16 = .ok (.aload_n 0, 1) := by decide +kernel
theorem dX11_best_17 : decode cX11_best 17 = .ok (.getfield 312, 3) := by decide +kernel
theorem dX11_best_20 : decode cX11_best 20 = .ok (.iconst 2, 1) := by decide +kernel
theorem dX11_best_21 : decode cX11_best 21 = .ok (.if_icmp .ge 7, 3) := by decide +kernel
theorem dX11_best_24 : decode cX11_best 24 = .ok (.iconst (-1), 1) := by decide +kernel
theorem dX11_best_25 : decode cX11_best 25 = .ok (.goto 7, 3) := by decide +kernel
theorem dX11_best_28 : decode cX11_best 28 = .ok (.aload_n 0, 1) := by decide +kernel
theorem dX11_best_29 : decode cX11_best 29 = .ok (.invokevirtual 325, 3) := by decide +kernel
theorem dX11_best_32 : decode cX11_best 32 = .ok (.istore_n 2, 1) := by decide +kernel
theorem dX11_best_33 : decode cX11_best 33 = .ok (.iload_n 2, 1) := by decide +kernel
theorem dX11_best_34 : decode cX11_best 34 = .ok (.iconst (-1), 1) := by decide +kernel
theorem dX11_best_35 : decode cX11_best 35 = .ok (.if_icmp .ne 8, 3) := by decide +kernel
theorem dX11_best_38 : decode cX11_best 38 = .ok (.bipush (-4), 2) := by decide +kernel
theorem dX11_best_40 : decode cX11_best 40 = .ok (.goto 4, 3) := by decide +kernel
theorem dX11_best_43 : decode cX11_best 43 = .ok (.iload_n 2, 1) := by decide +kernel
theorem dX11_best_44 : decode cX11_best 44 = .ok (.ireturn, 1) := by decide +kernel
set_option maxRecDepth 20000 in
theorem ggX11_share_X11_in : GoodIn wsX11_share wsX11_in := goodIn_r _ [4] (by decide +kernel) (by decide +kernel)
set_option maxRecDepth 20000 in
theorem gX11_share_X11_in : GoodIn wsX11_share (va_wsS RX11 147 yX11_in wsX11_in) := goodIn_app (goodIn_of _ (by decide +kernel)) ggX11_share_X11_in
set_option maxRecDepth 20000 in
theorem ggX11_share_X11_lefts : GoodIn wsX11_share wsX11_lefts := goodIn_r _ [8, 9, 10, 11, 12, 13, 14, 15, 3, 16, 17, 18, 19, 20, 21, 22, 28, 29, 30, 31, 32, 33, 34, 35, 36, 37, 38, 39, 40, 41, 42, 43, 44, 45, 46, 47, 48, 49, 50, 51, 52, 53, 54, 55, 56, 57, 58, 59, 60, 61, 62, 63, 64, 65, 66, 67, 68, 69, 70, 71, 72, 73, 74, 75, 76, 77, 78, 79, 80, 81, 82, 83, 84, 85, 86, 87, 88, 89] (by decide +kernel) (by decide +kernel)
set_option maxRecDepth 20000 in
theorem gX11_share_X11_lefts : GoodIn wsX11_share (wsV RX11 321 RX11 yX11_lefts wsX11_lefts) := goodIn_app (goodIn_of _ (by decide +kernel)) ggX11_share_X11_lefts
set_option maxRecDepth 20000 in
theorem ggX11_share_X11_shareOf : GoodIn wsX11_share wsX11_shareOf := goodIn_r _ [26, 27, 9, 13, 17, 18, 3, 19, 20, 21, 22, 28, 29, 30, 31, 32, 33, 34, 35, 36, 37, 38, 39, 40, 41, 42, 43, 44, 45, 46, 47, 48, 49, 50, 51, 52, 53, 54, 55, 56, 57, 58, 59, 60, 61, 62, 63, 64, 65, 66, 67, 68, 69, 70, 71, 72, 73, 74, 75, 76, 77, 78, 79, 80, 81, 82, 83, 84, 85, 86, 87, 88, 89] (by decide +kernel) (by decide +kernel)
set_option maxRecDepth 20000 in
theorem gX11_share_X11_shareOf : GoodIn wsX11_share (wsV RX11 318 RX11 yX11_shareOf wsX11_shareOf) := goodIn_app (goodIn_of _ (by decide +kernel)) ggX11_share_X11_shareOf
theorem dX11_share_0 : decode cX11_share 0 = .ok (.iload_n 1, 1) := by decide +kernel
theorem dX11_share_1 : decode cX11_share 1 = .ok (.iconst 0, 1) := by decide +kernel
theorem dX11_share_2 : decode cX11_share 2 = .ok (.iconst 4, 1) := by decide +kernel
theorem dX11_share_3 : decode cX11_share 3 = .ok (.invokestatic 147, 3) := by decide +kernel
theorem dX11_share_6 : decode cX11_share 6 = .ok (.ifCond .eq 14, 3) := by decide +kernel
theorem dX11_share_9 : decode cX11_share 9 = .ok (.iload_n 2, 1) := by decide +kernel
theorem dX11_share_10 : decode cX11_share 10 = .ok (.iconst 0, 1) := by decide +kernel
theorem dX11_share_11 : decode cX11_share 11 = .ok (.sipush 324, 3) := by decide +kernel
theorem dX11_share_14 : decode cX11_share 14 = .ok (.invokestatic 147, 3) := by decide +kernel
theorem dX11_share_17 : decode cX11_share 17 = .ok (.ifCond .ne 5, 3) := by decide +kernel
theorem dX11_share_20 : decode cX11_share 20 = .ok (.iconst (-1), 1) := by decide +kernel
theorem dX11_share_21 : decode cX11_share 21 = .ok (.ireturn, 1) := by decide +kernel
theorem dX11_share_22 : decode cX11_share 22 = .ok (.aload_n 0, 1) := by decide +kernel
theorem dX11_share_23 : decode cX11_share 23 = .ok (.iload_n 1, 1) := by decide +kernel
theorem dX11_share_24 : decode cX11_share 24 = .ok (.invokevirtual 321, 3) := by decide +kernel
theorem dX11_share_27 : decode cX11_share 27 = .ok (.aload_n 0, 1) := by decide +kernel
theorem dX11_share_28 : decode cX11_share 28 = .ok (.iload_n 2, 1) := by decide +kernel
theorem dX11_share_29 : decode cX11_share 29 = .ok (.invokevirtual 318, 3) := by decide +kernel
theorem dX11_share_32 : decode cX11_share 32 = .ok (.ireturn, 1) := by decide +kernel
set_option maxRecDepth 20000 in
theorem ggX11_hunt_X11_in : GoodIn wsX11_hunt wsX11_in := goodIn_r _ [6] (by decide +kernel) (by decide +kernel)
set_option maxRecDepth 20000 in
theorem gX11_hunt_X11_in : GoodIn wsX11_hunt (va_wsS RX11 147 yX11_in wsX11_in) := goodIn_app (goodIn_of _ (by decide +kernel)) ggX11_hunt_X11_in
set_option maxRecDepth 20000 in
theorem ggX11_hunt_X11_causes : GoodIn wsX11_hunt wsX11_causes := goodIn_r _ [9] (by decide +kernel) (by decide +kernel)
set_option maxRecDepth 20000 in
theorem gX11_hunt_X11_causes : GoodIn wsX11_hunt (va_wsS RX11 315 yX11_causes wsX11_causes) := goodIn_app (goodIn_of _ (by decide +kernel)) ggX11_hunt_X11_causes
set_option maxRecDepth 20000 in
theorem ggX11_hunt_X11_bestOf : GoodIn wsX11_hunt wsX11_bestOf := goodIn_r _ [13, 1, 14, 15, 16, 5, 17, 18, 2, 19, 20, 21, 22, 23, 24, 25, 26, 27, 28, 29, 30, 31, 32, 33, 34, 35, 36, 37, 38, 39, 40, 41, 42, 43, 44, 45, 46, 47, 48, 49, 50, 51, 52, 53, 54, 55, 56, 57, 58, 59, 60, 61, 62, 63, 64, 65, 66, 67, 68, 69, 70, 71, 72, 73, 74, 75, 76, 77, 78, 79, 80, 81, 82, 83, 84, 85, 86] (by decide +kernel) (by decide +kernel)
set_option maxRecDepth 20000 in
theorem gX11_hunt_X11_bestOf : GoodIn wsX11_hunt (wsV RX11 325 RX11 yX11_bestOf wsX11_bestOf) := goodIn_app (goodIn_of _ (by decide +kernel)) ggX11_hunt_X11_bestOf
set_option maxRecDepth 20000 in
theorem ggX11_hunt_X11_outcomeOf : GoodIn wsX11_hunt wsX11_outcomeOf := goodIn_r _ [21, 22, 23, 5, 24] (by decide +kernel) (by decide +kernel)
set_option maxRecDepth 20000 in
theorem gX11_hunt_X11_outcomeOf : GoodIn wsX11_hunt (va_wsS RX11 309 yX11_outcomeOf wsX11_outcomeOf) := goodIn_app (goodIn_of _ (by decide +kernel)) ggX11_hunt_X11_outcomeOf
theorem dX11_hunt_0 : decode cX11_hunt 0 = .ok (.iload_n 1, 1) := by decide +kernel
theorem dX11_hunt_1 : decode cX11_hunt 1 = .ok (.iconst 0, 1) := by decide +kernel
theorem dX11_hunt_2 : decode cX11_hunt 2 = .ok (.sipush 2771, 3) := by decide +kernel
theorem dX11_hunt_5 : decode cX11_hunt 5 = .ok (.invokestatic 147, 3) := by decide +kernel
theorem dX11_hunt_8 : decode cX11_hunt 8 = .ok (.ifCond .eq 21, 3) := by decide +kernel
theorem dX11_hunt_11 : decode cX11_hunt 11 = .ok (.iload_n 2, 1) := by decide +kernel
theorem dX11_hunt_12 : decode cX11_hunt 12 = .ok (.iconst 0, 1) := by decide +kernel
theorem dX11_hunt_13 : decode cX11_hunt 13 = .ok (.iconst 4, 1) := by decide +kernel
theorem dX11_hunt_14 : decode cX11_hunt 14 = .ok (.invokestatic 147, 3) := by decide +kernel
theorem dX11_hunt_17 : decode cX11_hunt 17 = .ok (.ifCond .eq 12, 3) := by decide +kernel
theorem dX11_hunt_20 : decode cX11_hunt 20 = .ok (.iload_n 3, 1) := by decide +kernel
theorem dX11_hunt_21 : decode cX11_hunt 21 = .ok (.iconst 0, 1) := by decide +kernel
theorem dX11_hunt_22 : decode cX11_hunt 22 = .ok (.iconst 3, 1) := by decide +kernel
theorem dX11_hunt_23 : decode cX11_hunt 23 = .ok (.invokestatic 147, 3) := by decide +kernel
theorem dX11_hunt_26 : decode cX11_hunt 26 = .ok (.ifCond .ne 5, 3) := by decide +kernel
theorem dX11_hunt_29 : decode cX11_hunt 29 = .ok (.iconst (-1), 1) := by decide +kernel
theorem dX11_hunt_30 : decode cX11_hunt 30 = .ok (.ireturn, 1) := by decide +kernel
theorem dX11_hunt_31 : decode cX11_hunt 31 = .ok (.aload_n 0, 1) := by decide +kernel
theorem dX11_hunt_32 : decode cX11_hunt 32 = .ok (.iconst 0, 1) := by decide +kernel
theorem dX11_hunt_33 : decode cX11_hunt 33 = .ok (.putfield 312, 3) := by decide +kernel
theorem dX11_hunt_36 : decode cX11_hunt 36 = .ok (.iconst 0, 1) := by decide +kernel
theorem dX11_hunt_37 : decode cX11_hunt 37 = .ok (.istore 4, 2) := by decide +kernel
theorem dX11_hunt_39 : decode cX11_hunt 39 = .ok (.iload 4, 2) := by decide +kernel
theorem dX11_hunt_41 : decode cX11_hunt 41 = .ok (.sipush 2772, 3) := by decide +kernel
theorem dX11_hunt_44 : decode cX11_hunt 44 = .ok (.if_icmp .ge 39, 3) := by decide +kernel
theorem dX11_hunt_47 : decode cX11_hunt 47 = .ok (.iload 4, 2) := by decide +kernel
theorem dX11_hunt_49 : decode cX11_hunt 49 = .ok (.invokestatic 315, 3) := by decide +kernel
theorem dX11_hunt_52 : decode cX11_hunt 52 = .ok (.iload_n 2, 1) := by decide +kernel
theorem dX11_hunt_53 : decode cX11_hunt 53 = .ok (.if_icmp .gt 24, 3) := by decide +kernel
theorem dX11_hunt_56 : decode cX11_hunt 56 = .ok (.aload_n 0, 1) := by decide +kernel
theorem dX11_hunt_57 : decode cX11_hunt 57 = .ok (.getfield 94, 3) := by decide +kernel
theorem dX11_hunt_60 : decode cX11_hunt 60 = .ok (.aload_n 0, 1) := by decide +kernel
theorem dX11_hunt_61 : decode cX11_hunt 61 = .ok (.getfield 312, 3) := by decide +kernel
theorem dX11_hunt_64 : decode cX11_hunt 64 = .ok (.iload 4, 2) := by decide +kernel
theorem dX11_hunt_66 : decode cX11_hunt 66 = .ok (.iastore, 1) := by decide +kernel
theorem dX11_hunt_67 : decode cX11_hunt 67 = .ok (.aload_n 0, 1) := by decide +kernel
theorem dX11_hunt_68 : decode cX11_hunt 68 = .ok (.dup, 1) := by decide +kernel
theorem dX11_hunt_69 : decode cX11_hunt 69 = .ok (.getfield 312, 3) := by decide +kernel
theorem dX11_hunt_72 : decode cX11_hunt 72 = .ok (.iconst 1, 1) := by decide +kernel
theorem dX11_hunt_73 : decode cX11_hunt 73 = .ok (.iadd, 1) := by decide +kernel
theorem dX11_hunt_74 : decode cX11_hunt 74 = .ok (.putfield 312, 3) := by decide +kernel
theorem dX11_hunt_77 : decode cX11_hunt 77 = .ok (.iinc 4 1, 3) := by decide +kernel
theorem dX11_hunt_80 : decode cX11_hunt 80 = .ok (.goto (-41), 3) := by decide +kernel
theorem dX11_hunt_83 : decode cX11_hunt 83 = .ok (.iconst 0, 1) := by decide +kernel
theorem dX11_hunt_84 : decode cX11_hunt 84 = .ok (.istore 4, 2) := by decide +kernel
theorem dX11_hunt_86 : decode cX11_hunt 86 = .ok (.bipush (-2), 2) := by decide +kernel
theorem dX11_hunt_88 : decode cX11_hunt 88 = .ok (.istore 5, 2) := by decide +kernel
theorem dX11_hunt_90 : decode cX11_hunt 90 = .ok (.aload_n 0, 1) := by decide +kernel
theorem dX11_hunt_91 : decode cX11_hunt 91 = .ok (.getfield 312, 3) := by decide +kernel
theorem dX11_hunt_94 : decode cX11_hunt 94 = .ok (.iconst 1, 1) := by decide +kernel
theorem dX11_hunt_95 : decode cX11_hunt 95 = .ok (.if_icmp .le 10, 3) := by decide +kernel
theorem dX11_hunt_98 : decode cX11_hunt 98 = .ok (.aload_n 0, 1) := by decide +kernel
theorem dX11_hunt_99 : decode cX11_hunt 99 = .ok (.invokevirtual 325, 3) := by decide +kernel
theorem dX11_hunt_102 : decode cX11_hunt 102 = .ok (.goto 4, 3) := by decide +kernel
theorem dX11_hunt_105 : decode cX11_hunt 105 = .ok (.iconst (-1), 1) := by decide +kernel
theorem dX11_hunt_106 : decode cX11_hunt 106 = .ok (.istore 6, 2) := by decide +kernel
theorem dX11_hunt_108 : decode cX11_hunt 108 = .ok (.iload 6, 2) := by decide +kernel
theorem dX11_hunt_110 : decode cX11_hunt 110 = .ok (.iconst (-1), 1) := by decide +kernel
theorem dX11_hunt_111 : decode cX11_hunt 111 = .ok (.if_icmp .eq 107, 3) := by decide +kernel
theorem dX11_hunt_114 : decode cX11_hunt 114 = .ok (.iload 4, 2) := by decide +kernel
theorem dX11_hunt_116 : decode cX11_hunt 116 = .ok (.bipush 20, 2) := by decide +kernel
theorem dX11_hunt_118 : decode cX11_hunt 118 = .ok (.if_icmp .ge 100, 3) := by decide +kernel
theorem dX11_hunt_121 : decode cX11_hunt 121 = .ok (.iload_n 1, 1) := by decide +kernel
theorem dX11_hunt_122 : decode cX11_hunt 122 = .ok (.iload 6, 2) := by decide +kernel
theorem dX11_hunt_124 : decode cX11_hunt 124 = .ok (.invokestatic 309, 3) := by decide +kernel
theorem dX11_hunt_127 : decode cX11_hunt 127 = .ok (.istore 7, 2) := by decide +kernel
theorem dX11_hunt_129 : decode cX11_hunt 129 = .ok (.iconst 0, 1) := by decide +kernel
theorem dX11_hunt_130 : decode cX11_hunt 130 = .ok (.istore 8, 2) := by decide +kernel
theorem dX11_hunt_132 : decode cX11_hunt 132 = .ok (.iconst 0, 1) := by decide +kernel
theorem dX11_hunt_133 : decode cX11_hunt 133 = .ok (.istore 9, 2) := by decide +kernel
theorem dX11_hunt_135 : decode cX11_hunt 135 = .ok (.iload 9, 2) := by decide +kernel
theorem dX11_hunt_137 : decode cX11_hunt 137 = .ok (.aload_n 0, 1) := by decide +kernel
theorem dX11_hunt_138 : decode cX11_hunt 138 = .ok (.getfield 312, 3) := by decide +kernel
theorem dX11_hunt_141 : decode cX11_hunt 141 = .ok (.if_icmp .ge 43, 3) := by decide +kernel
theorem dX11_hunt_144 : decode cX11_hunt 144 = .ok (.aload_n 0, 1) := by decide +kernel
theorem dX11_hunt_145 : decode cX11_hunt 145 = .ok (.getfield 94, 3) := by decide +kernel
theorem dX11_hunt_148 : decode cX11_hunt 148 = .ok (.iload 9, 2) := by decide +kernel
theorem dX11_hunt_150 : decode cX11_hunt 150 = .ok (.iaload, 1) := by decide +kernel
theorem dX11_hunt_151 : decode cX11_hunt 151 = .ok (.iload 6, 2) := by decide +kernel
theorem dX11_hunt_153 : decode cX11_hunt 153 = .ok (.invokestatic 309, 3) := by decide +kernel
theorem dX11_hunt_156 : decode cX11_hunt 156 = .ok (.iload 7, 2) := by decide +kernel
theorem dX11_hunt_158 : decode cX11_hunt 158 = .ok (.if_icmp .ne 20, 3) := by decide +kernel
theorem dX11_hunt_161 : decode cX11_hunt 161 = .ok (.aload_n 0, 1) := by decide +kernel
theorem dX11_hunt_162 : decode cX11_hunt 162 = .ok (.getfield 94, 3) := by decide +kernel
theorem dX11_hunt_165 : decode cX11_hunt 165 = .ok (.iload 8, 2) := by decide +kernel
theorem dX11_hunt_167 : decode cX11_hunt 167 = .ok (.aload_n 0, 1) := by decide +kernel
theorem dX11_hunt_168 : decode cX11_hunt 168 = .ok (.getfield 94, 3) := by decide +kernel
theorem dX11_hunt_171 : decode cX11_hunt 171 = .ok (.iload 9, 2) := by decide +kernel
theorem dX11_hunt_173 : decode cX11_hunt 173 = .ok (.iaload, 1) := by decide +kernel
theorem dX11_hunt_174 : decode cX11_hunt 174 = .ok (.iastore, 1) := by decide +kernel
theorem dX11_hunt_175 : decode cX11_hunt 175 = .ok (.iinc 8 1, 3) := by decide +kernel
theorem dX11_hunt_178 : decode cX11_hunt 178 = .ok (.iinc 9 1, 3) := by decide +kernel
theorem dX11_hunt_181 : decode cX11_hunt 181 = .ok (.goto (-46), 3) := by decide +kernel
theorem dX11_hunt_184 : decode cX11_hunt 184 = .ok (.aload_n 0, 1) := by decide +kernel
theorem dX11_hunt_185 : decode cX11_hunt 185 = .ok (.iload 8, 2) := by decide +kernel
theorem dX11_hunt_187 : decode cX11_hunt 187 = .ok (.putfield 312, 3) := by decide +kernel
theorem dX11_hunt_190 : decode cX11_hunt 190 = .ok (.iinc 4 1, 3) := by decide +kernel
theorem dX11_hunt_193 : decode cX11_hunt 193 = .ok (.iload 6, 2) := by decide +kernel
theorem dX11_hunt_195 : decode cX11_hunt 195 = .ok (.istore 5, 2) := by decide +kernel
theorem dX11_hunt_197 : decode cX11_hunt 197 = .ok (.aload_n 0, 1) := by decide +kernel
theorem dX11_hunt_198 : decode cX11_hunt 198 = .ok (.getfield 312, 3) := by decide +kernel
theorem dX11_hunt_201 : decode cX11_hunt 201 = .ok (.iconst 1, 1) := by decide +kernel
theorem dX11_hunt_202 : decode cX11_hunt 202 = .ok (.if_icmp .le 10, 3) := by decide +kernel
theorem dX11_hunt_205 : decode cX11_hunt 205 = .ok (.aload_n 0, 1) := by decide +kernel
theorem dX11_hunt_206 : decode cX11_hunt 206 = .ok (.invokevirtual 325, 3) := by decide +kernel
theorem dX11_hunt_209 : decode cX11_hunt 209 = .ok (.goto 4, 3) := by decide +kernel
theorem dX11_hunt_212 : decode cX11_hunt 212 = .ok (.iconst (-1), 1) := by decide +kernel
theorem dX11_hunt_213 : decode cX11_hunt 213 = .ok (.istore 6, 2) := by decide +kernel
theorem dX11_hunt_215 : decode cX11_hunt 215 = .ok (.goto (-107), 3) := by decide +kernel
theorem dX11_hunt_218 : decode cX11_hunt 218 = .ok (.iconst 0, 1) := by decide +kernel
theorem dX11_hunt_219 : decode cX11_hunt 219 = .ok (.istore 7, 2) := by decide +kernel
theorem dX11_hunt_221 : decode cX11_hunt 221 = .ok (.iconst 0, 1) := by decide +kernel
theorem dX11_hunt_222 : decode cX11_hunt 222 = .ok (.istore 8, 2) := by decide +kernel
theorem dX11_hunt_224 : decode cX11_hunt 224 = .ok (.iload 8, 2) := by decide +kernel
theorem dX11_hunt_226 : decode cX11_hunt 226 = .ok (.aload_n 0, 1) := by decide +kernel
theorem dX11_hunt_227 : decode cX11_hunt 227 = .ok (.getfield 312, 3) := by decide +kernel
theorem dX11_hunt_230 : decode cX11_hunt 230 = .ok (.if_icmp .ge 28, 3) := by decide +kernel
theorem dX11_hunt_233 : decode cX11_hunt 233 = .ok (.aload_n 0, 1) := by decide +kernel
theorem dX11_hunt_234 : decode cX11_hunt 234 = .ok (.getfield 94, 3) := by decide +kernel
theorem dX11_hunt_237 : decode cX11_hunt 237 = .ok (.iload 8, 2) := by decide +kernel
theorem dX11_hunt_239 : decode cX11_hunt 239 = .ok (.iaload, 1) := by decide +kernel
theorem dX11_hunt_240 : decode cX11_hunt 240 = .ok (.iload_n 1, 1) := by decide +kernel
theorem dX11_hunt_241 : decode cX11_hunt 241 = .ok (.if_icmp .ne 7, 3) := by decide +kernel
theorem dX11_hunt_244 : decode cX11_hunt 244 = .ok (.iconst 1, 1) := by decide +kernel
theorem dX11_hunt_245 : decode cX11_hunt 245 = .ok (.goto 5, 3) := by decide +kernel
theorem dX11_hunt_248 : decode cX11_hunt 248 = .ok (.iload 7, 2) := by decide +kernel
theorem dX11_hunt_250 : decode cX11_hunt 250 = .ok (.istore 7, 2) := by decide +kernel
theorem dX11_hunt_252 : decode cX11_hunt 252 = .ok (.iinc 8 1, 3) := by decide +kernel
theorem dX11_hunt_255 : decode cX11_hunt 255 = .ok (.goto (-31), 3) := by decide +kernel
theorem dX11_hunt_258 : decode cX11_hunt 258 = .ok (.iload_n 3, 1) := by decide +kernel
theorem dX11_hunt_259 : decode cX11_hunt 259 = .ok (.ifCond .ne 8, 3) := by decide +kernel
theorem dX11_hunt_262 : decode cX11_hunt 262 = .ok (.iload 4, 2) := by decide +kernel
theorem dX11_hunt_264 : decode cX11_hunt 264 = .ok (.goto 27, 3) := by decide +kernel
theorem dX11_hunt_267 : decode cX11_hunt 267 = .ok (.iload_n 3, 1) := by decide +kernel
theorem dX11_hunt_268 : decode cX11_hunt 268 = .ok (.iconst 1, 1) := by decide +kernel
theorem dX11_hunt_269 : decode cX11_hunt 269 = .ok (.if_icmp .ne 10, 3) := by decide +kernel
theorem dX11_hunt_272 : decode cX11_hunt 272 = .ok (.aload_n 0, 1) := by decide +kernel
theorem dX11_hunt_273 : decode cX11_hunt 273 = .ok (.getfield 312, 3) := by decide +kernel
theorem dX11_hunt_276 : decode cX11_hunt 276 = .ok (.goto 15, 3) := by decide +kernel
theorem dX11_hunt_279 : decode cX11_hunt 279 = .ok (.iload_n 3, 1) := by decide +kernel
theorem dX11_hunt_280 : decode cX11_hunt 280 = .ok (.iconst 2, 1) := by decide +kernel
theorem dX11_hunt_281 : decode cX11_hunt 281 = .ok (.if_icmp .ne 8, 3) := by decide +kernel
theorem dX11_hunt_284 : decode cX11_hunt 284 = .ok (.iload 7, 2) := by decide +kernel
theorem dX11_hunt_286 : decode cX11_hunt 286 = .ok (.goto 5, 3) := by decide +kernel
theorem dX11_hunt_289 : decode cX11_hunt 289 = .ok (.iload 5, 2) := by decide +kernel
theorem dX11_hunt_291 : decode cX11_hunt 291 = .ok (.ireturn, 1) := by decide +kernel
set_option maxRecDepth 20000 in
theorem ggX11_isTape_X11_in : GoodIn wsX11_isTape wsX11_in := goodIn_r _ [4] (by decide +kernel) (by decide +kernel)
set_option maxRecDepth 20000 in
theorem gX11_isTape_X11_in : GoodIn wsX11_isTape (va_wsS RX11 147 yX11_in wsX11_in) := goodIn_app (goodIn_of _ (by decide +kernel)) ggX11_isTape_X11_in
theorem dX11_isTape_0 : decode cX11_isTape 0 = .ok (.iload_n 0, 1) := by decide +kernel
theorem dX11_isTape_1 : decode cX11_isTape 1 = .ok (.iconst 0, 1) := by decide +kernel
theorem dX11_isTape_2 : decode cX11_isTape 2 = .ok (.iconst 5, 1) := by decide +kernel
theorem dX11_isTape_3 : decode cX11_isTape 3 = .ok (.invokestatic 147, 3) := by decide +kernel
theorem dX11_isTape_6 : decode cX11_isTape 6 = .ok (.ireturn, 1) := by decide +kernel
theorem dX11_clears_0 : decode cX11_clears 0 = .ok (.aload_n 0, 1) := by decide +kernel
theorem dX11_clears_1 : decode cX11_clears 1 = .ok (.getfield 66, 3) := by decide +kernel
theorem dX11_clears_4 : decode cX11_clears 4 = .ok (.iload_n 1, 1) := by decide +kernel
theorem dX11_clears_5 : decode cX11_clears 5 = .ok (.iload_n 2, 1) := by decide +kernel
theorem dX11_clears_6 : decode cX11_clears 6 = .ok (.iastore, 1) := by decide +kernel
theorem dX11_clears_7 : decode cX11_clears 7 = .ok (.aload_n 0, 1) := by decide +kernel
theorem dX11_clears_8 : decode cX11_clears 8 = .ok (.getfield 69, 3) := by decide +kernel
theorem dX11_clears_11 : decode cX11_clears 11 = .ok (.iload_n 1, 1) := by decide +kernel
theorem dX11_clears_12 : decode cX11_clears 12 = .ok (.iload_n 3, 1) := by decide +kernel
theorem dX11_clears_13 : decode cX11_clears 13 = .ok (.iastore, 1) := by decide +kernel
theorem dX11_clears_14 : decode cX11_clears 14 = .ok (.iconst 0, 1) := by decide +kernel
theorem dX11_clears_15 : decode cX11_clears 15 = .ok (.istore 4, 2) := by decide +kernel
theorem dX11_clears_17 : decode cX11_clears 17 = .ok (.iload 4, 2) := by decide +kernel
theorem dX11_clears_19 : decode cX11_clears 19 = .ok (.sipush 400, 3) := by decide +kernel
theorem dX11_clears_22 : decode cX11_clears 22 = .ok (.if_icmp .ge 23, 3) := by decide +kernel
theorem dX11_clears_25 : decode cX11_clears 25 = .ok (.aload_n 0, 1) := by decide +kernel
theorem dX11_clears_26 : decode cX11_clears 26 = .ok (.getfield 72, 3) := by decide +kernel
theorem dX11_clears_29 : decode cX11_clears 29 = .ok (.sipush 400, 3) := by decide +kernel
theorem dX11_clears_32 : decode cX11_clears 32 = .ok (.iload_n 1, 1) := by decide +kernel
theorem dX11_clears_33 : decode cX11_clears 33 = .ok (.imul, 1) := by decide +kernel
theorem dX11_clears_34 : decode cX11_clears 34 = .ok (.iload 4, 2) := by decide +kernel
theorem dX11_clears_36 : decode cX11_clears 36 = .ok (.iadd, 1) := by decide +kernel
theorem dX11_clears_37 : decode cX11_clears 37 = .ok (.lconst 0, 1) := by decide +kernel
theorem dX11_clears_38 : decode cX11_clears 38 = .ok (.lastore, 1) := by decide +kernel
theorem dX11_clears_39 : decode cX11_clears 39 = .ok (.iinc 4 1, 3) := by decide +kernel
theorem dX11_clears_42 : decode cX11_clears 42 = .ok (.goto (-25), 3) := by decide +kernel
theorem dX11_clears_45 : decode cX11_clears 45 = .ok (.return_, 1) := by decide +kernel
set_option maxRecDepth 20000 in
theorem ggX11_tape_X11_isTape : GoodIn wsX11_tape wsX11_isTape := goodIn_r _ [4, 5, 6, 3, 7] (by decide +kernel) (by decide +kernel)
set_option maxRecDepth 20000 in
theorem gX11_tape_X11_isTape : GoodIn wsX11_tape (va_wsS RX11 183 yX11_isTape wsX11_isTape) := goodIn_app (goodIn_of _ (by decide +kernel)) ggX11_tape_X11_isTape
set_option maxRecDepth 20000 in
theorem ggX11_tape_X11_in : GoodIn wsX11_tape wsX11_in := goodIn_r _ [7] (by decide +kernel) (by decide +kernel)
set_option maxRecDepth 20000 in
theorem gX11_tape_X11_in : GoodIn wsX11_tape (va_wsS RX11 147 yX11_in wsX11_in) := goodIn_app (goodIn_of _ (by decide +kernel)) ggX11_tape_X11_in
set_option maxRecDepth 20000 in
theorem ggX11_tape_X11_refuse : GoodIn wsX11_tape wsX11_refuse := goodIn_r _ [11, 12, 20, 21, 22, 23, 24, 25, 26, 27, 28, 29, 30, 31, 32, 33, 34, 35, 36, 37, 38, 39, 40, 41, 42, 43, 44, 45, 46, 47, 48, 49, 50, 51, 52, 53, 54, 55, 56, 57, 58, 59, 60, 61, 62, 63, 64, 65, 66, 67, 68, 69, 70, 71, 72, 73, 74, 75, 76, 77, 78, 79, 80, 81] (by decide +kernel) (by decide +kernel)
set_option maxRecDepth 20000 in
theorem gX11_tape_X11_refuse : GoodIn wsX11_tape (wsV RX11 186 RX11 yX11_refuse wsX11_refuse) := goodIn_app (goodIn_of _ (by decide +kernel)) ggX11_tape_X11_refuse
set_option maxRecDepth 20000 in
theorem ggX11_tape_X11_clears : GoodIn wsX11_tape wsX11_clears := goodIn_r _ [16, 17, 18, 19, 20, 21, 22, 23, 24, 25, 26, 27, 28, 29, 30, 31, 32, 33, 34, 35, 36, 37, 38, 39, 40, 41, 42, 43, 44, 45, 46, 47, 48, 49, 50, 51, 52, 53, 54, 55, 56, 57, 58, 59, 60, 61, 62, 63, 64, 65, 66, 67, 68, 69, 70, 71, 72, 73, 74, 75, 76, 77, 78, 79, 80, 81] (by decide +kernel) (by decide +kernel)
set_option maxRecDepth 20000 in
theorem gX11_tape_X11_clears : GoodIn wsX11_tape (wsV RX11 244 RX11 yX11_clears wsX11_clears) := goodIn_app (goodIn_of _ (by decide +kernel)) ggX11_tape_X11_clears
theorem dX11_tape_0 : decode cX11_tape 0 = .ok (.iload_n 1, 1) := by decide +kernel
theorem dX11_tape_1 : decode cX11_tape 1 = .ok (.invokestatic 183, 3) := by decide +kernel
theorem dX11_tape_4 : decode cX11_tape 4 = .ok (.ifCond .eq 19, 3) := by decide +kernel
theorem dX11_tape_7 : decode cX11_tape 7 = .ok (.iload_n 2, 1) := by decide +kernel
theorem dX11_tape_8 : decode cX11_tape 8 = .ok (.iconst 1, 1) := by decide +kernel
theorem dX11_tape_9 : decode cX11_tape 9 = .ok (.iconst 4, 1) := by decide +kernel
theorem dX11_tape_10 : decode cX11_tape 10 = .ok (.invokestatic 147, 3) := by decide +kernel
theorem dX11_tape_13 : decode cX11_tape 13 = .ok (.ifCond .eq 10, 3) := by decide +kernel
theorem dX11_tape_16 : decode cX11_tape 16 = .ok (.iload_n 3, 1) := by decide +kernel
theorem dX11_tape_17 : decode cX11_tape 17 = .ok (.sipush 400, 3) := by decide +kernel
theorem dX11_tape_20 : decode cX11_tape 20 = .ok (.if_icmp .le 5, 3) := by decide +kernel
theorem dX11_tape_23 : decode cX11_tape 23 = .ok (.iconst (-1), 1) := by decide +kernel
theorem dX11_tape_24 : decode cX11_tape 24 = .ok (.ireturn, 1) := by decide +kernel
theorem dX11_tape_25 : decode cX11_tape 25 = .ok (.iload_n 3, 1) := by decide +kernel
theorem dX11_tape_26 : decode cX11_tape 26 = .ok (.ifCond .ge 10, 3) := by decide +kernel
theorem dX11_tape_29 : decode cX11_tape 29 = .ok (.aload_n 0, 1) := by decide +kernel
theorem dX11_tape_30 : decode cX11_tape 30 = .ok (.bipush (-14), 2) := by decide +kernel
theorem dX11_tape_32 : decode cX11_tape 32 = .ok (.invokevirtual 186, 3) := by decide +kernel
theorem dX11_tape_35 : decode cX11_tape 35 = .ok (.ireturn, 1) := by decide +kernel
theorem dX11_tape_36 : decode cX11_tape 36 = .ok (.aload_n 0, 1) := by decide +kernel
theorem dX11_tape_37 : decode cX11_tape 37 = .ok (.iload_n 1, 1) := by decide +kernel
theorem dX11_tape_38 : decode cX11_tape 38 = .ok (.iload_n 2, 1) := by decide +kernel
theorem dX11_tape_39 : decode cX11_tape 39 = .ok (.iload_n 3, 1) := by decide +kernel
theorem dX11_tape_40 : decode cX11_tape 40 = .ok (.invokevirtual 244, 3) := by decide +kernel
theorem dX11_tape_43 : decode cX11_tape 43 = .ok (.iload_n 3, 1) := by decide +kernel
theorem dX11_tape_44 : decode cX11_tape 44 = .ok (.ireturn, 1) := by decide +kernel
set_option maxRecDepth 20000 in
theorem ggX11_keep_X11_isTape : GoodIn wsX11_keep wsX11_isTape := goodIn_r _ [6, 7, 8, 5, 9] (by decide +kernel) (by decide +kernel)
set_option maxRecDepth 20000 in
theorem gX11_keep_X11_isTape : GoodIn wsX11_keep (va_wsS RX11 183 yX11_isTape wsX11_isTape) := goodIn_app (goodIn_of _ (by decide +kernel)) ggX11_keep_X11_isTape
set_option maxRecDepth 20000 in
theorem ggX11_keep_X11_copies : GoodIn wsX11_keep wsX11_copies := goodIn_r _ [13, 1, 14, 15, 16, 17, 18, 19, 20, 21, 22, 23, 24, 25, 26, 27, 28, 29, 30, 31, 32, 33, 34, 35, 36, 37, 38, 39, 40, 41, 42, 43, 44, 45, 46, 47, 48, 49, 50, 51, 52, 53, 54, 55, 56, 57, 58, 59, 60, 61, 62, 63, 64, 65, 66, 67, 68, 69, 70, 71, 72, 73, 74, 75, 76, 77] (by decide +kernel) (by decide +kernel)
set_option maxRecDepth 20000 in
theorem gX11_keep_X11_copies : GoodIn wsX11_keep (wsV RX11 222 RX11 yX11_copies wsX11_copies) := goodIn_app (goodIn_of _ (by decide +kernel)) ggX11_keep_X11_copies
theorem dX11_keep_0 : decode cX11_keep 0 = .ok (.iload_n 1, 1) := by decide +kernel
theorem dX11_keep_1 : decode cX11_keep 1 = .ok (.invokestatic 183, 3) := by decide +kernel
theorem dX11_keep_4 : decode cX11_keep 4 = .ok (.ifCond .ne 5, 3) := by decide +kernel
theorem dX11_keep_7 : decode cX11_keep 7 = .ok (.iconst (-1), 1) := by decide +kernel
theorem dX11_keep_8 : decode cX11_keep 8 = .ok (.ireturn, 1) := by decide +kernel
theorem dX11_keep_9 : decode cX11_keep 9 = .ok (.aload_n 0, 1) := by decide +kernel
theorem dX11_keep_10 : decode cX11_keep 10 = .ok (.getfield 16, 3) := by decide +kernel
theorem dX11_keep_13 : decode cX11_keep 13 = .ok (.bipush 14, 2) := by decide +kernel
theorem dX11_keep_15 : decode cX11_keep 15 = .ok (.iaload, 1) := by decide +kernel
theorem dX11_keep_16 : decode cX11_keep 16 = .ok (.ifCond .ne 6, 3) := by decide +kernel
theorem dX11_keep_19 : decode cX11_keep 19 = .ok (.bipush (-3), 2) := by decide +kernel
theorem dX11_keep_21 : decode cX11_keep 21 = .ok (.ireturn, 1) := by decide +kernel
theorem dX11_keep_22 : decode cX11_keep 22 = .ok (.aload_n 0, 1) := by decide +kernel
theorem dX11_keep_23 : decode cX11_keep 23 = .ok (.getfield 66, 3) := by decide +kernel
theorem dX11_keep_26 : decode cX11_keep 26 = .ok (.iload_n 1, 1) := by decide +kernel
theorem dX11_keep_27 : decode cX11_keep 27 = .ok (.iconst 5, 1) := by decide +kernel
theorem dX11_keep_28 : decode cX11_keep 28 = .ok (.iastore, 1) := by decide +kernel
theorem dX11_keep_29 : decode cX11_keep 29 = .ok (.aload_n 0, 1) := by decide +kernel
theorem dX11_keep_30 : decode cX11_keep 30 = .ok (.bipush 14, 2) := by decide +kernel
theorem dX11_keep_32 : decode cX11_keep 32 = .ok (.bipush 8, 2) := by decide +kernel
theorem dX11_keep_34 : decode cX11_keep 34 = .ok (.iload_n 1, 1) := by decide +kernel
theorem dX11_keep_35 : decode cX11_keep 35 = .ok (.iadd, 1) := by decide +kernel
theorem dX11_keep_36 : decode cX11_keep 36 = .ok (.invokevirtual 222, 3) := by decide +kernel
theorem dX11_keep_39 : decode cX11_keep 39 = .ok (.aload_n 0, 1) := by decide +kernel
theorem dX11_keep_40 : decode cX11_keep 40 = .ok (.getfield 16, 3) := by decide +kernel
theorem dX11_keep_43 : decode cX11_keep 43 = .ok (.bipush 14, 2) := by decide +kernel
theorem dX11_keep_45 : decode cX11_keep 45 = .ok (.iaload, 1) := by decide +kernel
theorem dX11_keep_46 : decode cX11_keep 46 = .ok (.ireturn, 1) := by decide +kernel
set_option maxRecDepth 20000 in
theorem ggX11_lacks_X11_isTape : GoodIn wsX11_lacks wsX11_isTape := goodIn_r _ [5, 6, 7, 4, 8] (by decide +kernel) (by decide +kernel)
set_option maxRecDepth 20000 in
theorem gX11_lacks_X11_isTape : GoodIn wsX11_lacks (va_wsS RX11 183 yX11_isTape wsX11_isTape) := goodIn_app (goodIn_of _ (by decide +kernel)) ggX11_lacks_X11_isTape
set_option maxRecDepth 20000 in
theorem ggX11_lacks_X11_refuse : GoodIn wsX11_lacks wsX11_refuse := goodIn_r _ [12, 13, 14, 15, 16, 17, 18, 19, 20, 21, 22, 23, 24, 25, 26, 27, 28, 29, 30, 31, 32, 33, 34, 35, 36, 37, 38, 39, 40, 41, 42, 43, 44, 45, 46, 47, 48, 49, 50, 51, 52, 53, 54, 55, 56, 57, 58, 59, 60, 61, 62, 63, 64, 65, 66, 67, 68, 69, 70, 71, 72, 73, 74, 75] (by decide +kernel) (by decide +kernel)
set_option maxRecDepth 20000 in
theorem gX11_lacks_X11_refuse : GoodIn wsX11_lacks (wsV RX11 186 RX11 yX11_refuse wsX11_refuse) := goodIn_app (goodIn_of _ (by decide +kernel)) ggX11_lacks_X11_refuse
theorem dX11_lacks_0 : decode cX11_lacks 0 = .ok (.iload_n 1, 1) := by decide +kernel
theorem dX11_lacks_1 : decode cX11_lacks 1 = .ok (.invokestatic 183, 3) := by decide +kernel
theorem dX11_lacks_4 : decode cX11_lacks 4 = .ok (.ifCond .ne 7, 3) := by decide +kernel
theorem dX11_lacks_7 : decode cX11_lacks 7 = .ok (.iconst (-1), 1) := by decide +kernel
theorem dX11_lacks_8 : decode cX11_lacks 8 = .ok (.goto 41, 3) := by decide +kernel
theorem dX11_lacks_11 : decode cX11_lacks 11 = .ok (.aload_n 0, 1) := by decide +kernel
theorem dX11_lacks_12 : decode cX11_lacks 12 = .ok (.getfield 66, 3) := by decide +kernel
theorem dX11_lacks_15 : decode cX11_lacks 15 = .ok (.iload_n 1, 1) := by decide +kernel
theorem dX11_lacks_16 : decode cX11_lacks 16 = .ok (.iaload, 1) := by decide +kernel
theorem dX11_lacks_17 : decode cX11_lacks 17 = .ok (.ifCond .ne 12, 3) := by decide +kernel
theorem dX11_lacks_20 : decode cX11_lacks 20 = .ok (.aload_n 0, 1) := by decide +kernel
theorem dX11_lacks_21 : decode cX11_lacks 21 = .ok (.bipush (-11), 2) := by decide +kernel
theorem dX11_lacks_23 : decode cX11_lacks 23 = .ok (.invokevirtual 186, 3) := by decide +kernel
theorem dX11_lacks_26 : decode cX11_lacks 26 = .ok (.goto 23, 3) := by decide +kernel
theorem dX11_lacks_29 : decode cX11_lacks 29 = .ok (.aload_n 0, 1) := by decide +kernel
theorem dX11_lacks_30 : decode cX11_lacks 30 = .ok (.getfield 66, 3) := by decide +kernel
theorem dX11_lacks_33 : decode cX11_lacks 33 = .ok (.iload_n 1, 1) := by decide +kernel
theorem dX11_lacks_34 : decode cX11_lacks 34 = .ok (.iaload, 1) := by decide +kernel
theorem dX11_lacks_35 : decode cX11_lacks 35 = .ok (.iconst 5, 1) := by decide +kernel
theorem dX11_lacks_36 : decode cX11_lacks 36 = .ok (.if_icmp .eq 12, 3) := by decide +kernel
theorem dX11_lacks_39 : decode cX11_lacks 39 = .ok (.aload_n 0, 1) := by decide +kernel
theorem dX11_lacks_40 : decode cX11_lacks 40 = .ok (.bipush (-12), 2) := by decide +kernel
theorem dX11_lacks_42 : decode cX11_lacks 42 = .ok (.invokevirtual 186, 3) := by decide +kernel
theorem dX11_lacks_45 : decode cX11_lacks 45 = .ok (.goto 4, 3) := by decide +kernel
theorem dX11_lacks_48 : decode cX11_lacks 48 = .ok (.iconst 0, 1) := by decide +kernel
theorem dX11_lacks_49 : decode cX11_lacks 49 = .ok (.ireturn, 1) := by decide +kernel
set_option maxRecDepth 20000 in
theorem ggX11_back_X11_lacks : GoodIn wsX11_back wsX11_lacks := goodIn_r _ [6, 7, 8, 9, 5, 10, 11, 12, 13, 14, 15, 16, 17, 18, 25, 26, 27, 28, 29, 30, 31, 32, 33, 34, 35, 36, 37, 38, 39, 40, 41, 42, 43, 44, 45, 46, 47, 48, 49, 50, 51, 52, 53, 54, 55, 56, 57, 58, 59, 60, 61, 62, 63, 64, 65, 66, 67, 68, 69, 70, 71, 72, 73, 74, 75, 76, 77, 78, 79, 80, 81, 82, 83, 84, 85, 86] (by decide +kernel) (by decide +kernel)
set_option maxRecDepth 20000 in
theorem gX11_back_X11_lacks : GoodIn wsX11_back (wsV RX11 329 RX11 yX11_lacks wsX11_lacks) := goodIn_app (goodIn_of _ (by decide +kernel)) ggX11_back_X11_lacks
set_option maxRecDepth 20000 in
theorem ggX11_back_X11_copies : GoodIn wsX11_back wsX11_copies := goodIn_r _ [22, 1, 23, 24, 25, 26, 27, 28, 29, 30, 31, 32, 33, 34, 35, 36, 37, 38, 39, 40, 41, 42, 43, 44, 45, 46, 47, 48, 49, 50, 51, 52, 53, 54, 55, 56, 57, 58, 59, 60, 61, 62, 63, 64, 65, 66, 67, 68, 69, 70, 71, 72, 73, 74, 75, 76, 77, 78, 79, 80, 81, 82, 83, 84, 85, 86] (by decide +kernel) (by decide +kernel)
set_option maxRecDepth 20000 in
theorem gX11_back_X11_copies : GoodIn wsX11_back (wsV RX11 222 RX11 yX11_copies wsX11_copies) := goodIn_app (goodIn_of _ (by decide +kernel)) ggX11_back_X11_copies
theorem dX11_back_0 : decode cX11_back 0 = .ok (.aload_n 0, 1) := by decide +kernel
theorem dX11_back_1 : decode cX11_back 1 = .ok (.iload_n 1, 1) := by decide +kernel
theorem dX11_back_2 : decode cX11_back 2 = .ok (.invokevirtual 329, 3) := by decide +kernel
theorem dX11_back_5 : decode cX11_back 5 = .ok (.istore_n 2, 1) := by decide +kernel
theorem dX11_back_6 : decode cX11_back 6 = .ok (.iload_n 2, 1) := by decide +kernel
theorem dX11_back_7 : decode cX11_back 7 = .ok (.ifCond .eq 5, 3) := by decide +kernel
theorem dX11_back_10 : decode cX11_back 10 = .ok (.iload_n 2, 1) := by decide +kernel
theorem dX11_back_11 : decode cX11_back 11 = .ok (.ireturn, 1) := by decide +kernel
theorem dX11_back_12 : decode cX11_back 12 = .ok (.aload_n 0, 1) := by decide +kernel
theorem dX11_back_13 : decode cX11_back 13 = .ok (.bipush 8, 2) := by decide +kernel
theorem dX11_back_15 : decode cX11_back 15 = .ok (.iload_n 1, 1) := by decide +kernel
theorem dX11_back_16 : decode cX11_back 16 = .ok (.iadd, 1) := by decide +kernel
theorem dX11_back_17 : decode cX11_back 17 = .ok (.bipush 14, 2) := by decide +kernel
theorem dX11_back_19 : decode cX11_back 19 = .ok (.invokevirtual 222, 3) := by decide +kernel
theorem dX11_back_22 : decode cX11_back 22 = .ok (.aload_n 0, 1) := by decide +kernel
theorem dX11_back_23 : decode cX11_back 23 = .ok (.getfield 16, 3) := by decide +kernel
theorem dX11_back_26 : decode cX11_back 26 = .ok (.bipush 14, 2) := by decide +kernel
theorem dX11_back_28 : decode cX11_back 28 = .ok (.iaload, 1) := by decide +kernel
theorem dX11_back_29 : decode cX11_back 29 = .ok (.ireturn, 1) := by decide +kernel
set_option maxRecDepth 20000 in
theorem ggX11_toss_X11_lacks : GoodIn wsX11_toss wsX11_lacks := goodIn_r _ [5, 6, 7, 8, 4, 9, 10, 11, 12, 13, 14, 15, 16, 17, 27, 28, 29, 30, 31, 32, 33, 34, 35, 36, 37, 38, 39, 40, 41, 42, 43, 44, 45, 46, 47, 48, 49, 50, 51, 52, 53, 54, 55, 56, 57, 58, 59, 60, 61, 62, 63, 64, 65, 66, 67, 68, 69, 70, 71, 72, 73, 74, 75, 76, 77, 78, 79, 80, 81, 82, 83, 84, 85, 86, 87, 88] (by decide +kernel) (by decide +kernel)
set_option maxRecDepth 20000 in
theorem gX11_toss_X11_lacks : GoodIn wsX11_toss (wsV RX11 329 RX11 yX11_lacks wsX11_lacks) := goodIn_app (goodIn_of _ (by decide +kernel)) ggX11_toss_X11_lacks
set_option maxRecDepth 20000 in
theorem ggX11_toss_X11_steepOf : GoodIn wsX11_toss wsX11_steepOf := goodIn_r _ [21, 22, 23, 24, 25, 4, 26, 27, 28, 29, 30, 31, 32, 33, 34, 35, 36, 37, 38, 39, 40, 41, 42, 43, 44, 45, 46, 47, 48, 49, 50, 51, 52, 53, 54, 55, 56, 57, 58, 59, 60, 61, 62, 63, 64, 65, 66, 67, 68, 69, 70, 71, 72, 73, 74, 75, 76, 77, 78, 79, 80, 81, 82, 83, 84, 85, 86, 87, 88] (by decide +kernel) (by decide +kernel)
set_option maxRecDepth 20000 in
theorem gX11_toss_X11_steepOf : GoodIn wsX11_toss (wsV RX11 215 RX11 yX11_steepOf wsX11_steepOf) := goodIn_app (goodIn_of _ (by decide +kernel)) ggX11_toss_X11_steepOf
set_option maxRecDepth 20000 in
theorem ggX11_toss_X11_refuse : GoodIn wsX11_toss wsX11_refuse := goodIn_r _ [16, 17, 27, 28, 29, 30, 31, 32, 33, 34, 35, 36, 37, 38, 39, 40, 41, 42, 43, 44, 45, 46, 47, 48, 49, 50, 51, 52, 53, 54, 55, 56, 57, 58, 59, 60, 61, 62, 63, 64, 65, 66, 67, 68, 69, 70, 71, 72, 73, 74, 75, 76, 77, 78, 79, 80, 81, 82, 83, 84, 85, 86, 87, 88] (by decide +kernel) (by decide +kernel)
set_option maxRecDepth 20000 in
theorem gX11_toss_X11_refuse : GoodIn wsX11_toss (wsV RX11 186 RX11 yX11_refuse wsX11_refuse) := goodIn_app (goodIn_of _ (by decide +kernel)) ggX11_toss_X11_refuse
theorem dX11_toss_0 : decode cX11_toss 0 = .ok (.aload_n 0, 1) := by decide +kernel
theorem dX11_toss_1 : decode cX11_toss 1 = .ok (.iload_n 1, 1) := by decide +kernel
theorem dX11_toss_2 : decode cX11_toss 2 = .ok (.invokevirtual 329, 3) := by decide +kernel
theorem dX11_toss_5 : decode cX11_toss 5 = .ok (.istore_n 2, 1) := by decide +kernel
theorem dX11_toss_6 : decode cX11_toss 6 = .ok (.iload_n 2, 1) := by decide +kernel
theorem dX11_toss_7 : decode cX11_toss 7 = .ok (.ifCond .eq 5, 3) := by decide +kernel
theorem dX11_toss_10 : decode cX11_toss 10 = .ok (.iload_n 2, 1) := by decide +kernel
theorem dX11_toss_11 : decode cX11_toss 11 = .ok (.ireturn, 1) := by decide +kernel
theorem dX11_toss_12 : decode cX11_toss 12 = .ok (.aload_n 0, 1) := by decide +kernel
theorem dX11_toss_13 : decode cX11_toss 13 = .ok (.bipush 8, 2) := by decide +kernel
theorem dX11_toss_15 : decode cX11_toss 15 = .ok (.iload_n 1, 1) := by decide +kernel
theorem dX11_toss_16 : decode cX11_toss 16 = .ok (.iadd, 1) := by decide +kernel
theorem dX11_toss_17 : decode cX11_toss 17 = .ok (.invokevirtual 215, 3) := by decide +kernel
theorem dX11_toss_20 : decode cX11_toss 20 = .ok (.istore_n 3, 1) := by decide +kernel
theorem dX11_toss_21 : decode cX11_toss 21 = .ok (.iload_n 3, 1) := by decide +kernel
theorem dX11_toss_22 : decode cX11_toss 22 = .ok (.ifCond .ne 12, 3) := by decide +kernel
theorem dX11_toss_25 : decode cX11_toss 25 = .ok (.aload_n 0, 1) := by decide +kernel
theorem dX11_toss_26 : decode cX11_toss 26 = .ok (.bipush (-15), 2) := by decide +kernel
theorem dX11_toss_28 : decode cX11_toss 28 = .ok (.invokevirtual 186, 3) := by decide +kernel
theorem dX11_toss_31 : decode cX11_toss 31 = .ok (.goto 4, 3) := by decide +kernel
theorem dX11_toss_34 : decode cX11_toss 34 = .ok (.iload_n 3, 1) := by decide +kernel
theorem dX11_toss_35 : decode cX11_toss 35 = .ok (.ireturn, 1) := by decide +kernel
set_option maxRecDepth 20000 in
theorem ggX11_clear_X11_isTape : GoodIn wsX11_clear wsX11_isTape := goodIn_r _ [5, 6, 7, 4, 8] (by decide +kernel) (by decide +kernel)
set_option maxRecDepth 20000 in
theorem gX11_clear_X11_isTape : GoodIn wsX11_clear (va_wsS RX11 183 yX11_isTape wsX11_isTape) := goodIn_app (goodIn_of _ (by decide +kernel)) ggX11_clear_X11_isTape
theorem dX11_clear_0 : decode cX11_clear 0 = .ok (.iload_n 1, 1) := by decide +kernel
theorem dX11_clear_1 : decode cX11_clear 1 = .ok (.invokestatic 183, 3) := by decide +kernel
theorem dX11_clear_4 : decode cX11_clear 4 = .ok (.ifCond .ne 5, 3) := by decide +kernel
theorem dX11_clear_7 : decode cX11_clear 7 = .ok (.iconst (-1), 1) := by decide +kernel
theorem dX11_clear_8 : decode cX11_clear 8 = .ok (.ireturn, 1) := by decide +kernel
theorem dX11_clear_9 : decode cX11_clear 9 = .ok (.aload_n 0, 1) := by decide +kernel
theorem dX11_clear_10 : decode cX11_clear 10 = .ok (.getfield 66, 3) := by decide +kernel
theorem dX11_clear_13 : decode cX11_clear 13 = .ok (.iload_n 1, 1) := by decide +kernel
theorem dX11_clear_14 : decode cX11_clear 14 = .ok (.iaload, 1) := by decide +kernel
theorem dX11_clear_15 : decode cX11_clear 15 = .ok (.istore_n 2, 1) := by decide +kernel
theorem dX11_clear_16 : decode cX11_clear 16 = .ok (.aload_n 0, 1) := by decide +kernel
theorem dX11_clear_17 : decode cX11_clear 17 = .ok (.getfield 66, 3) := by decide +kernel
theorem dX11_clear_20 : decode cX11_clear 20 = .ok (.iload_n 1, 1) := by decide +kernel
theorem dX11_clear_21 : decode cX11_clear 21 = .ok (.iconst 0, 1) := by decide +kernel
theorem dX11_clear_22 : decode cX11_clear 22 = .ok (.iastore, 1) := by decide +kernel
theorem dX11_clear_23 : decode cX11_clear 23 = .ok (.iload_n 2, 1) := by decide +kernel
theorem dX11_clear_24 : decode cX11_clear 24 = .ok (.ireturn, 1) := by decide +kernel
theorem dX11_narrowed_0 : decode cX11_narrowed 0 = .ok (.iload_n 0, 1) := by decide +kernel
theorem dX11_narrowed_1 : decode cX11_narrowed 1 = .ok (.iconst 1, 1) := by decide +kernel
theorem dX11_narrowed_2 : decode cX11_narrowed 2 = .ok (.if_icmp .ne 10, 3) := by decide +kernel
theorem dX11_narrowed_5 : decode cX11_narrowed 5 = .ok (.lload_n 1, 1) := by decide +kernel
theorem dX11_narrowed_6 : decode cX11_narrowed 6 = .ok (.l2i, 1) := by decide +kernel
theorem dX11_narrowed_7 : decode cX11_narrowed 7 = .ok (.i2b, 1) := by decide +kernel
theorem dX11_narrowed_8 : decode cX11_narrowed 8 = .ok (.i2l, 1) := by decide +kernel
theorem dX11_narrowed_9 : decode cX11_narrowed 9 = .ok (.goto 27, 3) := by decide +kernel
theorem dX11_narrowed_12 : decode cX11_narrowed 12 = .ok (.iload_n 0, 1) := by decide +kernel
theorem dX11_narrowed_13 : decode cX11_narrowed 13 = .ok (.iconst 2, 1) := by decide +kernel
theorem dX11_narrowed_14 : decode cX11_narrowed 14 = .ok (.if_icmp .ne 10, 3) := by decide +kernel
theorem dX11_narrowed_17 : decode cX11_narrowed 17 = .ok (.lload_n 1, 1) := by decide +kernel
theorem dX11_narrowed_18 : decode cX11_narrowed 18 = .ok (.l2i, 1) := by decide +kernel
theorem dX11_narrowed_19 : decode cX11_narrowed 19 = .ok (.i2s, 1) := by decide +kernel
theorem dX11_narrowed_20 : decode cX11_narrowed 20 = .ok (.i2l, 1) := by decide +kernel
theorem dX11_narrowed_21 : decode cX11_narrowed 21 = .ok (.goto 15, 3) := by decide +kernel
theorem dX11_narrowed_24 : decode cX11_narrowed 24 = .ok (.iload_n 0, 1) := by decide +kernel
theorem dX11_narrowed_25 : decode cX11_narrowed 25 = .ok (.iconst 3, 1) := by decide +kernel
theorem dX11_narrowed_26 : decode cX11_narrowed 26 = .ok (.if_icmp .ne 9, 3) := by decide +kernel
theorem dX11_narrowed_29 : decode cX11_narrowed 29 = .ok (.lload_n 1, 1) := by decide +kernel
theorem dX11_narrowed_30 : decode cX11_narrowed 30 = .ok (.l2i, 1) := by decide +kernel
theorem dX11_narrowed_31 : decode cX11_narrowed 31 = .ok (.i2l, 1) := by decide +kernel
theorem dX11_narrowed_32 : decode cX11_narrowed 32 = .ok (.goto 4, 3) := by decide +kernel
theorem dX11_narrowed_35 : decode cX11_narrowed 35 = .ok (.lload_n 1, 1) := by decide +kernel
theorem dX11_narrowed_36 : decode cX11_narrowed 36 = .ok (.lreturn, 1) := by decide +kernel
set_option maxRecDepth 20000 in
theorem ggX11_put_X11_isTape : GoodIn wsX11_put wsX11_isTape := goodIn_r _ [7, 8, 9, 6, 10] (by decide +kernel) (by decide +kernel)
set_option maxRecDepth 20000 in
theorem gX11_put_X11_isTape : GoodIn wsX11_put (va_wsS RX11 183 yX11_isTape wsX11_isTape) := goodIn_app (goodIn_of _ (by decide +kernel)) ggX11_put_X11_isTape
set_option maxRecDepth 20000 in
theorem ggX11_put_X11_refuse : GoodIn wsX11_put wsX11_refuse := goodIn_r _ [14, 15, 19, 20, 21, 22, 23, 24, 25, 26, 27, 28, 29, 30, 31, 32, 33, 34, 35, 36, 37, 38, 39, 40, 41, 42, 43, 44, 45, 46, 47, 48, 49, 50, 51, 52, 53, 54, 55, 56, 57, 58, 59, 60, 61, 62, 63, 64, 65, 66, 67, 68, 69, 70, 71, 72, 73, 74, 75, 76, 77, 78, 79, 80] (by decide +kernel) (by decide +kernel)
set_option maxRecDepth 20000 in
theorem gX11_put_X11_refuse : GoodIn wsX11_put (wsV RX11 186 RX11 yX11_refuse wsX11_refuse) := goodIn_app (goodIn_of _ (by decide +kernel)) ggX11_put_X11_refuse
set_option maxRecDepth 20000 in
theorem ggX11_put_X11_in : GoodIn wsX11_put wsX11_in := goodIn_r _ [10] (by decide +kernel) (by decide +kernel)
set_option maxRecDepth 20000 in
theorem gX11_put_X11_in : GoodIn wsX11_put (va_wsS RX11 147 yX11_in wsX11_in) := goodIn_app (goodIn_of _ (by decide +kernel)) ggX11_put_X11_in
set_option maxRecDepth 20000 in
theorem ggX11_put_X11_narrowed : GoodIn wsX11_put wsX11_narrowed := goodIn_r _ [18] (by decide +kernel) (by decide +kernel)
set_option maxRecDepth 20000 in
theorem gX11_put_X11_narrowed : GoodIn wsX11_put (va_wsS RX11 332 yX11_narrowed wsX11_narrowed) := goodIn_app (goodIn_of _ (by decide +kernel)) ggX11_put_X11_narrowed
theorem dX11_put_0 : decode cX11_put 0 = .ok (.iload_n 1, 1) := by decide +kernel
theorem dX11_put_1 : decode cX11_put 1 = .ok (.invokestatic 183, 3) := by decide +kernel
theorem dX11_put_4 : decode cX11_put 4 = .ok (.ifCond .ne 5, 3) := by decide +kernel
theorem dX11_put_7 : decode cX11_put 7 = .ok (.iconst (-1), 1) := by decide +kernel
theorem dX11_put_8 : decode cX11_put 8 = .ok (.ireturn, 1) := by decide +kernel
theorem dX11_put_9 : decode cX11_put 9 = .ok (.aload_n 0, 1) := by decide +kernel
theorem dX11_put_10 : decode cX11_put 10 = .ok (.getfield 66, 3) := by decide +kernel
theorem dX11_put_13 : decode cX11_put 13 = .ok (.iload_n 1, 1) := by decide +kernel
theorem dX11_put_14 : decode cX11_put 14 = .ok (.iaload, 1) := by decide +kernel
theorem dX11_put_15 : decode cX11_put 15 = .ok (.ifCond .ne 10, 3) := by decide +kernel
theorem dX11_put_18 : decode cX11_put 18 = .ok (.aload_n 0, 1) := by decide +kernel
theorem dX11_put_19 : decode cX11_put 19 = .ok (.bipush (-11), 2) := by decide +kernel
theorem dX11_put_21 : decode cX11_put 21 = .ok (.invokevirtual 186, 3) := by decide +kernel
theorem dX11_put_24 : decode cX11_put 24 = .ok (.ireturn, 1) := by decide +kernel
theorem dX11_put_25 : decode cX11_put 25 = .ok (.aload_n 0, 1) := by decide +kernel
theorem dX11_put_26 : decode cX11_put 26 = .ok (.getfield 66, 3) := by decide +kernel
theorem dX11_put_29 : decode cX11_put 29 = .ok (.iload_n 1, 1) := by decide +kernel
theorem dX11_put_30 : decode cX11_put 30 = .ok (.iaload, 1) := by decide +kernel
theorem dX11_put_31 : decode cX11_put 31 = .ok (.iconst 5, 1) := by decide +kernel
theorem dX11_put_32 : decode cX11_put 32 = .ok (.if_icmp .ne 10, 3) := by decide +kernel
theorem dX11_put_35 : decode cX11_put 35 = .ok (.aload_n 0, 1) := by decide +kernel
theorem dX11_put_36 : decode cX11_put 36 = .ok (.bipush (-12), 2) := by decide +kernel
theorem dX11_put_38 : decode cX11_put 38 = .ok (.invokevirtual 186, 3) := by decide +kernel
theorem dX11_put_41 : decode cX11_put 41 = .ok (.ireturn, 1) := by decide +kernel
theorem dX11_put_42 : decode cX11_put 42 = .ok (.iload_n 2, 1) := by decide +kernel
theorem dX11_put_43 : decode cX11_put 43 = .ok (.iconst 0, 1) := by decide +kernel
theorem dX11_put_44 : decode cX11_put 44 = .ok (.aload_n 0, 1) := by decide +kernel
theorem dX11_put_45 : decode cX11_put 45 = .ok (.getfield 69, 3) := by decide +kernel
theorem dX11_put_48 : decode cX11_put 48 = .ok (.iload_n 1, 1) := by decide +kernel
theorem dX11_put_49 : decode cX11_put 49 = .ok (.iaload, 1) := by decide +kernel
theorem dX11_put_50 : decode cX11_put 50 = .ok (.iconst 1, 1) := by decide +kernel
theorem dX11_put_51 : decode cX11_put 51 = .ok (.isub, 1) := by decide +kernel
theorem dX11_put_52 : decode cX11_put 52 = .ok (.invokestatic 147, 3) := by decide +kernel
theorem dX11_put_55 : decode cX11_put 55 = .ok (.ifCond .ne 10, 3) := by decide +kernel
theorem dX11_put_58 : decode cX11_put 58 = .ok (.aload_n 0, 1) := by decide +kernel
theorem dX11_put_59 : decode cX11_put 59 = .ok (.bipush (-13), 2) := by decide +kernel
theorem dX11_put_61 : decode cX11_put 61 = .ok (.invokevirtual 186, 3) := by decide +kernel
theorem dX11_put_64 : decode cX11_put 64 = .ok (.ireturn, 1) := by decide +kernel
theorem dX11_put_65 : decode cX11_put 65 = .ok (.aload_n 0, 1) := by decide +kernel
theorem dX11_put_66 : decode cX11_put 66 = .ok (.getfield 72, 3) := by decide +kernel
theorem dX11_put_69 : decode cX11_put 69 = .ok (.sipush 400, 3) := by decide +kernel
theorem dX11_put_72 : decode cX11_put 72 = .ok (.iload_n 1, 1) := by decide +kernel
theorem dX11_put_73 : decode cX11_put 73 = .ok (.imul, 1) := by decide +kernel
theorem dX11_put_74 : decode cX11_put 74 = .ok (.iload_n 2, 1) := by decide +kernel
theorem dX11_put_75 : decode cX11_put 75 = .ok (.iadd, 1) := by decide +kernel
theorem dX11_put_76 : decode cX11_put 76 = .ok (.aload_n 0, 1) := by decide +kernel
theorem dX11_put_77 : decode cX11_put 77 = .ok (.getfield 66, 3) := by decide +kernel
theorem dX11_put_80 : decode cX11_put 80 = .ok (.iload_n 1, 1) := by decide +kernel
theorem dX11_put_81 : decode cX11_put 81 = .ok (.iaload, 1) := by decide +kernel
theorem dX11_put_82 : decode cX11_put 82 = .ok (.lload_n 3, 1) := by decide +kernel
theorem dX11_put_83 : decode cX11_put 83 = .ok (.invokestatic 332, 3) := by decide +kernel
theorem dX11_put_86 : decode cX11_put 86 = .ok (.lastore, 1) := by decide +kernel
theorem dX11_put_87 : decode cX11_put 87 = .ok (.iconst 1, 1) := by decide +kernel
theorem dX11_put_88 : decode cX11_put 88 = .ok (.ireturn, 1) := by decide +kernel
set_option maxRecDepth 20000 in
theorem ggX11_at_X11_isTape : GoodIn wsX11_at wsX11_isTape := goodIn_r _ [8, 9, 10, 7, 11] (by decide +kernel) (by decide +kernel)
set_option maxRecDepth 20000 in
theorem gX11_at_X11_isTape : GoodIn wsX11_at (va_wsS RX11 183 yX11_isTape wsX11_isTape) := goodIn_app (goodIn_of _ (by decide +kernel)) ggX11_at_X11_isTape
set_option maxRecDepth 20000 in
theorem ggX11_at_X11_in : GoodIn wsX11_at wsX11_in := goodIn_r _ [11] (by decide +kernel) (by decide +kernel)
set_option maxRecDepth 20000 in
theorem gX11_at_X11_in : GoodIn wsX11_at (va_wsS RX11 147 yX11_in wsX11_in) := goodIn_app (goodIn_of _ (by decide +kernel)) ggX11_at_X11_in
theorem dX11_at_0 : decode cX11_at 0 = .ok (.aload_n 0, 1) := by decide +kernel
theorem dX11_at_1 : decode cX11_at 1 = .ok (.iload_n 1, 1) := by decide +kernel
theorem dX11_at_2 : decode cX11_at 2 = .ok (.invokestatic 183, 3) := by decide +kernel
theorem dX11_at_5 : decode cX11_at 5 = .ok (.ifCond .ne 7, 3) := by decide +kernel
theorem dX11_at_8 : decode cX11_at 8 = .ok (.iconst 1, 1) := by decide +kernel
theorem dX11_at_9 : decode cX11_at 9 = .ok (.goto 43, 3) := by decide +kernel
theorem dX11_at_12 : decode cX11_at 12 = .ok (.aload_n 0, 1) := by decide +kernel
theorem dX11_at_13 : decode cX11_at 13 = .ok (.getfield 66, 3) := by decide +kernel
theorem dX11_at_16 : decode cX11_at 16 = .ok (.iload_n 1, 1) := by decide +kernel
theorem dX11_at_17 : decode cX11_at 17 = .ok (.iaload, 1) := by decide +kernel
theorem dX11_at_18 : decode cX11_at 18 = .ok (.ifCond .eq 29, 3) := by decide +kernel
theorem dX11_at_21 : decode cX11_at 21 = .ok (.aload_n 0, 1) := by decide +kernel
theorem dX11_at_22 : decode cX11_at 22 = .ok (.getfield 66, 3) := by decide +kernel
theorem dX11_at_25 : decode cX11_at 25 = .ok (.iload_n 1, 1) := by decide +kernel
theorem dX11_at_26 : decode cX11_at 26 = .ok (.iaload, 1) := by decide +kernel
theorem dX11_at_27 : decode cX11_at 27 = .ok (.iconst 5, 1) := by decide +kernel
theorem dX11_at_28 : decode cX11_at 28 = .ok (.if_icmp .eq 19, 3) := by decide +kernel
theorem dX11_at_31 : decode cX11_at 31 = .ok (.iload_n 2, 1) := by decide +kernel
theorem dX11_at_32 : decode cX11_at 32 = .ok (.iconst 0, 1) := by decide +kernel
theorem dX11_at_33 : decode cX11_at 33 = .ok (.aload_n 0, 1) := by decide +kernel
theorem dX11_at_34 : decode cX11_at 34 = .ok (.getfield 69, 3) := by decide +kernel
theorem dX11_at_37 : decode cX11_at 37 = .ok (.iload_n 1, 1) := by decide +kernel
theorem dX11_at_38 : decode cX11_at 38 = .ok (.iaload, 1) := by decide +kernel
theorem dX11_at_39 : decode cX11_at 39 = .ok (.iconst 1, 1) := by decide +kernel
theorem dX11_at_40 : decode cX11_at 40 = .ok (.isub, 1) := by decide +kernel
theorem dX11_at_41 : decode cX11_at 41 = .ok (.invokestatic 147, 3) := by decide +kernel
theorem dX11_at_44 : decode cX11_at 44 = .ok (.ifCond .ne 7, 3) := by decide +kernel
theorem dX11_at_47 : decode cX11_at 47 = .ok (.iconst 2, 1) := by decide +kernel
theorem dX11_at_48 : decode cX11_at 48 = .ok (.goto 4, 3) := by decide +kernel
theorem dX11_at_51 : decode cX11_at 51 = .ok (.iconst 0, 1) := by decide +kernel
theorem dX11_at_52 : decode cX11_at 52 = .ok (.putfield 103, 3) := by decide +kernel
theorem dX11_at_55 : decode cX11_at 55 = .ok (.aload_n 0, 1) := by decide +kernel
theorem dX11_at_56 : decode cX11_at 56 = .ok (.getfield 103, 3) := by decide +kernel
theorem dX11_at_59 : decode cX11_at 59 = .ok (.ifCond .ne 18, 3) := by decide +kernel
theorem dX11_at_62 : decode cX11_at 62 = .ok (.aload_n 0, 1) := by decide +kernel
theorem dX11_at_63 : decode cX11_at 63 = .ok (.getfield 72, 3) := by decide +kernel
theorem dX11_at_66 : decode cX11_at 66 = .ok (.sipush 400, 3) := by decide +kernel
theorem dX11_at_69 : decode cX11_at 69 = .ok (.iload_n 1, 1) := by decide +kernel
theorem dX11_at_70 : decode cX11_at 70 = .ok (.imul, 1) := by decide +kernel
theorem dX11_at_71 : decode cX11_at 71 = .ok (.iload_n 2, 1) := by decide +kernel
theorem dX11_at_72 : decode cX11_at 72 = .ok (.iadd, 1) := by decide +kernel
theorem dX11_at_73 : decode cX11_at 73 = .ok (.laload, 1) := by decide +kernel
theorem dX11_at_74 : decode cX11_at 74 = .ok (.goto 4, 3) := by decide +kernel
theorem dX11_at_77 : decode cX11_at 77 = .ok (.lconst 0, 1) := by decide +kernel
theorem dX11_at_78 : decode cX11_at 78 = .ok (.lreturn, 1) := by decide +kernel
set_option maxRecDepth 20000 in
theorem ggX11_copy_X11_isTape : GoodIn wsX11_copy wsX11_isTape := goodIn_r _ [8, 9, 10, 7, 11] (by decide +kernel) (by decide +kernel)
set_option maxRecDepth 20000 in
theorem gX11_copy_X11_isTape : GoodIn wsX11_copy (va_wsS RX11 183 yX11_isTape wsX11_isTape) := goodIn_app (goodIn_of _ (by decide +kernel)) ggX11_copy_X11_isTape
set_option maxRecDepth 20000 in
theorem ggX11_copy_X11_refuse : GoodIn wsX11_copy wsX11_refuse := goodIn_r _ [15, 16, 17, 18, 19, 20, 21, 22, 23, 24, 25, 26, 27, 28, 29, 30, 31, 32, 33, 34, 35, 36, 37, 38, 39, 40, 41, 42, 43, 44, 45, 46, 47, 48, 49, 50, 51, 52, 53, 54, 55, 56, 57, 58, 59, 60, 61, 62, 63, 64, 65, 66, 67, 68, 69, 70, 71, 72, 73, 74, 75, 76, 77, 78] (by decide +kernel) (by decide +kernel)
set_option maxRecDepth 20000 in
theorem gX11_copy_X11_refuse : GoodIn wsX11_copy (wsV RX11 186 RX11 yX11_refuse wsX11_refuse) := goodIn_app (goodIn_of _ (by decide +kernel)) ggX11_copy_X11_refuse
theorem dX11_copy_0 : decode cX11_copy 0 = .ok (.iload_n 1, 1) := by decide +kernel
theorem dX11_copy_1 : decode cX11_copy 1 = .ok (.invokestatic 183, 3) := by decide +kernel
theorem dX11_copy_4 : decode cX11_copy 4 = .ok (.ifCond .eq 10, 3) := by decide +kernel
theorem dX11_copy_7 : decode cX11_copy 7 = .ok (.iload_n 3, 1) := by decide +kernel
theorem dX11_copy_8 : decode cX11_copy 8 = .ok (.invokestatic 183, 3) := by decide +kernel
theorem dX11_copy_11 : decode cX11_copy 11 = .ok (.ifCond .ne 5, 3) := by decide +kernel
theorem dX11_copy_14 : decode cX11_copy 14 = .ok (.iconst (-1), 1) := by decide +kernel
theorem dX11_copy_15 : decode cX11_copy 15 = .ok (.ireturn, 1) := by decide +kernel
theorem dX11_copy_16 : decode cX11_copy 16 = .ok (.aload_n 0, 1) := by decide +kernel
theorem dX11_copy_17 : decode cX11_copy 17 = .ok (.getfield 66, 3) := by decide +kernel
theorem dX11_copy_20 : decode cX11_copy 20 = .ok (.iload_n 1, 1) := by decide +kernel
theorem dX11_copy_21 : decode cX11_copy 21 = .ok (.iaload, 1) := by decide +kernel
theorem dX11_copy_22 : decode cX11_copy 22 = .ok (.ifCond .eq 12, 3) := by decide +kernel
theorem dX11_copy_25 : decode cX11_copy 25 = .ok (.aload_n 0, 1) := by decide +kernel
theorem dX11_copy_26 : decode cX11_copy 26 = .ok (.getfield 66, 3) := by decide +kernel
theorem dX11_copy_29 : decode cX11_copy 29 = .ok (.iload_n 3, 1) := by decide +kernel
theorem dX11_copy_30 : decode cX11_copy 30 = .ok (.iaload, 1) := by decide +kernel
theorem dX11_copy_31 : decode cX11_copy 31 = .ok (.ifCond .ne 10, 3) := by decide +kernel
theorem dX11_copy_34 : decode cX11_copy 34 = .ok (.aload_n 0, 1) := by decide +kernel
theorem dX11_copy_35 : decode cX11_copy 35 = .ok (.bipush (-11), 2) := by decide +kernel
theorem dX11_copy_37 : decode cX11_copy 37 = .ok (.invokevirtual 186, 3) := by decide +kernel
theorem dX11_copy_40 : decode cX11_copy 40 = .ok (.ireturn, 1) := by decide +kernel
theorem dX11_copy_41 : decode cX11_copy 41 = .ok (.aload_n 0, 1) := by decide +kernel
theorem dX11_copy_42 : decode cX11_copy 42 = .ok (.getfield 66, 3) := by decide +kernel
theorem dX11_copy_45 : decode cX11_copy 45 = .ok (.iload_n 1, 1) := by decide +kernel
theorem dX11_copy_46 : decode cX11_copy 46 = .ok (.iaload, 1) := by decide +kernel
theorem dX11_copy_47 : decode cX11_copy 47 = .ok (.iconst 5, 1) := by decide +kernel
theorem dX11_copy_48 : decode cX11_copy 48 = .ok (.if_icmp .eq 18, 3) := by decide +kernel
theorem dX11_copy_51 : decode cX11_copy 51 = .ok (.aload_n 0, 1) := by decide +kernel
theorem dX11_copy_52 : decode cX11_copy 52 = .ok (.getfield 66, 3) := by decide +kernel
theorem dX11_copy_55 : decode cX11_copy 55 = .ok (.iload_n 1, 1) := by decide +kernel
theorem dX11_copy_56 : decode cX11_copy 56 = .ok (.iaload, 1) := by decide +kernel
theorem dX11_copy_57 : decode cX11_copy 57 = .ok (.aload_n 0, 1) := by decide +kernel
theorem dX11_copy_58 : decode cX11_copy 58 = .ok (.getfield 66, 3) := by decide +kernel
theorem dX11_copy_61 : decode cX11_copy 61 = .ok (.iload_n 3, 1) := by decide +kernel
theorem dX11_copy_62 : decode cX11_copy 62 = .ok (.iaload, 1) := by decide +kernel
theorem dX11_copy_63 : decode cX11_copy 63 = .ok (.if_icmp .eq 10, 3) := by decide +kernel
theorem dX11_copy_66 : decode cX11_copy 66 = .ok (.aload_n 0, 1) := by decide +kernel
theorem dX11_copy_67 : decode cX11_copy 67 = .ok (.bipush (-12), 2) := by decide +kernel
theorem dX11_copy_69 : decode cX11_copy 69 = .ok (.invokevirtual 186, 3) := by decide +kernel
theorem dX11_copy_72 : decode cX11_copy 72 = .ok (.ireturn, 1) := by decide +kernel
theorem dX11_copy_73 : decode cX11_copy 73 = .ok (.iload 5, 2) := by decide +kernel
theorem dX11_copy_75 : decode cX11_copy 75 = .ok (.ifCond .lt 39, 3) := by decide +kernel
theorem dX11_copy_78 : decode cX11_copy 78 = .ok (.iload_n 2, 1) := by decide +kernel
theorem dX11_copy_79 : decode cX11_copy 79 = .ok (.ifCond .lt 35, 3) := by decide +kernel
theorem dX11_copy_82 : decode cX11_copy 82 = .ok (.iload 4, 2) := by decide +kernel
theorem dX11_copy_84 : decode cX11_copy 84 = .ok (.ifCond .lt 30, 3) := by decide +kernel
theorem dX11_copy_87 : decode cX11_copy 87 = .ok (.iload 5, 2) := by decide +kernel
theorem dX11_copy_89 : decode cX11_copy 89 = .ok (.aload_n 0, 1) := by decide +kernel
theorem dX11_copy_90 : decode cX11_copy 90 = .ok (.getfield 69, 3) := by decide +kernel
theorem dX11_copy_93 : decode cX11_copy 93 = .ok (.iload_n 1, 1) := by decide +kernel
theorem dX11_copy_94 : decode cX11_copy 94 = .ok (.iaload, 1) := by decide +kernel
theorem dX11_copy_95 : decode cX11_copy 95 = .ok (.iload_n 2, 1) := by decide +kernel
theorem dX11_copy_96 : decode cX11_copy 96 = .ok (.isub, 1) := by decide +kernel
theorem dX11_copy_97 : decode cX11_copy 97 = .ok (.if_icmp .gt 17, 3) := by decide +kernel
theorem dX11_copy_100 : decode cX11_copy 100 = .ok (.iload 5, 2) := by decide +kernel
theorem dX11_copy_102 : decode cX11_copy 102 = .ok (.aload_n 0, 1) := by decide +kernel
theorem dX11_copy_103 : decode cX11_copy 103 = .ok (.getfield 69, 3) := by decide +kernel
theorem dX11_copy_106 : decode cX11_copy 106 = .ok (.iload_n 3, 1) := by decide +kernel
theorem dX11_copy_107 : decode cX11_copy 107 = .ok (.iaload, 1) := by decide +kernel
theorem dX11_copy_108 : decode cX11_copy 108 = .ok (.iload 4, 2) := by decide +kernel
theorem dX11_copy_110 : decode cX11_copy 110 = .ok (.isub, 1) := by decide +kernel
theorem dX11_copy_111 : decode cX11_copy 111 = .ok (.if_icmp .le 10, 3) := by decide +kernel
theorem dX11_copy_114 : decode cX11_copy 114 = .ok (.aload_n 0, 1) := by decide +kernel
theorem dX11_copy_115 : decode cX11_copy 115 = .ok (.bipush (-13), 2) := by decide +kernel
theorem dX11_copy_117 : decode cX11_copy 117 = .ok (.invokevirtual 186, 3) := by decide +kernel
theorem dX11_copy_120 : decode cX11_copy 120 = .ok (.ireturn, 1) := by decide +kernel
theorem dX11_copy_121 : decode cX11_copy 121 = .ok (.iconst 0, 1) := by decide +kernel
theorem dX11_copy_122 : decode cX11_copy 122 = .ok (.istore 6, 2) := by decide +kernel
theorem dX11_copy_124 : decode cX11_copy 124 = .ok (.iload 6, 2) := by decide +kernel
theorem dX11_copy_126 : decode cX11_copy 126 = .ok (.iload 5, 2) := by decide +kernel
theorem dX11_copy_128 : decode cX11_copy 128 = .ok (.if_icmp .ge 31, 3) := by decide +kernel
theorem dX11_copy_131 : decode cX11_copy 131 = .ok (.aload_n 0, 1) := by decide +kernel
theorem dX11_copy_132 : decode cX11_copy 132 = .ok (.getfield 100, 3) := by decide +kernel
theorem dX11_copy_135 : decode cX11_copy 135 = .ok (.iload 6, 2) := by decide +kernel
theorem dX11_copy_137 : decode cX11_copy 137 = .ok (.aload_n 0, 1) := by decide +kernel
theorem dX11_copy_138 : decode cX11_copy 138 = .ok (.getfield 72, 3) := by decide +kernel
theorem dX11_copy_141 : decode cX11_copy 141 = .ok (.sipush 400, 3) := by decide +kernel
theorem dX11_copy_144 : decode cX11_copy 144 = .ok (.iload_n 1, 1) := by decide +kernel
theorem dX11_copy_145 : decode cX11_copy 145 = .ok (.imul, 1) := by decide +kernel
theorem dX11_copy_146 : decode cX11_copy 146 = .ok (.iload_n 2, 1) := by decide +kernel
theorem dX11_copy_147 : decode cX11_copy 147 = .ok (.iadd, 1) := by decide +kernel
theorem dX11_copy_148 : decode cX11_copy 148 = .ok (.iload 6, 2) := by decide +kernel
theorem dX11_copy_150 : decode cX11_copy 150 = .ok (.iadd, 1) := by decide +kernel
theorem dX11_copy_151 : decode cX11_copy 151 = .ok (.laload, 1) := by decide +kernel
theorem dX11_copy_152 : decode cX11_copy 152 = .ok (.lastore, 1) := by decide +kernel
theorem dX11_copy_153 : decode cX11_copy 153 = .ok (.iinc 6 1, 3) := by decide +kernel
theorem dX11_copy_156 : decode cX11_copy 156 = .ok (.goto (-32), 3) := by decide +kernel
theorem dX11_copy_159 : decode cX11_copy 159 = .ok (.iconst 0, 1) := by decide +kernel
theorem dX11_copy_160 : decode cX11_copy 160 = .ok (.istore 6, 2) := by decide +kernel
theorem dX11_copy_162 : decode cX11_copy 162 = .ok (.iload 6, 2) := by decide +kernel
theorem dX11_copy_164 : decode cX11_copy 164 = .ok (.iload 5, 2) := by decide +kernel
theorem dX11_copy_166 : decode cX11_copy 166 = .ok (.if_icmp .ge 32, 3) := by decide +kernel
theorem dX11_copy_169 : decode cX11_copy 169 = .ok (.aload_n 0, 1) := by decide +kernel
theorem dX11_copy_170 : decode cX11_copy 170 = .ok (.getfield 72, 3) := by decide +kernel
theorem dX11_copy_173 : decode cX11_copy 173 = .ok (.sipush 400, 3) := by decide +kernel
theorem dX11_copy_176 : decode cX11_copy 176 = .ok (.iload_n 3, 1) := by decide +kernel
theorem dX11_copy_177 : decode cX11_copy 177 = .ok (.imul, 1) := by decide +kernel
theorem dX11_copy_178 : decode cX11_copy 178 = .ok (.iload 4, 2) := by decide +kernel
theorem dX11_copy_180 : decode cX11_copy 180 = .ok (.iadd, 1) := by decide +kernel
theorem dX11_copy_181 : decode cX11_copy 181 = .ok (.iload 6, 2) := by decide +kernel
theorem dX11_copy_183 : decode cX11_copy 183 = .ok (.iadd, 1) := by decide +kernel
theorem dX11_copy_184 : decode cX11_copy 184 = .ok (.aload_n 0, 1) := by decide +kernel
theorem dX11_copy_185 : decode cX11_copy 185 = .ok (.getfield 100, 3) := by decide +kernel
theorem dX11_copy_188 : decode cX11_copy 188 = .ok (.iload 6, 2) := by decide +kernel
theorem dX11_copy_190 : decode cX11_copy 190 = .ok (.laload, 1) := by decide +kernel
theorem dX11_copy_191 : decode cX11_copy 191 = .ok (.lastore, 1) := by decide +kernel
theorem dX11_copy_192 : decode cX11_copy 192 = .ok (.iinc 6 1, 3) := by decide +kernel
theorem dX11_copy_195 : decode cX11_copy 195 = .ok (.goto (-33), 3) := by decide +kernel
theorem dX11_copy_198 : decode cX11_copy 198 = .ok (.iload 5, 2) := by decide +kernel
theorem dX11_copy_200 : decode cX11_copy 200 = .ok (.ireturn, 1) := by decide +kernel
theorem dX11_count_0 : decode cX11_count 0 = .ok (.iconst 0, 1) := by decide +kernel
theorem dX11_count_1 : decode cX11_count 1 = .ok (.istore_n 2, 1) := by decide +kernel
theorem dX11_count_2 : decode cX11_count 2 = .ok (.iload_n 1, 1) := by decide +kernel
theorem dX11_count_3 : decode cX11_count 3 = .ok (.tableswitch 95 0 5 #[37, 42, 75, 80, 85, 90], 37) := by decide +kernel
theorem dX11_count_40 : decode cX11_count 40 = .ok (.aload_n 0, 1) := by decide +kernel
theorem dX11_count_41 : decode cX11_count 41 = .ok (.getfield 109, 3) := by decide +kernel
theorem dX11_count_44 : decode cX11_count 44 = .ok (.ireturn, 1) := by decide +kernel
theorem dX11_count_45 : decode cX11_count 45 = .ok (.iconst 0, 1) := by decide +kernel
theorem dX11_count_46 : decode cX11_count 46 = .ok (.istore_n 3, 1) := by decide +kernel
theorem dX11_count_47 : decode cX11_count 47 = .ok (.iload_n 3, 1) := by decide +kernel
theorem dX11_count_48 : decode cX11_count 48 = .ok (.bipush 8, 2) := by decide +kernel
theorem dX11_count_50 : decode cX11_count 50 = .ok (.if_icmp .ge 26, 3) := by decide +kernel
theorem dX11_count_53 : decode cX11_count 53 = .ok (.iload_n 2, 1) := by decide +kernel
theorem dX11_count_54 : decode cX11_count 54 = .ok (.aload_n 0, 1) := by decide +kernel
theorem dX11_count_55 : decode cX11_count 55 = .ok (.getfield 16, 3) := by decide +kernel
theorem dX11_count_58 : decode cX11_count 58 = .ok (.iload_n 3, 1) := by decide +kernel
theorem dX11_count_59 : decode cX11_count 59 = .ok (.iaload, 1) := by decide +kernel
theorem dX11_count_60 : decode cX11_count 60 = .ok (.ifCond .le 7, 3) := by decide +kernel
theorem dX11_count_63 : decode cX11_count 63 = .ok (.iconst 1, 1) := by decide +kernel
theorem dX11_count_64 : decode cX11_count 64 = .ok (.goto 4, 3) := by decide +kernel
theorem dX11_count_67 : decode cX11_count 67 = .ok (.iconst 0, 1) := by decide +kernel
theorem dX11_count_68 : decode cX11_count 68 = .ok (.iadd, 1) := by decide +kernel
theorem dX11_count_69 : decode cX11_count 69 = .ok (.istore_n 2, 1) := by decide +kernel
theorem dX11_count_70 : decode cX11_count 70 = .ok (.iinc 3 1, 3) := by decide +kernel
theorem dX11_count_73 : decode cX11_count 73 = .ok (.goto (-26), 3) := by decide +kernel
theorem dX11_count_76 : decode cX11_count 76 = .ok (.iload_n 2, 1) := by decide +kernel
theorem dX11_count_77 : decode cX11_count 77 = .ok (.ireturn, 1) := by decide +kernel
theorem dX11_count_78 : decode cX11_count 78 = .ok (.aload_n 0, 1) := by decide +kernel
theorem dX11_count_79 : decode cX11_count 79 = .ok (.getfield 112, 3) := by decide +kernel
theorem dX11_count_82 : decode cX11_count 82 = .ok (.ireturn, 1) := by decide +kernel
theorem dX11_count_83 : decode cX11_count 83 = .ok (.aload_n 0, 1) := by decide +kernel
theorem dX11_count_84 : decode cX11_count 84 = .ok (.getfield 115, 3) := by decide +kernel
theorem dX11_count_87 : decode cX11_count 87 = .ok (.ireturn, 1) := by decide +kernel
theorem dX11_count_88 : decode cX11_count 88 = .ok (.aload_n 0, 1) := by decide +kernel
theorem dX11_count_89 : decode cX11_count 89 = .ok (.getfield 122, 3) := by decide +kernel
theorem dX11_count_92 : decode cX11_count 92 = .ok (.ireturn, 1) := by decide +kernel
theorem dX11_count_93 : decode cX11_count 93 = .ok (.aload_n 0, 1) := by decide +kernel
theorem dX11_count_94 : decode cX11_count 94 = .ok (.getfield 106, 3) := by decide +kernel
theorem dX11_count_97 : decode cX11_count 97 = .ok (.ireturn, 1) := by decide +kernel
theorem dX11_count_98 : decode cX11_count 98 = .ok (.iconst (-1), 1) := by decide +kernel
theorem dX11_count_99 : decode cX11_count 99 = .ok (.ireturn, 1) := by decide +kernel
theorem dJ6_bitCount_0f7a4_0 : decode cJ6_bitCount_0f7a4 0 = .ok (.iload_n 0, 1) := by decide +kernel
theorem dJ6_bitCount_0f7a4_1 : decode cJ6_bitCount_0f7a4 1 = .ok (.iload_n 0, 1) := by decide +kernel
theorem dJ6_bitCount_0f7a4_2 : decode cJ6_bitCount_0f7a4 2 = .ok (.iconst 1, 1) := by decide +kernel
theorem dJ6_bitCount_0f7a4_3 : decode cJ6_bitCount_0f7a4 3 = .ok (.iushr, 1) := by decide +kernel
theorem dJ6_bitCount_0f7a4_4 : decode cJ6_bitCount_0f7a4 4 = .ok (.ldc_w 265, 3) := by decide +kernel
theorem dJ6_bitCount_0f7a4_7 : decode cJ6_bitCount_0f7a4 7 = .ok (.iand, 1) := by decide +kernel
theorem dJ6_bitCount_0f7a4_8 : decode cJ6_bitCount_0f7a4 8 = .ok (.isub, 1) := by decide +kernel
theorem dJ6_bitCount_0f7a4_9 : decode cJ6_bitCount_0f7a4 9 = .ok (.istore_n 0, 1) := by decide +kernel
theorem dJ6_bitCount_0f7a4_10 : decode cJ6_bitCount_0f7a4 10 = .ok (.iload_n 0, 1) := by decide +kernel
theorem dJ6_bitCount_0f7a4_11 : decode cJ6_bitCount_0f7a4 11 = .ok (.ldc_w 266, 3) := by decide +kernel
theorem dJ6_bitCount_0f7a4_14 : decode cJ6_bitCount_0f7a4 14 = .ok (.iand, 1) := by decide +kernel
theorem dJ6_bitCount_0f7a4_15 : decode cJ6_bitCount_0f7a4 15 = .ok (.iload_n 0, 1) := by decide +kernel
theorem dJ6_bitCount_0f7a4_16 : decode cJ6_bitCount_0f7a4 16 = .ok (.iconst 2, 1) := by decide +kernel
theorem dJ6_bitCount_0f7a4_17 : decode cJ6_bitCount_0f7a4 17 = .ok (.iushr, 1) := by decide +kernel
theorem dJ6_bitCount_0f7a4_18 : decode cJ6_bitCount_0f7a4 18 = .ok (.ldc_w 266, 3) := by decide +kernel
theorem dJ6_bitCount_0f7a4_21 : decode cJ6_bitCount_0f7a4 21 = .ok (.iand, 1) := by decide +kernel
theorem dJ6_bitCount_0f7a4_22 : decode cJ6_bitCount_0f7a4 22 = .ok (.iadd, 1) := by decide +kernel
theorem dJ6_bitCount_0f7a4_23 : decode cJ6_bitCount_0f7a4 23 = .ok (.istore_n 0, 1) := by decide +kernel
theorem dJ6_bitCount_0f7a4_24 : decode cJ6_bitCount_0f7a4 24 = .ok (.iload_n 0, 1) := by decide +kernel
theorem dJ6_bitCount_0f7a4_25 : decode cJ6_bitCount_0f7a4 25 = .ok (.iload_n 0, 1) := by decide +kernel
theorem dJ6_bitCount_0f7a4_26 : decode cJ6_bitCount_0f7a4 26 = .ok (.iconst 4, 1) := by decide +kernel
theorem dJ6_bitCount_0f7a4_27 : decode cJ6_bitCount_0f7a4 27 = .ok (.iushr, 1) := by decide +kernel
theorem dJ6_bitCount_0f7a4_28 : decode cJ6_bitCount_0f7a4 28 = .ok (.iadd, 1) := by decide +kernel
theorem dJ6_bitCount_0f7a4_29 : decode cJ6_bitCount_0f7a4 29 = .ok (.ldc_w 267, 3) := by decide +kernel
theorem dJ6_bitCount_0f7a4_32 : decode cJ6_bitCount_0f7a4 32 = .ok (.iand, 1) := by decide +kernel
theorem dJ6_bitCount_0f7a4_33 : decode cJ6_bitCount_0f7a4 33 = .ok (.istore_n 0, 1) := by decide +kernel
theorem dJ6_bitCount_0f7a4_34 : decode cJ6_bitCount_0f7a4 34 = .ok (.iload_n 0, 1) := by decide +kernel
theorem dJ6_bitCount_0f7a4_35 : decode cJ6_bitCount_0f7a4 35 = .ok (.iload_n 0, 1) := by decide +kernel
theorem dJ6_bitCount_0f7a4_36 : decode cJ6_bitCount_0f7a4 36 = .ok (.bipush 8, 2) := by decide +kernel
theorem dJ6_bitCount_0f7a4_38 : decode cJ6_bitCount_0f7a4 38 = .ok (.iushr, 1) := by decide +kernel
theorem dJ6_bitCount_0f7a4_39 : decode cJ6_bitCount_0f7a4 39 = .ok (.iadd, 1) := by decide +kernel
theorem dJ6_bitCount_0f7a4_40 : decode cJ6_bitCount_0f7a4 40 = .ok (.istore_n 0, 1) := by decide +kernel
theorem dJ6_bitCount_0f7a4_41 : decode cJ6_bitCount_0f7a4 41 = .ok (.iload_n 0, 1) := by decide +kernel
theorem dJ6_bitCount_0f7a4_42 : decode cJ6_bitCount_0f7a4 42 = .ok (.iload_n 0, 1) := by decide +kernel
theorem dJ6_bitCount_0f7a4_43 : decode cJ6_bitCount_0f7a4 43 = .ok (.bipush 16, 2) := by decide +kernel
theorem dJ6_bitCount_0f7a4_45 : decode cJ6_bitCount_0f7a4 45 = .ok (.iushr, 1) := by decide +kernel
theorem dJ6_bitCount_0f7a4_46 : decode cJ6_bitCount_0f7a4 46 = .ok (.iadd, 1) := by decide +kernel
theorem dJ6_bitCount_0f7a4_47 : decode cJ6_bitCount_0f7a4 47 = .ok (.istore_n 0, 1) := by decide +kernel
theorem dJ6_bitCount_0f7a4_48 : decode cJ6_bitCount_0f7a4 48 = .ok (.iload_n 0, 1) := by decide +kernel
theorem dJ6_bitCount_0f7a4_49 : decode cJ6_bitCount_0f7a4 49 = .ok (.bipush 63, 2) := by decide +kernel
theorem dJ6_bitCount_0f7a4_51 : decode cJ6_bitCount_0f7a4 51 = .ok (.iand, 1) := by decide +kernel
theorem dJ6_bitCount_0f7a4_52 : decode cJ6_bitCount_0f7a4 52 = .ok (.ireturn, 1) := by decide +kernel
theorem dJ9_floorDiv_7cf53_0 : decode cJ9_floorDiv_7cf53 0 = .ok (.iload_n 0, 1) := by decide +kernel
theorem dJ9_floorDiv_7cf53_1 : decode cJ9_floorDiv_7cf53 1 = .ok (.iload_n 1, 1) := by decide +kernel
theorem dJ9_floorDiv_7cf53_2 : decode cJ9_floorDiv_7cf53 2 = .ok (.idiv, 1) := by decide +kernel
theorem dJ9_floorDiv_7cf53_3 : decode cJ9_floorDiv_7cf53 3 = .ok (.istore_n 2, 1) := by decide +kernel
theorem dJ9_floorDiv_7cf53_4 : decode cJ9_floorDiv_7cf53 4 = .ok (.iload_n 0, 1) := by decide +kernel
theorem dJ9_floorDiv_7cf53_5 : decode cJ9_floorDiv_7cf53 5 = .ok (.iload_n 1, 1) := by decide +kernel
theorem dJ9_floorDiv_7cf53_6 : decode cJ9_floorDiv_7cf53 6 = .ok (.ixor, 1) := by decide +kernel
theorem dJ9_floorDiv_7cf53_7 : decode cJ9_floorDiv_7cf53 7 = .ok (.ifCond .ge 14, 3) := by decide +kernel
theorem dJ9_floorDiv_7cf53_10 : decode cJ9_floorDiv_7cf53 10 = .ok (.iload_n 2, 1) := by decide +kernel
theorem dJ9_floorDiv_7cf53_11 : decode cJ9_floorDiv_7cf53 11 = .ok (.iload_n 1, 1) := by decide +kernel
theorem dJ9_floorDiv_7cf53_12 : decode cJ9_floorDiv_7cf53 12 = .ok (.imul, 1) := by decide +kernel
theorem dJ9_floorDiv_7cf53_13 : decode cJ9_floorDiv_7cf53 13 = .ok (.iload_n 0, 1) := by decide +kernel
theorem dJ9_floorDiv_7cf53_14 : decode cJ9_floorDiv_7cf53 14 = .ok (.if_icmp .eq 7, 3) := by decide +kernel
theorem dJ9_floorDiv_7cf53_17 : decode cJ9_floorDiv_7cf53 17 = .ok (.iload_n 2, 1) := by decide +kernel
theorem dJ9_floorDiv_7cf53_18 : decode cJ9_floorDiv_7cf53 18 = .ok (.iconst 1, 1) := by decide +kernel
theorem dJ9_floorDiv_7cf53_19 : decode cJ9_floorDiv_7cf53 19 = .ok (.isub, 1) := by decide +kernel
theorem dJ9_floorDiv_7cf53_20 : decode cJ9_floorDiv_7cf53 20 = .ok (.ireturn, 1) := by decide +kernel
theorem dJ9_floorDiv_7cf53_21 : decode cJ9_floorDiv_7cf53 21 = .ok (.iload_n 2, 1) := by decide +kernel
theorem dJ9_floorDiv_7cf53_22 : decode cJ9_floorDiv_7cf53 22 = .ok (.ireturn, 1) := by decide +kernel
theorem dJ9_abs_0f7a4_0 : decode cJ9_abs_0f7a4 0 = .ok (.iload_n 0, 1) := by decide +kernel
theorem dJ9_abs_0f7a4_1 : decode cJ9_abs_0f7a4 1 = .ok (.ifCond .ge 8, 3) := by decide +kernel
theorem dJ9_abs_0f7a4_4 : decode cJ9_abs_0f7a4 4 = .ok (.iload_n 0, 1) := by decide +kernel
theorem dJ9_abs_0f7a4_5 : decode cJ9_abs_0f7a4 5 = .ok (.ineg, 1) := by decide +kernel
theorem dJ9_abs_0f7a4_6 : decode cJ9_abs_0f7a4 6 = .ok (.goto 4, 3) := by decide +kernel
theorem dJ9_abs_0f7a4_9 : decode cJ9_abs_0f7a4 9 = .ok (.iload_n 0, 1) := by decide +kernel
theorem dJ9_abs_0f7a4_10 : decode cJ9_abs_0f7a4 10 = .ok (.ireturn, 1) := by decide +kernel
theorem dJ9_max_7cf53_0 : decode cJ9_max_7cf53 0 = .ok (.iload_n 0, 1) := by decide +kernel
theorem dJ9_max_7cf53_1 : decode cJ9_max_7cf53 1 = .ok (.iload_n 1, 1) := by decide +kernel
theorem dJ9_max_7cf53_2 : decode cJ9_max_7cf53 2 = .ok (.if_icmp .lt 7, 3) := by decide +kernel
theorem dJ9_max_7cf53_5 : decode cJ9_max_7cf53 5 = .ok (.iload_n 0, 1) := by decide +kernel
theorem dJ9_max_7cf53_6 : decode cJ9_max_7cf53 6 = .ok (.goto 4, 3) := by decide +kernel
theorem dJ9_max_7cf53_9 : decode cJ9_max_7cf53 9 = .ok (.iload_n 1, 1) := by decide +kernel
theorem dJ9_max_7cf53_10 : decode cJ9_max_7cf53 10 = .ok (.ireturn, 1) := by decide +kernel
theorem dJ9_min_7cf53_0 : decode cJ9_min_7cf53 0 = .ok (.iload_n 0, 1) := by decide +kernel
theorem dJ9_min_7cf53_1 : decode cJ9_min_7cf53 1 = .ok (.iload_n 1, 1) := by decide +kernel
theorem dJ9_min_7cf53_2 : decode cJ9_min_7cf53 2 = .ok (.if_icmp .gt 7, 3) := by decide +kernel
theorem dJ9_min_7cf53_5 : decode cJ9_min_7cf53 5 = .ok (.iload_n 0, 1) := by decide +kernel
theorem dJ9_min_7cf53_6 : decode cJ9_min_7cf53 6 = .ok (.goto 4, 3) := by decide +kernel
theorem dJ9_min_7cf53_9 : decode cJ9_min_7cf53 9 = .ok (.iload_n 1, 1) := by decide +kernel
theorem dJ9_min_7cf53_10 : decode cJ9_min_7cf53 10 = .ok (.ireturn, 1) := by decide +kernel
theorem dJ7_fill_d0a16_0 : decode cJ7_fill_d0a16 0 = .ok (.iconst 0, 1) := by decide +kernel
theorem dJ7_fill_d0a16_1 : decode cJ7_fill_d0a16 1 = .ok (.istore_n 3, 1) := by decide +kernel
theorem dJ7_fill_d0a16_2 : decode cJ7_fill_d0a16 2 = .ok (.aload_n 0, 1) := by decide +kernel
theorem dJ7_fill_d0a16_3 : decode cJ7_fill_d0a16 3 = .ok (.arraylength, 1) := by decide +kernel
theorem dJ7_fill_d0a16_4 : decode cJ7_fill_d0a16 4 = .ok (.istore 4, 2) := by decide +kernel
theorem dJ7_fill_d0a16_6 : decode cJ7_fill_d0a16 6 = .ok (.iload_n 3, 1) := by decide +kernel
theorem dJ7_fill_d0a16_7 : decode cJ7_fill_d0a16 7 = .ok (.iload 4, 2) := by decide +kernel
theorem dJ7_fill_d0a16_9 : decode cJ7_fill_d0a16 9 = .ok (.if_icmp .ge 13, 3) := by decide +kernel
theorem dJ7_fill_d0a16_12 : decode cJ7_fill_d0a16 12 = .ok (.aload_n 0, 1) := by decide +kernel
theorem dJ7_fill_d0a16_13 : decode cJ7_fill_d0a16 13 = .ok (.iload_n 3, 1) := by decide +kernel
theorem dJ7_fill_d0a16_14 : decode cJ7_fill_d0a16 14 = .ok (.lload_n 1, 1) := by decide +kernel
theorem dJ7_fill_d0a16_15 : decode cJ7_fill_d0a16 15 = .ok (.lastore, 1) := by decide +kernel
theorem dJ7_fill_d0a16_16 : decode cJ7_fill_d0a16 16 = .ok (.iinc 3 1, 3) := by decide +kernel
theorem dJ7_fill_d0a16_19 : decode cJ7_fill_d0a16 19 = .ok (.goto (-13), 3) := by decide +kernel
theorem dJ7_fill_d0a16_22 : decode cJ7_fill_d0a16 22 = .ok (.return_, 1) := by decide +kernel
