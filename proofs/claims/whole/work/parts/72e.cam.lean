set_option maxRecDepth 20000 in
theorem ggX10_init_X5_init : GoodIn wsX10_init wsX5_init := goodIn_r _ [47, 48, 2, 3, 49, 50, 51, 109, 110, 111, 112] (by decide +kernel) (by decide +kernel)
set_option maxRecDepth 20000 in
theorem gX10_init_X5_init_n9 : GoodIn wsX10_init (wsX5_init) := ggX10_init_X5_init
set_option maxRecDepth 20000 in
theorem ggX10_init_X6_init : GoodIn wsX10_init wsX6_init := goodIn_r _ [53, 54, 2, 3, 55, 5, 6, 56, 49, 57, 58, 46, 47, 48, 50, 51, 109, 110, 111, 112, 126, 127, 128, 129, 130, 131, 132, 133, 134] (by decide +kernel) (by decide +kernel)
set_option maxRecDepth 20000 in
theorem gX10_init_X6_init_n18 : GoodIn wsX10_init (wsX6_init) := ggX10_init_X6_init
set_option maxRecDepth 20000 in
theorem ggX10_init_X1_init : GoodIn wsX10_init wsX1_init := goodIn_r _ [60, 61, 2, 3, 49, 62, 63, 135, 136, 137] (by decide +kernel) (by decide +kernel)
set_option maxRecDepth 20000 in
theorem gX10_init_X1_init_n25 : GoodIn wsX10_init (wsX1_init) := ggX10_init_X1_init
set_option maxRecDepth 20000 in
theorem ggX10_init_X3_init : GoodIn wsX10_init wsX3_init := goodIn_r _ [65, 66, 2, 3, 49, 67, 138, 139, 140, 141, 142] (by decide +kernel) (by decide +kernel)
set_option maxRecDepth 20000 in
theorem gX10_init_X3_init_n39 : GoodIn wsX10_init (wsX3_init) := ggX10_init_X3_init
set_option maxRecDepth 20000 in
theorem ggX10_init_X0_init : GoodIn wsX10_init wsX0_init := goodIn_r _ [70, 71, 2, 3, 49, 72, 73, 74, 75, 24, 76, 77, 78, 79, 80, 81, 143, 144, 145, 146, 147] (by decide +kernel) (by decide +kernel)
set_option maxRecDepth 20000 in
theorem gX10_init_X0_init : GoodIn wsX10_init (wsX0_init) := ggX10_init_X0_init
set_option maxRecDepth 20000 in
theorem ggX10_init_X4_init : GoodIn wsX10_init wsX4_init := goodIn_r _ [83, 84, 2, 3, 49, 85, 86, 148, 149, 150] (by decide +kernel) (by decide +kernel)
set_option maxRecDepth 20000 in
theorem gX10_init_X4_init_n53 : GoodIn wsX10_init (wsX4_init) := ggX10_init_X4_init
set_option maxRecDepth 20000 in
theorem ggX10_init_X8_init : GoodIn wsX10_init wsX8_init := goodIn_r _ [88, 89, 2, 3, 49, 90, 91, 151, 152, 153, 154, 155, 156, 157, 158, 159, 160, 161, 162, 163, 164] (by decide +kernel) (by decide +kernel)
set_option maxRecDepth 20000 in
theorem gX10_init_X8_init_n60 : GoodIn wsX10_init (wsX8_init) := ggX10_init_X8_init
set_option maxRecDepth 20000 in
theorem ggX10_init_X7_init : GoodIn wsX10_init wsX7_init := goodIn_r _ [93, 94, 2, 3] (by decide +kernel) (by decide +kernel)
set_option maxRecDepth 20000 in
theorem gX10_init_X7_init_n67 : GoodIn wsX10_init (wsX7_init) := ggX10_init_X7_init
set_option maxRecDepth 20000 in
theorem ggX10_init_X2_init : GoodIn wsX10_init wsX2_init := goodIn_r _ [96, 97, 2, 3, 49, 98, 99, 100, 101, 166, 167, 168, 169, 170, 171, 172, 173] (by decide +kernel) (by decide +kernel)
set_option maxRecDepth 20000 in
theorem gX10_init_X2_init_n74 : GoodIn wsX10_init (wsX2_init) := ggX10_init_X2_init
set_option maxRecDepth 20000 in
theorem ggX10_init_X9_init : GoodIn wsX10_init wsX9_init := goodIn_r _ [103, 104, 2, 3, 105, 106, 107, 13, 14, 108, 59, 60, 61, 49, 62, 63, 174, 175, 176, 177, 135, 136, 137] (by decide +kernel) (by decide +kernel)
set_option maxRecDepth 20000 in
theorem gX10_init_X9_init_n85 : GoodIn wsX10_init (wsX9_init) := ggX10_init_X9_init
theorem dX10_init_0 : decode cX10_init 0 = .ok (.aload_n 0, 1) := by decide +kernel
theorem dX10_init_1 : decode cX10_init 1 = .ok (.invokespecial 1, 3) := by decide +kernel
theorem dX10_init_4 : decode cX10_init 4 = .ok (.aload_n 0, 1) := by decide +kernel
theorem dX10_init_5 : decode cX10_init 5 = .ok (.new 7, 3) := by decide +kernel
theorem dX10_init_8 : decode cX10_init 8 = .ok (.dup, 1) := by decide +kernel
theorem dX10_init_9 : decode cX10_init 9 = .ok (.invokespecial 9, 3) := by decide +kernel
theorem dX10_init_12 : decode cX10_init 12 = .ok (.putfield 10, 3) := by decide +kernel
theorem dX10_init_15 : decode cX10_init 15 = .ok (.aload_n 0, 1) := by decide +kernel
theorem dX10_init_16 : decode cX10_init 16 = .ok (.new 16, 3) := by decide +kernel
theorem dX10_init_19 : decode cX10_init 19 = .ok (.dup, 1) := by decide +kernel
theorem dX10_init_20 : decode cX10_init 20 = .ok (.invokespecial 18, 3) := by decide +kernel
theorem dX10_init_23 : decode cX10_init 23 = .ok (.putfield 19, 3) := by decide +kernel
theorem dX10_init_26 : decode cX10_init 26 = .ok (.aload_n 0, 1) := by decide +kernel
theorem dX10_init_27 : decode cX10_init 27 = .ok (.new 23, 3) := by decide +kernel
theorem dX10_init_30 : decode cX10_init 30 = .ok (.dup, 1) := by decide +kernel
theorem dX10_init_31 : decode cX10_init 31 = .ok (.invokespecial 25, 3) := by decide +kernel
theorem dX10_init_34 : decode cX10_init 34 = .ok (.putfield 26, 3) := by decide +kernel
theorem dX10_init_37 : decode cX10_init 37 = .ok (.aload_n 0, 1) := by decide +kernel
theorem dX10_init_38 : decode cX10_init 38 = .ok (.new 23, 3) := by decide +kernel
theorem dX10_init_41 : decode cX10_init 41 = .ok (.dup, 1) := by decide +kernel
theorem dX10_init_42 : decode cX10_init 42 = .ok (.invokespecial 25, 3) := by decide +kernel
theorem dX10_init_45 : decode cX10_init 45 = .ok (.putfield 30, 3) := by decide +kernel
theorem dX10_init_48 : decode cX10_init 48 = .ok (.aload_n 0, 1) := by decide +kernel
theorem dX10_init_49 : decode cX10_init 49 = .ok (.bipush 8, 2) := by decide +kernel
theorem dX10_init_51 : decode cX10_init 51 = .ok (.anewarray 23, 3) := by decide +kernel
theorem dX10_init_54 : decode cX10_init 54 = .ok (.putfield 33, 3) := by decide +kernel
theorem dX10_init_57 : decode cX10_init 57 = .ok (.aload_n 0, 1) := by decide +kernel
theorem dX10_init_58 : decode cX10_init 58 = .ok (.new 37, 3) := by decide +kernel
theorem dX10_init_61 : decode cX10_init 61 = .ok (.dup, 1) := by decide +kernel
theorem dX10_init_62 : decode cX10_init 62 = .ok (.invokespecial 39, 3) := by decide +kernel
theorem dX10_init_65 : decode cX10_init 65 = .ok (.putfield 40, 3) := by decide +kernel
theorem dX10_init_68 : decode cX10_init 68 = .ok (.aload_n 0, 1) := by decide +kernel
theorem dX10_init_69 : decode cX10_init 69 = .ok (.new 44, 3) := by decide +kernel
theorem dX10_init_72 : decode cX10_init 72 = .ok (.dup, 1) := by decide +kernel
theorem dX10_init_73 : decode cX10_init 73 = .ok (.invokespecial 46, 3) := by decide +kernel
theorem dX10_init_76 : decode cX10_init 76 = .ok (.putfield 47, 3) := by decide +kernel
theorem dX10_init_79 : decode cX10_init 79 = .ok (.aload_n 0, 1) := by decide +kernel
theorem dX10_init_80 : decode cX10_init 80 = .ok (.new 51, 3) := by decide +kernel
theorem dX10_init_83 : decode cX10_init 83 = .ok (.dup, 1) := by decide +kernel
theorem dX10_init_84 : decode cX10_init 84 = .ok (.invokespecial 53, 3) := by decide +kernel
theorem dX10_init_87 : decode cX10_init 87 = .ok (.putfield 54, 3) := by decide +kernel
theorem dX10_init_90 : decode cX10_init 90 = .ok (.aload_n 0, 1) := by decide +kernel
theorem dX10_init_91 : decode cX10_init 91 = .ok (.new 58, 3) := by decide +kernel
theorem dX10_init_94 : decode cX10_init 94 = .ok (.dup, 1) := by decide +kernel
theorem dX10_init_95 : decode cX10_init 95 = .ok (.invokespecial 60, 3) := by decide +kernel
theorem dX10_init_98 : decode cX10_init 98 = .ok (.putfield 61, 3) := by decide +kernel
theorem dX10_init_101 : decode cX10_init 101 = .ok (.aload_n 0, 1) := by decide +kernel
theorem dX10_init_102 : decode cX10_init 102 = .ok (.new 65, 3) := by decide +kernel
theorem dX10_init_105 : decode cX10_init 105 = .ok (.dup, 1) := by decide +kernel
theorem dX10_init_106 : decode cX10_init 106 = .ok (.invokespecial 67, 3) := by decide +kernel
theorem dX10_init_109 : decode cX10_init 109 = .ok (.putfield 68, 3) := by decide +kernel
theorem dX10_init_112 : decode cX10_init 112 = .ok (.aload_n 0, 1) := by decide +kernel
theorem dX10_init_113 : decode cX10_init 113 = .ok (.new 72, 3) := by decide +kernel
theorem dX10_init_116 : decode cX10_init 116 = .ok (.dup, 1) := by decide +kernel
theorem dX10_init_117 : decode cX10_init 117 = .ok (.invokespecial 74, 3) := by decide +kernel
theorem dX10_init_120 : decode cX10_init 120 = .ok (.putfield 75, 3) := by decide +kernel
theorem dX10_init_123 : decode cX10_init 123 = .ok (.aload_n 0, 1) := by decide +kernel
theorem dX10_init_124 : decode cX10_init 124 = .ok (.bipush 6, 2) := by decide +kernel
theorem dX10_init_126 : decode cX10_init 126 = .ok (.anewarray 79, 3) := by decide +kernel
theorem dX10_init_129 : decode cX10_init 129 = .ok (.putfield 81, 3) := by decide +kernel
theorem dX10_init_132 : decode cX10_init 132 = .ok (.iconst 0, 1) := by decide +kernel
theorem dX10_init_133 : decode cX10_init 133 = .ok (.istore_n 1, 1) := by decide +kernel
theorem dX10_init_134 : decode cX10_init 134 = .ok (.iload_n 1, 1) := by decide +kernel
theorem dX10_init_135 : decode cX10_init 135 = .ok (.bipush 8, 2) := by decide +kernel
theorem dX10_init_137 : decode cX10_init 137 = .ok (.if_icmp .ge 22, 3) := by decide +kernel
theorem dX10_init_140 : decode cX10_init 140 = .ok (.aload_n 0, 1) := by decide +kernel
theorem dX10_init_141 : decode cX10_init 141 = .ok (.getfield 33, 3) := by decide +kernel
theorem dX10_init_144 : decode cX10_init 144 = .ok (.iload_n 1, 1) := by decide +kernel
theorem dX10_init_145 : decode cX10_init 145 = .ok (.new 23, 3) := by decide +kernel
theorem dX10_init_148 : decode cX10_init 148 = .ok (.dup, 1) := by decide +kernel
theorem dX10_init_149 : decode cX10_init 149 = .ok (.invokespecial 25, 3) := by decide +kernel
theorem dX10_init_152 : decode cX10_init 152 = .ok (.aastore, 1) := by decide +kernel
theorem dX10_init_153 : decode cX10_init 153 = .ok (.iinc 1 1, 3) := by decide +kernel
theorem dX10_init_156 : decode cX10_init 156 = .ok (.goto (-22), 3) := by decide +kernel
theorem dX10_init_159 : decode cX10_init 159 = .ok (.iconst 0, 1) := by decide +kernel
theorem dX10_init_160 : decode cX10_init 160 = .ok (.istore_n 1, 1) := by decide +kernel
theorem dX10_init_161 : decode cX10_init 161 = .ok (.iload_n 1, 1) := by decide +kernel
theorem dX10_init_162 : decode cX10_init 162 = .ok (.bipush 6, 2) := by decide +kernel
theorem dX10_init_164 : decode cX10_init 164 = .ok (.if_icmp .ge 22, 3) := by decide +kernel
theorem dX10_init_167 : decode cX10_init 167 = .ok (.aload_n 0, 1) := by decide +kernel
theorem dX10_init_168 : decode cX10_init 168 = .ok (.getfield 81, 3) := by decide +kernel
theorem dX10_init_171 : decode cX10_init 171 = .ok (.iload_n 1, 1) := by decide +kernel
theorem dX10_init_172 : decode cX10_init 172 = .ok (.new 79, 3) := by decide +kernel
theorem dX10_init_175 : decode cX10_init 175 = .ok (.dup, 1) := by decide +kernel
theorem dX10_init_176 : decode cX10_init 176 = .ok (.invokespecial 85, 3) := by decide +kernel
theorem dX10_init_179 : decode cX10_init 179 = .ok (.aastore, 1) := by decide +kernel
theorem dX10_init_180 : decode cX10_init 180 = .ok (.iinc 1 1, 3) := by decide +kernel
theorem dX10_init_183 : decode cX10_init 183 = .ok (.goto (-22), 3) := by decide +kernel
theorem dX10_init_186 : decode cX10_init 186 = .ok (.return_, 1) := by decide +kernel
set_option maxRecDepth 20000 in
theorem ggX10_begin_X5_forget : GoodIn wsX10_begin wsX5_forget := goodIn_r _ [17, 18, 19, 73, 74, 75, 76] (by decide +kernel) (by decide +kernel)
set_option maxRecDepth 20000 in
theorem gX10_begin_X5_forget : GoodIn wsX10_begin (wsV RX10 86 RX5 yX5_forget wsX5_forget) := goodIn_app (goodIn_of _ (by decide +kernel)) ggX10_begin_X5_forget
set_option maxRecDepth 20000 in
theorem ggX10_begin_X1_forget : GoodIn wsX10_begin wsX1_forget := goodIn_r _ [24, 25, 77, 78, 79] (by decide +kernel) (by decide +kernel)
set_option maxRecDepth 20000 in
theorem gX10_begin_X1_forget : GoodIn wsX10_begin (wsV RX10 89 RX1 yX1_forget wsX1_forget) := goodIn_app (goodIn_of _ (by decide +kernel)) ggX10_begin_X1_forget
set_option maxRecDepth 20000 in
theorem ggX10_begin_X0_reset : GoodIn wsX10_begin wsX0_reset := goodIn_r _ [30, 31, 32, 33, 34, 35, 36, 80, 81, 82, 83, 84] (by decide +kernel) (by decide +kernel)
set_option maxRecDepth 20000 in
theorem gX10_begin_X0_reset : GoodIn wsX10_begin (wsV RX10 94 RX0 yX0_reset wsX0_reset) := goodIn_app (goodIn_of _ (by decide +kernel)) ggX10_begin_X0_reset
set_option maxRecDepth 20000 in
theorem ggX10_begin_X8_forget : GoodIn wsX10_begin wsX8_forget := goodIn_r _ [41, 42, 43, 85, 86, 87, 88, 89, 90, 91, 92, 93, 94, 95, 96, 97, 98] (by decide +kernel) (by decide +kernel)
set_option maxRecDepth 20000 in
theorem gX10_begin_X8_forget : GoodIn wsX10_begin (wsV RX10 100 RX8 yX8_forget wsX8_forget) := goodIn_app (goodIn_of _ (by decide +kernel)) ggX10_begin_X8_forget
theorem dX10_begin_0 : decode cX10_begin 0 = .ok (.aload_n 0, 1) := by decide +kernel
theorem dX10_begin_1 : decode cX10_begin 1 = .ok (.getfield 10, 3) := by decide +kernel
theorem dX10_begin_4 : decode cX10_begin 4 = .ok (.invokevirtual 86, 3) := by decide +kernel
theorem dX10_begin_7 : decode cX10_begin 7 = .ok (.aload_n 0, 1) := by decide +kernel
theorem dX10_begin_8 : decode cX10_begin 8 = .ok (.getfield 26, 3) := by decide +kernel
theorem dX10_begin_11 : decode cX10_begin 11 = .ok (.invokevirtual 89, 3) := by decide +kernel
theorem dX10_begin_14 : decode cX10_begin 14 = .ok (.iconst 0, 1) := by decide +kernel
theorem dX10_begin_15 : decode cX10_begin 15 = .ok (.istore_n 1, 1) := by decide +kernel
theorem dX10_begin_16 : decode cX10_begin 16 = .ok (.iload_n 1, 1) := by decide +kernel
theorem dX10_begin_17 : decode cX10_begin 17 = .ok (.bipush 8, 2) := by decide +kernel
theorem dX10_begin_19 : decode cX10_begin 19 = .ok (.if_icmp .ge 18, 3) := by decide +kernel
theorem dX10_begin_22 : decode cX10_begin 22 = .ok (.aload_n 0, 1) := by decide +kernel
theorem dX10_begin_23 : decode cX10_begin 23 = .ok (.getfield 33, 3) := by decide +kernel
theorem dX10_begin_26 : decode cX10_begin 26 = .ok (.iload_n 1, 1) := by decide +kernel
theorem dX10_begin_27 : decode cX10_begin 27 = .ok (.aaload, 1) := by decide +kernel
theorem dX10_begin_28 : decode cX10_begin 28 = .ok (.invokevirtual 89, 3) := by decide +kernel
theorem dX10_begin_31 : decode cX10_begin 31 = .ok (.iinc 1 1, 3) := by decide +kernel
theorem dX10_begin_34 : decode cX10_begin 34 = .ok (.goto (-18), 3) := by decide +kernel
theorem dX10_begin_37 : decode cX10_begin 37 = .ok (.aload_n 0, 1) := by decide +kernel
theorem dX10_begin_38 : decode cX10_begin 38 = .ok (.getfield 40, 3) := by decide +kernel
theorem dX10_begin_41 : decode cX10_begin 41 = .ok (.iconst 0, 1) := by decide +kernel
theorem dX10_begin_42 : decode cX10_begin 42 = .ok (.putfield 90, 3) := by decide +kernel
theorem dX10_begin_45 : decode cX10_begin 45 = .ok (.aload_n 0, 1) := by decide +kernel
theorem dX10_begin_46 : decode cX10_begin 46 = .ok (.getfield 47, 3) := by decide +kernel
theorem dX10_begin_49 : decode cX10_begin 49 = .ok (.invokevirtual 94, 3) := by decide +kernel
theorem dX10_begin_52 : decode cX10_begin 52 = .ok (.aload_n 0, 1) := by decide +kernel
theorem dX10_begin_53 : decode cX10_begin 53 = .ok (.getfield 54, 3) := by decide +kernel
theorem dX10_begin_56 : decode cX10_begin 56 = .ok (.iconst 0, 1) := by decide +kernel
theorem dX10_begin_57 : decode cX10_begin 57 = .ok (.putfield 97, 3) := by decide +kernel
theorem dX10_begin_60 : decode cX10_begin 60 = .ok (.aload_n 0, 1) := by decide +kernel
theorem dX10_begin_61 : decode cX10_begin 61 = .ok (.getfield 61, 3) := by decide +kernel
theorem dX10_begin_64 : decode cX10_begin 64 = .ok (.invokevirtual 100, 3) := by decide +kernel
theorem dX10_begin_67 : decode cX10_begin 67 = .ok (.aload_n 0, 1) := by decide +kernel
theorem dX10_begin_68 : decode cX10_begin 68 = .ok (.getfield 75, 3) := by decide +kernel
theorem dX10_begin_71 : decode cX10_begin 71 = .ok (.iconst 0, 1) := by decide +kernel
theorem dX10_begin_72 : decode cX10_begin 72 = .ok (.putfield 101, 3) := by decide +kernel
theorem dX10_begin_75 : decode cX10_begin 75 = .ok (.aload_n 0, 1) := by decide +kernel
theorem dX10_begin_76 : decode cX10_begin 76 = .ok (.iconst 0, 1) := by decide +kernel
theorem dX10_begin_77 : decode cX10_begin 77 = .ok (.putfield 104, 3) := by decide +kernel
theorem dX10_begin_80 : decode cX10_begin 80 = .ok (.iconst 0, 1) := by decide +kernel
theorem dX10_begin_81 : decode cX10_begin 81 = .ok (.ireturn, 1) := by decide +kernel
set_option maxRecDepth 20000 in
theorem ggX10_read_X10_againstSort : GoodIn wsX10_read wsX10_againstSort := goodIn_r _ [10, 2, 11, 12, 13, 9, 14, 85, 86, 87, 88, 89, 90, 91, 92, 93, 94, 95, 96, 97, 111, 112, 113, 114] (by decide +kernel) (by decide +kernel)
set_option maxRecDepth 20000 in
theorem gX10_read_X10_againstSort : GoodIn wsX10_read (wsV RX10 107 RX10 yX10_againstSort wsX10_againstSort) := goodIn_app (goodIn_of _ (by decide +kernel)) ggX10_read_X10_againstSort
set_option maxRecDepth 20000 in
theorem ggX10_read_X10_counted : GoodIn wsX10_read wsX10_counted := goodIn_r _ [18, 19, 85, 86, 87, 88, 89, 90, 91, 92, 93, 94, 95, 96, 97] (by decide +kernel) (by decide +kernel)
set_option maxRecDepth 20000 in
theorem gX10_read_X10_counted : GoodIn wsX10_read (wsV RX10 111 RX10 yX10_counted wsX10_counted) := goodIn_app (goodIn_of _ (by decide +kernel)) ggX10_read_X10_counted
set_option maxRecDepth 20000 in
theorem ggX10_read_X6_firstFault : GoodIn wsX10_read wsX6_firstFault := goodIn_r _ [24, 25, 26, 27, 28, 29, 30, 31, 23, 32, 33, 34, 35, 36, 37, 38, 39, 40, 41, 42, 43, 44, 45, 46, 47, 48, 49, 50, 51, 52, 53, 54, 55, 56, 57, 58, 59, 60, 61, 62, 63, 64, 65, 9, 66, 67, 68, 69, 70, 71, 72, 73, 74, 75, 76, 111, 112, 113, 114, 98, 99, 100, 101, 102, 103, 104, 105, 106, 107, 108, 109, 110] (by decide +kernel) (by decide +kernel)
set_option maxRecDepth 20000 in
theorem gX10_read_X6_firstFault : GoodIn wsX10_read (wsV RX10 115 RX6 yX6_firstFault wsX6_firstFault) := goodIn_app (goodIn_of _ (by decide +kernel)) ggX10_read_X6_firstFault
set_option maxRecDepth 20000 in
theorem ggX10_read_X5_become : GoodIn wsX10_read wsX5_become := goodIn_r _ [80, 63, 81, 82, 83, 84, 64, 44, 45, 107, 108, 109, 110] (by decide +kernel) (by decide +kernel)
set_option maxRecDepth 20000 in
theorem gX10_read_X5_become : GoodIn wsX10_read (wsV RX10 122 RX5 yX5_become wsX5_become) := goodIn_app (goodIn_of _ (by decide +kernel)) ggX10_read_X5_become
theorem dX10_read_0 : decode cX10_read 0 = .ok (.aload_n 0, 1) := by decide +kernel
theorem dX10_read_1 : decode cX10_read 1 = .ok (.iload_n 1, 1) := by decide +kernel
theorem dX10_read_2 : decode cX10_read 2 = .ok (.iconst 1, 1) := by decide +kernel
theorem dX10_read_3 : decode cX10_read 3 = .ok (.invokevirtual 107, 3) := by decide +kernel
theorem dX10_read_6 : decode cX10_read 6 = .ok (.istore_n 2, 1) := by decide +kernel
theorem dX10_read_7 : decode cX10_read 7 = .ok (.iload_n 2, 1) := by decide +kernel
theorem dX10_read_8 : decode cX10_read 8 = .ok (.ifCond .eq 9, 3) := by decide +kernel
theorem dX10_read_11 : decode cX10_read 11 = .ok (.aload_n 0, 1) := by decide +kernel
theorem dX10_read_12 : decode cX10_read 12 = .ok (.iload_n 2, 1) := by decide +kernel
theorem dX10_read_13 : decode cX10_read 13 = .ok (.invokevirtual 111, 3) := by decide +kernel
theorem dX10_read_16 : decode cX10_read 16 = .ok (.ireturn, 1) := by decide +kernel
theorem dX10_read_17 : decode cX10_read 17 = .ok (.aload_n 0, 1) := by decide +kernel
theorem dX10_read_18 : decode cX10_read 18 = .ok (.getfield 19, 3) := by decide +kernel
theorem dX10_read_21 : decode cX10_read 21 = .ok (.aload_n 0, 1) := by decide +kernel
theorem dX10_read_22 : decode cX10_read 22 = .ok (.getfield 81, 3) := by decide +kernel
theorem dX10_read_25 : decode cX10_read 25 = .ok (.iload_n 1, 1) := by decide +kernel
theorem dX10_read_26 : decode cX10_read 26 = .ok (.aaload, 1) := by decide +kernel
theorem dX10_read_27 : decode cX10_read 27 = .ok (.invokevirtual 115, 3) := by decide +kernel
theorem dX10_read_30 : decode cX10_read 30 = .ok (.istore_n 3, 1) := by decide +kernel
theorem dX10_read_31 : decode cX10_read 31 = .ok (.iload_n 3, 1) := by decide +kernel
theorem dX10_read_32 : decode cX10_read 32 = .ok (.iconst (-1), 1) := by decide +kernel
theorem dX10_read_33 : decode cX10_read 33 = .ok (.if_icmp .eq 8, 3) := by decide +kernel
theorem dX10_read_36 : decode cX10_read 36 = .ok (.bipush (-100), 2) := by decide +kernel
theorem dX10_read_38 : decode cX10_read 38 = .ok (.iload_n 3, 1) := by decide +kernel
theorem dX10_read_39 : decode cX10_read 39 = .ok (.isub, 1) := by decide +kernel
theorem dX10_read_40 : decode cX10_read 40 = .ok (.ireturn, 1) := by decide +kernel
theorem dX10_read_41 : decode cX10_read 41 = .ok (.aload_n 0, 1) := by decide +kernel
theorem dX10_read_42 : decode cX10_read 42 = .ok (.getfield 10, 3) := by decide +kernel
theorem dX10_read_45 : decode cX10_read 45 = .ok (.aload_n 0, 1) := by decide +kernel
theorem dX10_read_46 : decode cX10_read 46 = .ok (.getfield 19, 3) := by decide +kernel
theorem dX10_read_49 : decode cX10_read 49 = .ok (.getfield 119, 3) := by decide +kernel
theorem dX10_read_52 : decode cX10_read 52 = .ok (.invokevirtual 122, 3) := by decide +kernel
theorem dX10_read_55 : decode cX10_read 55 = .ok (.aload_n 0, 1) := by decide +kernel
theorem dX10_read_56 : decode cX10_read 56 = .ok (.getfield 10, 3) := by decide +kernel
theorem dX10_read_59 : decode cX10_read 59 = .ok (.getfield 126, 3) := by decide +kernel
theorem dX10_read_62 : decode cX10_read 62 = .ok (.ireturn, 1) := by decide +kernel
theorem dX10_point_0 : decode cX10_point 0 = .ok (.iload_n 2, 1) := by decide +kernel
theorem dX10_point_1 : decode cX10_point 1 = .ok (.ifCond .lt 8, 3) := by decide +kernel
theorem dX10_point_4 : decode cX10_point 4 = .ok (.iload_n 2, 1) := by decide +kernel
theorem dX10_point_5 : decode cX10_point 5 = .ok (.iconst 1, 1) := by decide +kernel
theorem dX10_point_6 : decode cX10_point 6 = .ok (.if_icmp .le 13, 3) := by decide +kernel
theorem dX10_point_9 : decode cX10_point 9 = .ok (.new 129, 3) := by decide +kernel
theorem dX10_point_12 : decode cX10_point 12 = .ok (.dup, 1) := by decide +kernel
theorem dX10_point_13 : decode cX10_point 13 = .ok (.ldc 131, 2) := by decide +kernel
theorem dX10_point_15 : decode cX10_point 15 = .ok (.invokespecial 133, 3) := by decide +kernel
theorem dX10_point_18 : decode cX10_point 18 = .ok (.athrow, 1) := by decide +kernel
theorem dX10_point_19 : decode cX10_point 19 = .ok (.iload_n 1, 1) := by decide +kernel
theorem dX10_point_20 : decode cX10_point 20 = .ok (.ifCond .lt 14, 3) := by decide +kernel
theorem dX10_point_23 : decode cX10_point 23 = .ok (.iload_n 1, 1) := by decide +kernel
theorem dX10_point_24 : decode cX10_point 24 = .ok (.aload_n 0, 1) := by decide +kernel
theorem dX10_point_25 : decode cX10_point 25 = .ok (.getfield 10, 3) := by decide +kernel
theorem dX10_point_28 : decode cX10_point 28 = .ok (.getfield 126, 3) := by decide +kernel
theorem dX10_point_31 : decode cX10_point 31 = .ok (.if_icmp .lt 13, 3) := by decide +kernel
theorem dX10_point_34 : decode cX10_point 34 = .ok (.new 136, 3) := by decide +kernel
theorem dX10_point_37 : decode cX10_point 37 = .ok (.dup, 1) := by decide +kernel
theorem dX10_point_38 : decode cX10_point 38 = .ok (.ldc 138, 2) := by decide +kernel
theorem dX10_point_40 : decode cX10_point 40 = .ok (.invokespecial 140, 3) := by decide +kernel
theorem dX10_point_43 : decode cX10_point 43 = .ok (.athrow, 1) := by decide +kernel
theorem dX10_point_44 : decode cX10_point 44 = .ok (.iload_n 2, 1) := by decide +kernel
theorem dX10_point_45 : decode cX10_point 45 = .ok (.ifCond .ne 15, 3) := by decide +kernel
theorem dX10_point_48 : decode cX10_point 48 = .ok (.aload_n 0, 1) := by decide +kernel
theorem dX10_point_49 : decode cX10_point 49 = .ok (.getfield 10, 3) := by decide +kernel
theorem dX10_point_52 : decode cX10_point 52 = .ok (.getfield 141, 3) := by decide +kernel
theorem dX10_point_55 : decode cX10_point 55 = .ok (.iload_n 1, 1) := by decide +kernel
theorem dX10_point_56 : decode cX10_point 56 = .ok (.iaload, 1) := by decide +kernel
theorem dX10_point_57 : decode cX10_point 57 = .ok (.goto 12, 3) := by decide +kernel
theorem dX10_point_60 : decode cX10_point 60 = .ok (.aload_n 0, 1) := by decide +kernel
theorem dX10_point_61 : decode cX10_point 61 = .ok (.getfield 10, 3) := by decide +kernel
theorem dX10_point_64 : decode cX10_point 64 = .ok (.getfield 145, 3) := by decide +kernel
theorem dX10_point_67 : decode cX10_point 67 = .ok (.iload_n 1, 1) := by decide +kernel
theorem dX10_point_68 : decode cX10_point 68 = .ok (.iaload, 1) := by decide +kernel
theorem dX10_point_69 : decode cX10_point 69 = .ok (.ireturn, 1) := by decide +kernel
theorem dX10_advance_0 : decode cX10_advance 0 = .ok (.aload_n 0, 1) := by decide +kernel
theorem dX10_advance_1 : decode cX10_advance 1 = .ok (.getfield 10, 3) := by decide +kernel
theorem dX10_advance_4 : decode cX10_advance 4 = .ok (.getfield 126, 3) := by decide +kernel
theorem dX10_advance_7 : decode cX10_advance 7 = .ok (.ifCond .ne 13, 3) := by decide +kernel
theorem dX10_advance_10 : decode cX10_advance 10 = .ok (.new 136, 3) := by decide +kernel
theorem dX10_advance_13 : decode cX10_advance 13 = .ok (.dup, 1) := by decide +kernel
theorem dX10_advance_14 : decode cX10_advance 14 = .ok (.ldc 148, 2) := by decide +kernel
theorem dX10_advance_16 : decode cX10_advance 16 = .ok (.invokespecial 140, 3) := by decide +kernel
theorem dX10_advance_19 : decode cX10_advance 19 = .ok (.athrow, 1) := by decide +kernel
theorem dX10_advance_20 : decode cX10_advance 20 = .ok (.aload_n 0, 1) := by decide +kernel
theorem dX10_advance_21 : decode cX10_advance 21 = .ok (.getfield 10, 3) := by decide +kernel
theorem dX10_advance_24 : decode cX10_advance 24 = .ok (.getfield 150, 3) := by decide +kernel
theorem dX10_advance_27 : decode cX10_advance 27 = .ok (.ireturn, 1) := by decide +kernel
set_option maxRecDepth 20000 in
theorem ggX10_make_X1_becomesMadeFrom : GoodIn wsX10_make wsX1_becomesMadeFrom := goodIn_r _ [9, 10, 11, 12, 13, 8, 14, 15, 16, 17, 18, 19, 20, 21, 22, 23, 24, 25, 26, 27, 28, 29, 30, 31, 32, 33, 34, 35, 36, 37, 38, 39, 40, 41, 42, 43, 44, 45, 46, 47, 48, 49, 63, 64, 65, 66, 67, 68, 69] (by decide +kernel) (by decide +kernel)
set_option maxRecDepth 20000 in
theorem gX10_make_X1_becomesMadeFrom : GoodIn wsX10_make (wsV RX10 153 RX1 yX1_becomesMadeFrom wsX1_becomesMadeFrom) := goodIn_app (goodIn_of _ (by decide +kernel)) ggX10_make_X1_becomesMadeFrom
theorem dX10_make_0 : decode cX10_make 0 = .ok (.iload_n 1, 1) := by decide +kernel
theorem dX10_make_1 : decode cX10_make 1 = .ok (.iconst 1, 1) := by decide +kernel
theorem dX10_make_2 : decode cX10_make 2 = .ok (.if_icmp .lt 20, 3) := by decide +kernel
theorem dX10_make_5 : decode cX10_make 5 = .ok (.iload_n 1, 1) := by decide +kernel
theorem dX10_make_6 : decode cX10_make 6 = .ok (.bipush 12, 2) := by decide +kernel
theorem dX10_make_8 : decode cX10_make 8 = .ok (.if_icmp .gt 14, 3) := by decide +kernel
theorem dX10_make_11 : decode cX10_make 11 = .ok (.iload_n 2, 1) := by decide +kernel
theorem dX10_make_12 : decode cX10_make 12 = .ok (.iconst 1, 1) := by decide +kernel
theorem dX10_make_13 : decode cX10_make 13 = .ok (.if_icmp .lt 9, 3) := by decide +kernel
theorem dX10_make_16 : decode cX10_make 16 = .ok (.iload_n 2, 1) := by decide +kernel
theorem dX10_make_17 : decode cX10_make 17 = .ok (.bipush 12, 2) := by decide +kernel
theorem dX10_make_19 : decode cX10_make 19 = .ok (.if_icmp .le 5, 3) := by decide +kernel
theorem dX10_make_22 : decode cX10_make 22 = .ok (.iconst (-1), 1) := by decide +kernel
theorem dX10_make_23 : decode cX10_make 23 = .ok (.ireturn, 1) := by decide +kernel
theorem dX10_make_24 : decode cX10_make 24 = .ok (.aload_n 0, 1) := by decide +kernel
theorem dX10_make_25 : decode cX10_make 25 = .ok (.getfield 10, 3) := by decide +kernel
theorem dX10_make_28 : decode cX10_make 28 = .ok (.getfield 126, 3) := by decide +kernel
theorem dX10_make_31 : decode cX10_make 31 = .ok (.ifCond .ne 6, 3) := by decide +kernel
theorem dX10_make_34 : decode cX10_make 34 = .ok (.bipush (-3), 2) := by decide +kernel
theorem dX10_make_36 : decode cX10_make 36 = .ok (.ireturn, 1) := by decide +kernel
theorem dX10_make_37 : decode cX10_make 37 = .ok (.aload_n 0, 1) := by decide +kernel
theorem dX10_make_38 : decode cX10_make 38 = .ok (.getfield 26, 3) := by decide +kernel
theorem dX10_make_41 : decode cX10_make 41 = .ok (.aload_n 0, 1) := by decide +kernel
theorem dX10_make_42 : decode cX10_make 42 = .ok (.getfield 10, 3) := by decide +kernel
theorem dX10_make_45 : decode cX10_make 45 = .ok (.iload_n 1, 1) := by decide +kernel
theorem dX10_make_46 : decode cX10_make 46 = .ok (.iload_n 2, 1) := by decide +kernel
theorem dX10_make_47 : decode cX10_make 47 = .ok (.invokevirtual 153, 3) := by decide +kernel
theorem dX10_make_50 : decode cX10_make 50 = .ok (.ifCond .eq 13, 3) := by decide +kernel
theorem dX10_make_53 : decode cX10_make 53 = .ok (.aload_n 0, 1) := by decide +kernel
theorem dX10_make_54 : decode cX10_make 54 = .ok (.getfield 26, 3) := by decide +kernel
theorem dX10_make_57 : decode cX10_make 57 = .ok (.getfield 157, 3) := by decide +kernel
theorem dX10_make_60 : decode cX10_make 60 = .ok (.goto 5, 3) := by decide +kernel
theorem dX10_make_63 : decode cX10_make 63 = .ok (.bipush (-2), 2) := by decide +kernel
theorem dX10_make_65 : decode cX10_make 65 = .ok (.ireturn, 1) := by decide +kernel
set_option maxRecDepth 20000 in
theorem ggX10_disc_X1_sumOfFeeds : GoodIn wsX10_disc wsX1_sumOfFeeds := goodIn_r _ [13, 14, 15, 56, 57, 58] (by decide +kernel) (by decide +kernel)
set_option maxRecDepth 20000 in
theorem gX10_disc_X1_sumOfFeeds : GoodIn wsX10_disc (wsV RX10 162 RX1 yX1_sumOfFeeds wsX1_sumOfFeeds) := goodIn_app (goodIn_of _ (by decide +kernel)) ggX10_disc_X1_sumOfFeeds
set_option maxRecDepth 20000 in
theorem ggX10_disc_X1_steepness : GoodIn wsX10_disc wsX1_steepness := goodIn_r _ [19, 14, 20, 21, 22, 23, 24, 25, 26, 27, 28, 29, 30, 12, 31, 56, 57, 58] (by decide +kernel) (by decide +kernel)
set_option maxRecDepth 20000 in
theorem gX10_disc_X1_steepness : GoodIn wsX10_disc (wsV RX10 166 RX1 yX1_steepness wsX1_steepness) := goodIn_app (goodIn_of _ (by decide +kernel)) ggX10_disc_X1_steepness
set_option maxRecDepth 20000 in
theorem ggX10_disc_X1_greatestOf : GoodIn wsX10_disc wsX1_greatestOf := goodIn_r _ [35, 14, 25, 26, 23, 27, 56, 57, 58] (by decide +kernel) (by decide +kernel)
set_option maxRecDepth 20000 in
theorem gX10_disc_X1_greatestOf : GoodIn wsX10_disc (wsV RX10 172 RX1 yX1_greatestOf wsX1_greatestOf) := goodIn_app (goodIn_of _ (by decide +kernel)) ggX10_disc_X1_greatestOf
set_option maxRecDepth 20000 in
theorem ggX10_disc_X1_leastOf : GoodIn wsX10_disc wsX1_leastOf := goodIn_r _ [39, 14, 40, 41, 23, 42, 56, 57, 58] (by decide +kernel) (by decide +kernel)
set_option maxRecDepth 20000 in
theorem gX10_disc_X1_leastOf : GoodIn wsX10_disc (wsV RX10 176 RX1 yX1_leastOf wsX1_leastOf) := goodIn_app (goodIn_of _ (by decide +kernel)) ggX10_disc_X1_leastOf
theorem dX10_disc_0 : decode cX10_disc 0 = .ok (.iload_n 1, 1) := by decide +kernel
theorem dX10_disc_1 : decode cX10_disc 1 = .ok (.ifCond .lt 9, 3) := by decide +kernel
theorem dX10_disc_4 : decode cX10_disc 4 = .ok (.iload_n 1, 1) := by decide +kernel
theorem dX10_disc_5 : decode cX10_disc 5 = .ok (.bipush 6, 2) := by decide +kernel
theorem dX10_disc_7 : decode cX10_disc 7 = .ok (.if_icmp .le 13, 3) := by decide +kernel
theorem dX10_disc_10 : decode cX10_disc 10 = .ok (.new 129, 3) := by decide +kernel
theorem dX10_disc_13 : decode cX10_disc 13 = .ok (.dup, 1) := by decide +kernel
theorem dX10_disc_14 : decode cX10_disc 14 = .ok (.ldc 131, 2) := by decide +kernel
theorem dX10_disc_16 : decode cX10_disc 16 = .ok (.invokespecial 133, 3) := by decide +kernel
theorem dX10_disc_19 : decode cX10_disc 19 = .ok (.athrow, 1) := by decide +kernel
theorem dX10_disc_20 : decode cX10_disc 20 = .ok (.aload_n 0, 1) := by decide +kernel
theorem dX10_disc_21 : decode cX10_disc 21 = .ok (.getfield 26, 3) := by decide +kernel
theorem dX10_disc_24 : decode cX10_disc 24 = .ok (.getfield 157, 3) := by decide +kernel
theorem dX10_disc_27 : decode cX10_disc 27 = .ok (.ifCond .ne 13, 3) := by decide +kernel
theorem dX10_disc_30 : decode cX10_disc 30 = .ok (.new 136, 3) := by decide +kernel
theorem dX10_disc_33 : decode cX10_disc 33 = .ok (.dup, 1) := by decide +kernel
theorem dX10_disc_34 : decode cX10_disc 34 = .ok (.ldc 160, 2) := by decide +kernel
theorem dX10_disc_36 : decode cX10_disc 36 = .ok (.invokespecial 140, 3) := by decide +kernel
theorem dX10_disc_39 : decode cX10_disc 39 = .ok (.athrow, 1) := by decide +kernel
theorem dX10_disc_40 : decode cX10_disc 40 = .ok (.iload_n 1, 1) := by decide +kernel
theorem dX10_disc_41 : decode cX10_disc 41 = .ok (.tableswitch 108 0 5 #[39, 47, 55, 63, 78, 93], 39) := by decide +kernel
theorem dX10_disc_80 : decode cX10_disc 80 = .ok (.aload_n 0, 1) := by decide +kernel
theorem dX10_disc_81 : decode cX10_disc 81 = .ok (.getfield 26, 3) := by decide +kernel
theorem dX10_disc_84 : decode cX10_disc 84 = .ok (.getfield 157, 3) := by decide +kernel
theorem dX10_disc_87 : decode cX10_disc 87 = .ok (.ireturn, 1) := by decide +kernel
theorem dX10_disc_88 : decode cX10_disc 88 = .ok (.aload_n 0, 1) := by decide +kernel
theorem dX10_disc_89 : decode cX10_disc 89 = .ok (.getfield 26, 3) := by decide +kernel
theorem dX10_disc_92 : decode cX10_disc 92 = .ok (.invokevirtual 162, 3) := by decide +kernel
theorem dX10_disc_95 : decode cX10_disc 95 = .ok (.ireturn, 1) := by decide +kernel
theorem dX10_disc_96 : decode cX10_disc 96 = .ok (.aload_n 0, 1) := by decide +kernel
theorem dX10_disc_97 : decode cX10_disc 97 = .ok (.getfield 26, 3) := by decide +kernel
theorem dX10_disc_100 : decode cX10_disc 100 = .ok (.invokevirtual 166, 3) := by decide +kernel
theorem dX10_disc_103 : decode cX10_disc 103 = .ok (.ireturn, 1) := by decide +kernel
theorem dX10_disc_104 : decode cX10_disc 104 = .ok (.aload_n 0, 1) := by decide +kernel
theorem dX10_disc_105 : decode cX10_disc 105 = .ok (.getfield 26, 3) := by decide +kernel
theorem dX10_disc_108 : decode cX10_disc 108 = .ok (.aload_n 0, 1) := by decide +kernel
theorem dX10_disc_109 : decode cX10_disc 109 = .ok (.getfield 26, 3) := by decide +kernel
theorem dX10_disc_112 : decode cX10_disc 112 = .ok (.getfield 169, 3) := by decide +kernel
theorem dX10_disc_115 : decode cX10_disc 115 = .ok (.invokevirtual 172, 3) := by decide +kernel
theorem dX10_disc_118 : decode cX10_disc 118 = .ok (.ireturn, 1) := by decide +kernel
theorem dX10_disc_119 : decode cX10_disc 119 = .ok (.aload_n 0, 1) := by decide +kernel
theorem dX10_disc_120 : decode cX10_disc 120 = .ok (.getfield 26, 3) := by decide +kernel
theorem dX10_disc_123 : decode cX10_disc 123 = .ok (.aload_n 0, 1) := by decide +kernel
theorem dX10_disc_124 : decode cX10_disc 124 = .ok (.getfield 26, 3) := by decide +kernel
theorem dX10_disc_127 : decode cX10_disc 127 = .ok (.getfield 169, 3) := by decide +kernel
theorem dX10_disc_130 : decode cX10_disc 130 = .ok (.invokevirtual 176, 3) := by decide +kernel
theorem dX10_disc_133 : decode cX10_disc 133 = .ok (.ireturn, 1) := by decide +kernel
theorem dX10_disc_134 : decode cX10_disc 134 = .ok (.aload_n 0, 1) := by decide +kernel
theorem dX10_disc_135 : decode cX10_disc 135 = .ok (.getfield 26, 3) := by decide +kernel
theorem dX10_disc_138 : decode cX10_disc 138 = .ok (.aload_n 0, 1) := by decide +kernel
theorem dX10_disc_139 : decode cX10_disc 139 = .ok (.getfield 26, 3) := by decide +kernel
theorem dX10_disc_142 : decode cX10_disc 142 = .ok (.getfield 179, 3) := by decide +kernel
theorem dX10_disc_145 : decode cX10_disc 145 = .ok (.invokevirtual 172, 3) := by decide +kernel
theorem dX10_disc_148 : decode cX10_disc 148 = .ok (.ireturn, 1) := by decide +kernel
theorem dX10_disc_149 : decode cX10_disc 149 = .ok (.aload_n 0, 1) := by decide +kernel
theorem dX10_disc_150 : decode cX10_disc 150 = .ok (.getfield 26, 3) := by decide +kernel
theorem dX10_disc_153 : decode cX10_disc 153 = .ok (.aload_n 0, 1) := by decide +kernel
theorem dX10_disc_154 : decode cX10_disc 154 = .ok (.getfield 26, 3) := by decide +kernel
theorem dX10_disc_157 : decode cX10_disc 157 = .ok (.getfield 179, 3) := by decide +kernel
theorem dX10_disc_160 : decode cX10_disc 160 = .ok (.invokevirtual 176, 3) := by decide +kernel
theorem dX10_disc_163 : decode cX10_disc 163 = .ok (.ireturn, 1) := by decide +kernel
theorem dX10_stitch_0 : decode cX10_stitch 0 = .ok (.iload_n 2, 1) := by decide +kernel
theorem dX10_stitch_1 : decode cX10_stitch 1 = .ok (.ifCond .lt 8, 3) := by decide +kernel
theorem dX10_stitch_4 : decode cX10_stitch 4 = .ok (.iload_n 2, 1) := by decide +kernel
theorem dX10_stitch_5 : decode cX10_stitch 5 = .ok (.iconst 1, 1) := by decide +kernel
theorem dX10_stitch_6 : decode cX10_stitch 6 = .ok (.if_icmp .le 13, 3) := by decide +kernel
theorem dX10_stitch_9 : decode cX10_stitch 9 = .ok (.new 129, 3) := by decide +kernel
theorem dX10_stitch_12 : decode cX10_stitch 12 = .ok (.dup, 1) := by decide +kernel
theorem dX10_stitch_13 : decode cX10_stitch 13 = .ok (.ldc 131, 2) := by decide +kernel
theorem dX10_stitch_15 : decode cX10_stitch 15 = .ok (.invokespecial 133, 3) := by decide +kernel
theorem dX10_stitch_18 : decode cX10_stitch 18 = .ok (.athrow, 1) := by decide +kernel
theorem dX10_stitch_19 : decode cX10_stitch 19 = .ok (.iload_n 1, 1) := by decide +kernel
theorem dX10_stitch_20 : decode cX10_stitch 20 = .ok (.ifCond .lt 14, 3) := by decide +kernel
theorem dX10_stitch_23 : decode cX10_stitch 23 = .ok (.iload_n 1, 1) := by decide +kernel
theorem dX10_stitch_24 : decode cX10_stitch 24 = .ok (.aload_n 0, 1) := by decide +kernel
theorem dX10_stitch_25 : decode cX10_stitch 25 = .ok (.getfield 26, 3) := by decide +kernel
theorem dX10_stitch_28 : decode cX10_stitch 28 = .ok (.getfield 157, 3) := by decide +kernel
theorem dX10_stitch_31 : decode cX10_stitch 31 = .ok (.if_icmp .lt 13, 3) := by decide +kernel
theorem dX10_stitch_34 : decode cX10_stitch 34 = .ok (.new 136, 3) := by decide +kernel
theorem dX10_stitch_37 : decode cX10_stitch 37 = .ok (.dup, 1) := by decide +kernel
theorem dX10_stitch_38 : decode cX10_stitch 38 = .ok (.ldc 182, 2) := by decide +kernel
theorem dX10_stitch_40 : decode cX10_stitch 40 = .ok (.invokespecial 140, 3) := by decide +kernel
theorem dX10_stitch_43 : decode cX10_stitch 43 = .ok (.athrow, 1) := by decide +kernel
theorem dX10_stitch_44 : decode cX10_stitch 44 = .ok (.iload_n 2, 1) := by decide +kernel
theorem dX10_stitch_45 : decode cX10_stitch 45 = .ok (.ifCond .ne 15, 3) := by decide +kernel
theorem dX10_stitch_48 : decode cX10_stitch 48 = .ok (.aload_n 0, 1) := by decide +kernel
theorem dX10_stitch_49 : decode cX10_stitch 49 = .ok (.getfield 26, 3) := by decide +kernel
theorem dX10_stitch_52 : decode cX10_stitch 52 = .ok (.getfield 169, 3) := by decide +kernel
theorem dX10_stitch_55 : decode cX10_stitch 55 = .ok (.iload_n 1, 1) := by decide +kernel
theorem dX10_stitch_56 : decode cX10_stitch 56 = .ok (.iaload, 1) := by decide +kernel
theorem dX10_stitch_57 : decode cX10_stitch 57 = .ok (.goto 12, 3) := by decide +kernel
theorem dX10_stitch_60 : decode cX10_stitch 60 = .ok (.aload_n 0, 1) := by decide +kernel
theorem dX10_stitch_61 : decode cX10_stitch 61 = .ok (.getfield 26, 3) := by decide +kernel
theorem dX10_stitch_64 : decode cX10_stitch 64 = .ok (.getfield 179, 3) := by decide +kernel
theorem dX10_stitch_67 : decode cX10_stitch 67 = .ok (.iload_n 1, 1) := by decide +kernel
theorem dX10_stitch_68 : decode cX10_stitch 68 = .ok (.iaload, 1) := by decide +kernel
theorem dX10_stitch_69 : decode cX10_stitch 69 = .ok (.ireturn, 1) := by decide +kernel
set_option maxRecDepth 20000 in
theorem ggX10_file_X10_isWithin : GoodIn wsX10_file wsX10_isWithin := goodIn_r _ [8] (by decide +kernel) (by decide +kernel)
set_option maxRecDepth 20000 in
theorem gX10_file_X10_isWithin : GoodIn wsX10_file (va_wsS RX10 184 yX10_isWithin wsX10_isWithin) := goodIn_app (goodIn_of _ (by decide +kernel)) ggX10_file_X10_isWithin
theorem dX10_file_0 : decode cX10_file 0 = .ok (.iload_n 1, 1) := by decide +kernel
theorem dX10_file_1 : decode cX10_file 1 = .ok (.ifCond .lt 32, 3) := by decide +kernel
theorem dX10_file_4 : decode cX10_file 4 = .ok (.iload_n 1, 1) := by decide +kernel
theorem dX10_file_5 : decode cX10_file 5 = .ok (.aload_n 0, 1) := by decide +kernel
theorem dX10_file_6 : decode cX10_file 6 = .ok (.getfield 26, 3) := by decide +kernel
theorem dX10_file_9 : decode cX10_file 9 = .ok (.getfield 157, 3) := by decide +kernel
theorem dX10_file_12 : decode cX10_file 12 = .ok (.if_icmp .ge 21, 3) := by decide +kernel
theorem dX10_file_15 : decode cX10_file 15 = .ok (.iload_n 2, 1) := by decide +kernel
theorem dX10_file_16 : decode cX10_file 16 = .ok (.bipush 12, 2) := by decide +kernel
theorem dX10_file_18 : decode cX10_file 18 = .ok (.invokestatic 184, 3) := by decide +kernel
theorem dX10_file_21 : decode cX10_file 21 = .ok (.ifCond .eq 12, 3) := by decide +kernel
theorem dX10_file_24 : decode cX10_file 24 = .ok (.iload_n 3, 1) := by decide +kernel
theorem dX10_file_25 : decode cX10_file 25 = .ok (.bipush 12, 2) := by decide +kernel
theorem dX10_file_27 : decode cX10_file 27 = .ok (.invokestatic 184, 3) := by decide +kernel
theorem dX10_file_30 : decode cX10_file 30 = .ok (.ifCond .ne 5, 3) := by decide +kernel
theorem dX10_file_33 : decode cX10_file 33 = .ok (.iconst (-1), 1) := by decide +kernel
theorem dX10_file_34 : decode cX10_file 34 = .ok (.ireturn, 1) := by decide +kernel
theorem dX10_file_35 : decode cX10_file 35 = .ok (.aload_n 0, 1) := by decide +kernel
theorem dX10_file_36 : decode cX10_file 36 = .ok (.getfield 26, 3) := by decide +kernel
theorem dX10_file_39 : decode cX10_file 39 = .ok (.getfield 169, 3) := by decide +kernel
theorem dX10_file_42 : decode cX10_file 42 = .ok (.iload_n 1, 1) := by decide +kernel
theorem dX10_file_43 : decode cX10_file 43 = .ok (.iload_n 2, 1) := by decide +kernel
theorem dX10_file_44 : decode cX10_file 44 = .ok (.iastore, 1) := by decide +kernel
theorem dX10_file_45 : decode cX10_file 45 = .ok (.aload_n 0, 1) := by decide +kernel
theorem dX10_file_46 : decode cX10_file 46 = .ok (.getfield 26, 3) := by decide +kernel
theorem dX10_file_49 : decode cX10_file 49 = .ok (.getfield 179, 3) := by decide +kernel
theorem dX10_file_52 : decode cX10_file 52 = .ok (.iload_n 1, 1) := by decide +kernel
theorem dX10_file_53 : decode cX10_file 53 = .ok (.iload_n 3, 1) := by decide +kernel
theorem dX10_file_54 : decode cX10_file 54 = .ok (.iastore, 1) := by decide +kernel
theorem dX10_file_55 : decode cX10_file 55 = .ok (.iconst 1, 1) := by decide +kernel
theorem dX10_file_56 : decode cX10_file 56 = .ok (.ireturn, 1) := by decide +kernel
set_option maxRecDepth 20000 in
theorem ggX10_makes_X1_firstMissed : GoodIn wsX10_makes wsX1_firstMissed := goodIn_r _ [9, 10, 11, 12, 13, 14, 15, 16, 17, 18, 19, 8, 20, 34, 35, 36, 37, 38, 39, 40] (by decide +kernel) (by decide +kernel)
set_option maxRecDepth 20000 in
theorem gX10_makes_X1_firstMissed : GoodIn wsX10_makes (wsV RX10 188 RX1 yX1_firstMissed wsX1_firstMissed) := goodIn_app (goodIn_of _ (by decide +kernel)) ggX10_makes_X1_firstMissed
theorem dX10_makes_0 : decode cX10_makes 0 = .ok (.aload_n 0, 1) := by decide +kernel
theorem dX10_makes_1 : decode cX10_makes 1 = .ok (.getfield 10, 3) := by decide +kernel
theorem dX10_makes_4 : decode cX10_makes 4 = .ok (.getfield 126, 3) := by decide +kernel
theorem dX10_makes_7 : decode cX10_makes 7 = .ok (.ifCond .eq 13, 3) := by decide +kernel
theorem dX10_makes_10 : decode cX10_makes 10 = .ok (.aload_n 0, 1) := by decide +kernel
theorem dX10_makes_11 : decode cX10_makes 11 = .ok (.getfield 26, 3) := by decide +kernel
theorem dX10_makes_14 : decode cX10_makes 14 = .ok (.getfield 157, 3) := by decide +kernel
theorem dX10_makes_17 : decode cX10_makes 17 = .ok (.ifCond .ne 6, 3) := by decide +kernel
theorem dX10_makes_20 : decode cX10_makes 20 = .ok (.bipush (-3), 2) := by decide +kernel
theorem dX10_makes_22 : decode cX10_makes 22 = .ok (.ireturn, 1) := by decide +kernel
theorem dX10_makes_23 : decode cX10_makes 23 = .ok (.aload_n 0, 1) := by decide +kernel
theorem dX10_makes_24 : decode cX10_makes 24 = .ok (.getfield 26, 3) := by decide +kernel
theorem dX10_makes_27 : decode cX10_makes 27 = .ok (.aload_n 0, 1) := by decide +kernel
theorem dX10_makes_28 : decode cX10_makes 28 = .ok (.getfield 10, 3) := by decide +kernel
theorem dX10_makes_31 : decode cX10_makes 31 = .ok (.invokevirtual 188, 3) := by decide +kernel
theorem dX10_makes_34 : decode cX10_makes 34 = .ok (.istore_n 1, 1) := by decide +kernel
theorem dX10_makes_35 : decode cX10_makes 35 = .ok (.iload_n 1, 1) := by decide +kernel
theorem dX10_makes_36 : decode cX10_makes 36 = .ok (.aload_n 0, 1) := by decide +kernel
theorem dX10_makes_37 : decode cX10_makes 37 = .ok (.getfield 10, 3) := by decide +kernel
theorem dX10_makes_40 : decode cX10_makes 40 = .ok (.getfield 126, 3) := by decide +kernel
theorem dX10_makes_43 : decode cX10_makes 43 = .ok (.if_icmp .le 9, 3) := by decide +kernel
theorem dX10_makes_46 : decode cX10_makes 46 = .ok (.sipush 9999, 3) := by decide +kernel
theorem dX10_makes_49 : decode cX10_makes 49 = .ok (.goto 4, 3) := by decide +kernel
theorem dX10_makes_52 : decode cX10_makes 52 = .ok (.iload_n 1, 1) := by decide +kernel
theorem dX10_makes_53 : decode cX10_makes 53 = .ok (.ireturn, 1) := by decide +kernel
set_option maxRecDepth 20000 in
theorem ggX10_lay_X10_isShelf : GoodIn wsX10_lay wsX10_isShelf := goodIn_r _ [7] (by decide +kernel) (by decide +kernel)
set_option maxRecDepth 20000 in
theorem gX10_lay_X10_isShelf : GoodIn wsX10_lay (va_wsS RX10 192 yX10_isShelf wsX10_isShelf) := goodIn_app (goodIn_of _ (by decide +kernel)) ggX10_lay_X10_isShelf
set_option maxRecDepth 20000 in
theorem ggX10_lay_X1_become : GoodIn wsX10_lay wsX1_become := goodIn_r _ [12, 13, 14, 15, 16, 17, 18, 19, 33, 34, 35] (by decide +kernel) (by decide +kernel)
set_option maxRecDepth 20000 in
theorem gX10_lay_X1_become : GoodIn wsX10_lay (wsV RX10 196 RX1 yX1_become wsX1_become) := goodIn_app (goodIn_of _ (by decide +kernel)) ggX10_lay_X1_become
theorem dX10_lay_0 : decode cX10_lay 0 = .ok (.iload_n 1, 1) := by decide +kernel
theorem dX10_lay_1 : decode cX10_lay 1 = .ok (.invokestatic 192, 3) := by decide +kernel
theorem dX10_lay_4 : decode cX10_lay 4 = .ok (.ifCond .ne 5, 3) := by decide +kernel
theorem dX10_lay_7 : decode cX10_lay 7 = .ok (.iconst (-1), 1) := by decide +kernel
theorem dX10_lay_8 : decode cX10_lay 8 = .ok (.ireturn, 1) := by decide +kernel
theorem dX10_lay_9 : decode cX10_lay 9 = .ok (.aload_n 0, 1) := by decide +kernel
theorem dX10_lay_10 : decode cX10_lay 10 = .ok (.getfield 26, 3) := by decide +kernel
theorem dX10_lay_13 : decode cX10_lay 13 = .ok (.getfield 157, 3) := by decide +kernel
theorem dX10_lay_16 : decode cX10_lay 16 = .ok (.ifCond .ne 6, 3) := by decide +kernel
theorem dX10_lay_19 : decode cX10_lay 19 = .ok (.bipush (-3), 2) := by decide +kernel
theorem dX10_lay_21 : decode cX10_lay 21 = .ok (.ireturn, 1) := by decide +kernel
theorem dX10_lay_22 : decode cX10_lay 22 = .ok (.aload_n 0, 1) := by decide +kernel
theorem dX10_lay_23 : decode cX10_lay 23 = .ok (.getfield 33, 3) := by decide +kernel
theorem dX10_lay_26 : decode cX10_lay 26 = .ok (.iload_n 1, 1) := by decide +kernel
theorem dX10_lay_27 : decode cX10_lay 27 = .ok (.aaload, 1) := by decide +kernel
theorem dX10_lay_28 : decode cX10_lay 28 = .ok (.aload_n 0, 1) := by decide +kernel
theorem dX10_lay_29 : decode cX10_lay 29 = .ok (.getfield 26, 3) := by decide +kernel
theorem dX10_lay_32 : decode cX10_lay 32 = .ok (.invokevirtual 196, 3) := by decide +kernel
theorem dX10_lay_35 : decode cX10_lay 35 = .ok (.aload_n 0, 1) := by decide +kernel
theorem dX10_lay_36 : decode cX10_lay 36 = .ok (.getfield 26, 3) := by decide +kernel
theorem dX10_lay_39 : decode cX10_lay 39 = .ok (.getfield 157, 3) := by decide +kernel
theorem dX10_lay_42 : decode cX10_lay 42 = .ok (.ireturn, 1) := by decide +kernel
set_option maxRecDepth 20000 in
theorem ggX10_take_X10_isShelf : GoodIn wsX10_take wsX10_isShelf := goodIn_r _ [6] (by decide +kernel) (by decide +kernel)
set_option maxRecDepth 20000 in
theorem gX10_take_X10_isShelf : GoodIn wsX10_take (va_wsS RX10 192 yX10_isShelf wsX10_isShelf) := goodIn_app (goodIn_of _ (by decide +kernel)) ggX10_take_X10_isShelf
set_option maxRecDepth 20000 in
theorem ggX10_take_X10_comesFrom : GoodIn wsX10_take wsX10_comesFrom := goodIn_r _ [10, 11, 2, 1, 12, 13, 14, 15, 16, 17, 18, 19, 20, 21, 22, 23, 24, 25, 26, 27, 28, 29, 30, 31, 32, 33, 34, 35, 36, 37, 38, 39] (by decide +kernel) (by decide +kernel)
set_option maxRecDepth 20000 in
theorem gX10_take_X10_comesFrom : GoodIn wsX10_take (wsV RX10 199 RX10 yX10_comesFrom wsX10_comesFrom) := goodIn_app (goodIn_of _ (by decide +kernel)) ggX10_take_X10_comesFrom
theorem dX10_take_0 : decode cX10_take 0 = .ok (.iload_n 1, 1) := by decide +kernel
theorem dX10_take_1 : decode cX10_take 1 = .ok (.invokestatic 192, 3) := by decide +kernel
theorem dX10_take_4 : decode cX10_take 4 = .ok (.ifCond .ne 5, 3) := by decide +kernel
theorem dX10_take_7 : decode cX10_take 7 = .ok (.iconst (-1), 1) := by decide +kernel
theorem dX10_take_8 : decode cX10_take 8 = .ok (.ireturn, 1) := by decide +kernel
theorem dX10_take_9 : decode cX10_take 9 = .ok (.aload_n 0, 1) := by decide +kernel
theorem dX10_take_10 : decode cX10_take 10 = .ok (.iload_n 1, 1) := by decide +kernel
theorem dX10_take_11 : decode cX10_take 11 = .ok (.invokevirtual 199, 3) := by decide +kernel
theorem dX10_take_14 : decode cX10_take 14 = .ok (.ifCond .eq 13, 3) := by decide +kernel
theorem dX10_take_17 : decode cX10_take 17 = .ok (.aload_n 0, 1) := by decide +kernel
theorem dX10_take_18 : decode cX10_take 18 = .ok (.getfield 26, 3) := by decide +kernel
theorem dX10_take_21 : decode cX10_take 21 = .ok (.getfield 157, 3) := by decide +kernel
theorem dX10_take_24 : decode cX10_take 24 = .ok (.goto 5, 3) := by decide +kernel
theorem dX10_take_27 : decode cX10_take 27 = .ok (.bipush (-3), 2) := by decide +kernel
theorem dX10_take_29 : decode cX10_take 29 = .ok (.ireturn, 1) := by decide +kernel
set_option maxRecDepth 20000 in
theorem ggX10_turn_X1_become : GoodIn wsX10_turn wsX1_become := goodIn_r _ [8, 9, 10, 11, 12, 13, 14, 15, 33, 34, 35] (by decide +kernel) (by decide +kernel)
set_option maxRecDepth 20000 in
theorem gX10_turn_X1_become : GoodIn wsX10_turn (wsV RX10 196 RX1 yX1_become wsX1_become) := goodIn_app (goodIn_of _ (by decide +kernel)) ggX10_turn_X1_become
set_option maxRecDepth 20000 in
theorem ggX10_turn_X1_becomeTurned : GoodIn wsX10_turn wsX1_becomeTurned := goodIn_r _ [19, 15, 9, 14, 33, 34, 35] (by decide +kernel) (by decide +kernel)
set_option maxRecDepth 20000 in
theorem gX10_turn_X1_becomeTurned : GoodIn wsX10_turn (wsV RX10 202 RX1 yX1_becomeTurned wsX1_becomeTurned) := goodIn_app (goodIn_of _ (by decide +kernel)) ggX10_turn_X1_becomeTurned
theorem dX10_turn_0 : decode cX10_turn 0 = .ok (.iload_n 1, 1) := by decide +kernel
theorem dX10_turn_1 : decode cX10_turn 1 = .ok (.ifCond .lt 23, 3) := by decide +kernel
theorem dX10_turn_4 : decode cX10_turn 4 = .ok (.iload_n 1, 1) := by decide +kernel
theorem dX10_turn_5 : decode cX10_turn 5 = .ok (.aload_n 0, 1) := by decide +kernel
theorem dX10_turn_6 : decode cX10_turn 6 = .ok (.getfield 26, 3) := by decide +kernel
theorem dX10_turn_9 : decode cX10_turn 9 = .ok (.getfield 157, 3) := by decide +kernel
theorem dX10_turn_12 : decode cX10_turn 12 = .ok (.if_icmp .ge 12, 3) := by decide +kernel
theorem dX10_turn_15 : decode cX10_turn 15 = .ok (.iload_n 2, 1) := by decide +kernel
theorem dX10_turn_16 : decode cX10_turn 16 = .ok (.ifCond .lt 8, 3) := by decide +kernel
theorem dX10_turn_19 : decode cX10_turn 19 = .ok (.iload_n 2, 1) := by decide +kernel
theorem dX10_turn_20 : decode cX10_turn 20 = .ok (.iconst 1, 1) := by decide +kernel
theorem dX10_turn_21 : decode cX10_turn 21 = .ok (.if_icmp .le 5, 3) := by decide +kernel
theorem dX10_turn_24 : decode cX10_turn 24 = .ok (.iconst (-1), 1) := by decide +kernel
theorem dX10_turn_25 : decode cX10_turn 25 = .ok (.ireturn, 1) := by decide +kernel
theorem dX10_turn_26 : decode cX10_turn 26 = .ok (.aload_n 0, 1) := by decide +kernel
theorem dX10_turn_27 : decode cX10_turn 27 = .ok (.getfield 30, 3) := by decide +kernel
theorem dX10_turn_30 : decode cX10_turn 30 = .ok (.aload_n 0, 1) := by decide +kernel
theorem dX10_turn_31 : decode cX10_turn 31 = .ok (.getfield 26, 3) := by decide +kernel
theorem dX10_turn_34 : decode cX10_turn 34 = .ok (.invokevirtual 196, 3) := by decide +kernel
theorem dX10_turn_37 : decode cX10_turn 37 = .ok (.aload_n 0, 1) := by decide +kernel
theorem dX10_turn_38 : decode cX10_turn 38 = .ok (.getfield 26, 3) := by decide +kernel
theorem dX10_turn_41 : decode cX10_turn 41 = .ok (.aload_n 0, 1) := by decide +kernel
theorem dX10_turn_42 : decode cX10_turn 42 = .ok (.getfield 30, 3) := by decide +kernel
theorem dX10_turn_45 : decode cX10_turn 45 = .ok (.iload_n 1, 1) := by decide +kernel
theorem dX10_turn_46 : decode cX10_turn 46 = .ok (.iload_n 2, 1) := by decide +kernel
theorem dX10_turn_47 : decode cX10_turn 47 = .ok (.iconst 1, 1) := by decide +kernel
theorem dX10_turn_48 : decode cX10_turn 48 = .ok (.if_icmp .ne 7, 3) := by decide +kernel
theorem dX10_turn_51 : decode cX10_turn 51 = .ok (.iconst (-1), 1) := by decide +kernel
theorem dX10_turn_52 : decode cX10_turn 52 = .ok (.goto 4, 3) := by decide +kernel
theorem dX10_turn_55 : decode cX10_turn 55 = .ok (.iconst 1, 1) := by decide +kernel
theorem dX10_turn_56 : decode cX10_turn 56 = .ok (.invokevirtual 202, 3) := by decide +kernel
theorem dX10_turn_59 : decode cX10_turn 59 = .ok (.iconst 1, 1) := by decide +kernel
theorem dX10_turn_60 : decode cX10_turn 60 = .ok (.ireturn, 1) := by decide +kernel
theorem dX10_side_0 : decode cX10_side 0 = .ok (.iload_n 1, 1) := by decide +kernel
theorem dX10_side_1 : decode cX10_side 1 = .ok (.iconst 1, 1) := by decide +kernel
theorem dX10_side_2 : decode cX10_side 2 = .ok (.if_icmp .lt 10, 3) := by decide +kernel
theorem dX10_side_5 : decode cX10_side 5 = .ok (.iload_n 1, 1) := by decide +kernel
theorem dX10_side_6 : decode cX10_side 6 = .ok (.sipush 999, 3) := by decide +kernel
theorem dX10_side_9 : decode cX10_side 9 = .ok (.if_icmp .le 5, 3) := by decide +kernel
theorem dX10_side_12 : decode cX10_side 12 = .ok (.iconst (-1), 1) := by decide +kernel
theorem dX10_side_13 : decode cX10_side 13 = .ok (.ireturn, 1) := by decide +kernel
theorem dX10_side_14 : decode cX10_side 14 = .ok (.aload_n 0, 1) := by decide +kernel
theorem dX10_side_15 : decode cX10_side 15 = .ok (.getfield 40, 3) := by decide +kernel
theorem dX10_side_18 : decode cX10_side 18 = .ok (.getfield 90, 3) := by decide +kernel
theorem dX10_side_21 : decode cX10_side 21 = .ok (.bipush 8, 2) := by decide +kernel
theorem dX10_side_23 : decode cX10_side 23 = .ok (.if_icmp .lt 6, 3) := by decide +kernel
theorem dX10_side_26 : decode cX10_side 26 = .ok (.bipush (-2), 2) := by decide +kernel
theorem dX10_side_28 : decode cX10_side 28 = .ok (.ireturn, 1) := by decide +kernel
theorem dX10_side_29 : decode cX10_side 29 = .ok (.aload_n 0, 1) := by decide +kernel
theorem dX10_side_30 : decode cX10_side 30 = .ok (.getfield 40, 3) := by decide +kernel
theorem dX10_side_33 : decode cX10_side 33 = .ok (.getfield 206, 3) := by decide +kernel
theorem dX10_side_36 : decode cX10_side 36 = .ok (.aload_n 0, 1) := by decide +kernel
theorem dX10_side_37 : decode cX10_side 37 = .ok (.getfield 40, 3) := by decide +kernel
theorem dX10_side_40 : decode cX10_side 40 = .ok (.getfield 90, 3) := by decide +kernel
theorem dX10_side_43 : decode cX10_side 43 = .ok (.iload_n 1, 1) := by decide +kernel
theorem dX10_side_44 : decode cX10_side 44 = .ok (.iastore, 1) := by decide +kernel
theorem dX10_side_45 : decode cX10_side 45 = .ok (.aload_n 0, 1) := by decide +kernel
theorem dX10_side_46 : decode cX10_side 46 = .ok (.getfield 40, 3) := by decide +kernel
theorem dX10_side_49 : decode cX10_side 49 = .ok (.dup, 1) := by decide +kernel
theorem dX10_side_50 : decode cX10_side 50 = .ok (.getfield 90, 3) := by decide +kernel
theorem dX10_side_53 : decode cX10_side 53 = .ok (.iconst 1, 1) := by decide +kernel
theorem dX10_side_54 : decode cX10_side 54 = .ok (.iadd, 1) := by decide +kernel
theorem dX10_side_55 : decode cX10_side 55 = .ok (.putfield 90, 3) := by decide +kernel
theorem dX10_side_58 : decode cX10_side 58 = .ok (.aload_n 0, 1) := by decide +kernel
theorem dX10_side_59 : decode cX10_side 59 = .ok (.getfield 40, 3) := by decide +kernel
theorem dX10_side_62 : decode cX10_side 62 = .ok (.getfield 90, 3) := by decide +kernel
theorem dX10_side_65 : decode cX10_side 65 = .ok (.ireturn, 1) := by decide +kernel
theorem dX10_sideless_0 : decode cX10_sideless 0 = .ok (.aload_n 0, 1) := by decide +kernel
theorem dX10_sideless_1 : decode cX10_sideless 1 = .ok (.getfield 40, 3) := by decide +kernel
theorem dX10_sideless_4 : decode cX10_sideless 4 = .ok (.getfield 90, 3) := by decide +kernel
theorem dX10_sideless_7 : decode cX10_sideless 7 = .ok (.istore_n 1, 1) := by decide +kernel
theorem dX10_sideless_8 : decode cX10_sideless 8 = .ok (.aload_n 0, 1) := by decide +kernel
theorem dX10_sideless_9 : decode cX10_sideless 9 = .ok (.getfield 40, 3) := by decide +kernel
theorem dX10_sideless_12 : decode cX10_sideless 12 = .ok (.iconst 0, 1) := by decide +kernel
theorem dX10_sideless_13 : decode cX10_sideless 13 = .ok (.putfield 90, 3) := by decide +kernel
theorem dX10_sideless_16 : decode cX10_sideless 16 = .ok (.iload_n 1, 1) := by decide +kernel
theorem dX10_sideless_17 : decode cX10_sideless 17 = .ok (.ireturn, 1) := by decide +kernel
set_option maxRecDepth 20000 in
theorem ggX10_hem_X3_measures : GoodIn wsX10_hem wsX3_measures := goodIn_r _ [14, 15, 16, 17, 18, 19, 20, 21, 22, 23, 24, 25, 26, 27, 28, 29, 30, 31, 72, 73, 74, 75, 76, 77, 78, 79] (by decide +kernel) (by decide +kernel)
set_option maxRecDepth 20000 in
theorem gX10_hem_X3_measures : GoodIn wsX10_hem (wsV RX10 209 RX3 yX3_measures wsX3_measures) := goodIn_app (goodIn_of _ (by decide +kernel)) ggX10_hem_X3_measures
set_option maxRecDepth 20000 in
theorem ggX10_hem_X3_fits : GoodIn wsX10_hem wsX3_fits := goodIn_r _ [35, 24, 36, 37, 38, 13, 39, 23, 40, 41, 42, 43, 44, 22, 45, 46, 47, 48, 49, 50, 51, 72, 73, 74, 75, 76, 77, 78, 79] (by decide +kernel) (by decide +kernel)
set_option maxRecDepth 20000 in
theorem gX10_hem_X3_fits : GoodIn wsX10_hem (wsV RX10 221 RX3 yX3_fits wsX3_fits) := goodIn_app (goodIn_of _ (by decide +kernel)) ggX10_hem_X3_fits
set_option maxRecDepth 20000 in
theorem ggX10_hem_X3_greatestChange : GoodIn wsX10_hem wsX3_greatestChange := goodIn_r _ [55, 24, 22, 56, 57, 19, 58, 72, 73, 74, 75, 76] (by decide +kernel) (by decide +kernel)
set_option maxRecDepth 20000 in
theorem gX10_hem_X3_greatestChange : GoodIn wsX10_hem (wsV RX10 226 RX3 yX3_greatestChange wsX3_greatestChange) := goodIn_app (goodIn_of _ (by decide +kernel)) ggX10_hem_X3_greatestChange
theorem dX10_hem_0 : decode cX10_hem 0 = .ok (.iload_n 2, 1) := by decide +kernel
theorem dX10_hem_1 : decode cX10_hem 1 = .ok (.ifCond .lt 8, 3) := by decide +kernel
theorem dX10_hem_4 : decode cX10_hem 4 = .ok (.iload_n 2, 1) := by decide +kernel
theorem dX10_hem_5 : decode cX10_hem 5 = .ok (.iconst 4, 1) := by decide +kernel
theorem dX10_hem_6 : decode cX10_hem 6 = .ok (.if_icmp .le 13, 3) := by decide +kernel
theorem dX10_hem_9 : decode cX10_hem 9 = .ok (.new 129, 3) := by decide +kernel
theorem dX10_hem_12 : decode cX10_hem 12 = .ok (.dup, 1) := by decide +kernel
theorem dX10_hem_13 : decode cX10_hem 13 = .ok (.ldc 131, 2) := by decide +kernel
theorem dX10_hem_15 : decode cX10_hem 15 = .ok (.invokespecial 133, 3) := by decide +kernel
theorem dX10_hem_18 : decode cX10_hem 18 = .ok (.athrow, 1) := by decide +kernel
theorem dX10_hem_19 : decode cX10_hem 19 = .ok (.aload_n 0, 1) := by decide +kernel
theorem dX10_hem_20 : decode cX10_hem 20 = .ok (.getfield 40, 3) := by decide +kernel
theorem dX10_hem_23 : decode cX10_hem 23 = .ok (.iload_n 1, 1) := by decide +kernel
theorem dX10_hem_24 : decode cX10_hem 24 = .ok (.aload_n 0, 1) := by decide +kernel
theorem dX10_hem_25 : decode cX10_hem 25 = .ok (.getfield 26, 3) := by decide +kernel
theorem dX10_hem_28 : decode cX10_hem 28 = .ok (.invokevirtual 209, 3) := by decide +kernel
theorem dX10_hem_31 : decode cX10_hem 31 = .ok (.ifCond .ne 13, 3) := by decide +kernel
theorem dX10_hem_34 : decode cX10_hem 34 = .ok (.new 136, 3) := by decide +kernel
theorem dX10_hem_37 : decode cX10_hem 37 = .ok (.dup, 1) := by decide +kernel
theorem dX10_hem_38 : decode cX10_hem 38 = .ok (.ldc 213, 2) := by decide +kernel
theorem dX10_hem_40 : decode cX10_hem 40 = .ok (.invokespecial 140, 3) := by decide +kernel
theorem dX10_hem_43 : decode cX10_hem 43 = .ok (.athrow, 1) := by decide +kernel
theorem dX10_hem_44 : decode cX10_hem 44 = .ok (.iload_n 2, 1) := by decide +kernel
theorem dX10_hem_45 : decode cX10_hem 45 = .ok (.tableswitch 75 0 3 #[31, 39, 47, 67], 31) := by decide +kernel
theorem dX10_hem_76 : decode cX10_hem 76 = .ok (.aload_n 0, 1) := by decide +kernel
theorem dX10_hem_77 : decode cX10_hem 77 = .ok (.getfield 40, 3) := by decide +kernel
theorem dX10_hem_80 : decode cX10_hem 80 = .ok (.getfield 215, 3) := by decide +kernel
theorem dX10_hem_83 : decode cX10_hem 83 = .ok (.ireturn, 1) := by decide +kernel
theorem dX10_hem_84 : decode cX10_hem 84 = .ok (.aload_n 0, 1) := by decide +kernel
theorem dX10_hem_85 : decode cX10_hem 85 = .ok (.getfield 40, 3) := by decide +kernel
theorem dX10_hem_88 : decode cX10_hem 88 = .ok (.getfield 218, 3) := by decide +kernel
theorem dX10_hem_91 : decode cX10_hem 91 = .ok (.ireturn, 1) := by decide +kernel
theorem dX10_hem_92 : decode cX10_hem 92 = .ok (.aload_n 0, 1) := by decide +kernel
theorem dX10_hem_93 : decode cX10_hem 93 = .ok (.getfield 40, 3) := by decide +kernel
theorem dX10_hem_96 : decode cX10_hem 96 = .ok (.aload_n 0, 1) := by decide +kernel
theorem dX10_hem_97 : decode cX10_hem 97 = .ok (.getfield 26, 3) := by decide +kernel
theorem dX10_hem_100 : decode cX10_hem 100 = .ok (.invokevirtual 221, 3) := by decide +kernel
theorem dX10_hem_103 : decode cX10_hem 103 = .ok (.ifCond .eq 7, 3) := by decide +kernel
theorem dX10_hem_106 : decode cX10_hem 106 = .ok (.iconst 1, 1) := by decide +kernel
theorem dX10_hem_107 : decode cX10_hem 107 = .ok (.goto 4, 3) := by decide +kernel
theorem dX10_hem_110 : decode cX10_hem 110 = .ok (.iconst 0, 1) := by decide +kernel
theorem dX10_hem_111 : decode cX10_hem 111 = .ok (.ireturn, 1) := by decide +kernel
theorem dX10_hem_112 : decode cX10_hem 112 = .ok (.aload_n 0, 1) := by decide +kernel
theorem dX10_hem_113 : decode cX10_hem 113 = .ok (.getfield 40, 3) := by decide +kernel
theorem dX10_hem_116 : decode cX10_hem 116 = .ok (.getfield 225, 3) := by decide +kernel
theorem dX10_hem_119 : decode cX10_hem 119 = .ok (.ireturn, 1) := by decide +kernel
theorem dX10_hem_120 : decode cX10_hem 120 = .ok (.aload_n 0, 1) := by decide +kernel
theorem dX10_hem_121 : decode cX10_hem 121 = .ok (.getfield 40, 3) := by decide +kernel
theorem dX10_hem_124 : decode cX10_hem 124 = .ok (.invokevirtual 226, 3) := by decide +kernel
theorem dX10_hem_127 : decode cX10_hem 127 = .ok (.ireturn, 1) := by decide +kernel
set_option maxRecDepth 20000 in
theorem ggX10_fed_X3_measures : GoodIn wsX10_fed wsX3_measures := goodIn_r _ [10, 11, 12, 13, 14, 15, 16, 17, 18, 19, 20, 21, 22, 23, 24, 25, 26, 27, 54, 55, 56, 57, 58, 59, 60, 61] (by decide +kernel) (by decide +kernel)
set_option maxRecDepth 20000 in
theorem gX10_fed_X3_measures : GoodIn wsX10_fed (wsV RX10 209 RX3 yX3_measures wsX3_measures) := goodIn_app (goodIn_of _ (by decide +kernel)) ggX10_fed_X3_measures
set_option maxRecDepth 20000 in
theorem ggX10_fed_X3_feedOf : GoodIn wsX10_fed wsX3_feedOf := goodIn_r _ [31, 19, 32, 33, 34, 35, 9, 36, 20, 18, 37, 38, 39, 40, 59, 60, 61, 54, 55, 56, 57, 58] (by decide +kernel) (by decide +kernel)
set_option maxRecDepth 20000 in
theorem gX10_fed_X3_feedOf : GoodIn wsX10_fed (wsV RX10 231 RX3 yX3_feedOf wsX3_feedOf) := goodIn_app (goodIn_of _ (by decide +kernel)) ggX10_fed_X3_feedOf
theorem dX10_fed_0 : decode cX10_fed 0 = .ok (.aload_n 0, 1) := by decide +kernel
theorem dX10_fed_1 : decode cX10_fed 1 = .ok (.getfield 40, 3) := by decide +kernel
theorem dX10_fed_4 : decode cX10_fed 4 = .ok (.iload_n 1, 1) := by decide +kernel
theorem dX10_fed_5 : decode cX10_fed 5 = .ok (.aload_n 0, 1) := by decide +kernel
theorem dX10_fed_6 : decode cX10_fed 6 = .ok (.getfield 26, 3) := by decide +kernel
theorem dX10_fed_9 : decode cX10_fed 9 = .ok (.invokevirtual 209, 3) := by decide +kernel
theorem dX10_fed_12 : decode cX10_fed 12 = .ok (.ifCond .eq 18, 3) := by decide +kernel
theorem dX10_fed_15 : decode cX10_fed 15 = .ok (.iload_n 2, 1) := by decide +kernel
theorem dX10_fed_16 : decode cX10_fed 16 = .ok (.ifCond .lt 14, 3) := by decide +kernel
theorem dX10_fed_19 : decode cX10_fed 19 = .ok (.iload_n 2, 1) := by decide +kernel
theorem dX10_fed_20 : decode cX10_fed 20 = .ok (.aload_n 0, 1) := by decide +kernel
theorem dX10_fed_21 : decode cX10_fed 21 = .ok (.getfield 40, 3) := by decide +kernel
theorem dX10_fed_24 : decode cX10_fed 24 = .ok (.getfield 225, 3) := by decide +kernel
theorem dX10_fed_27 : decode cX10_fed 27 = .ok (.if_icmp .lt 13, 3) := by decide +kernel
theorem dX10_fed_30 : decode cX10_fed 30 = .ok (.new 136, 3) := by decide +kernel
theorem dX10_fed_33 : decode cX10_fed 33 = .ok (.dup, 1) := by decide +kernel
theorem dX10_fed_34 : decode cX10_fed 34 = .ok (.ldc 229, 2) := by decide +kernel
theorem dX10_fed_36 : decode cX10_fed 36 = .ok (.invokespecial 140, 3) := by decide +kernel
theorem dX10_fed_39 : decode cX10_fed 39 = .ok (.athrow, 1) := by decide +kernel
theorem dX10_fed_40 : decode cX10_fed 40 = .ok (.aload_n 0, 1) := by decide +kernel
theorem dX10_fed_41 : decode cX10_fed 41 = .ok (.getfield 40, 3) := by decide +kernel
theorem dX10_fed_44 : decode cX10_fed 44 = .ok (.aload_n 0, 1) := by decide +kernel
theorem dX10_fed_45 : decode cX10_fed 45 = .ok (.getfield 26, 3) := by decide +kernel
theorem dX10_fed_48 : decode cX10_fed 48 = .ok (.iload_n 2, 1) := by decide +kernel
theorem dX10_fed_49 : decode cX10_fed 49 = .ok (.invokevirtual 231, 3) := by decide +kernel
theorem dX10_fed_52 : decode cX10_fed 52 = .ok (.ireturn, 1) := by decide +kernel
set_option maxRecDepth 20000 in
theorem ggX10_meets_X3_measures : GoodIn wsX10_meets wsX3_measures := goodIn_r _ [8, 9, 10, 11, 12, 13, 14, 15, 16, 17, 18, 19, 20, 21, 22, 23, 24, 25, 59, 60, 61, 62, 63, 64, 65, 66] (by decide +kernel) (by decide +kernel)
set_option maxRecDepth 20000 in
theorem gX10_meets_X3_measures : GoodIn wsX10_meets (wsV RX10 209 RX3 yX3_measures wsX3_measures) := goodIn_app (goodIn_of _ (by decide +kernel)) ggX10_meets_X3_measures
set_option maxRecDepth 20000 in
theorem ggX10_meets_X3_fits : GoodIn wsX10_meets wsX3_fits := goodIn_r _ [29, 18, 30, 31, 32, 7, 33, 17, 34, 35, 36, 37, 38, 16, 39, 40, 41, 42, 43, 44, 45, 59, 60, 61, 62, 63, 64, 65, 66] (by decide +kernel) (by decide +kernel)
set_option maxRecDepth 20000 in
theorem gX10_meets_X3_fits : GoodIn wsX10_meets (wsV RX10 221 RX3 yX3_fits wsX3_fits) := goodIn_app (goodIn_of _ (by decide +kernel)) ggX10_meets_X3_fits
theorem dX10_meets_0 : decode cX10_meets 0 = .ok (.aload_n 0, 1) := by decide +kernel
theorem dX10_meets_1 : decode cX10_meets 1 = .ok (.getfield 40, 3) := by decide +kernel
theorem dX10_meets_4 : decode cX10_meets 4 = .ok (.getfield 90, 3) := by decide +kernel
theorem dX10_meets_7 : decode cX10_meets 7 = .ok (.ifCond .ne 6, 3) := by decide +kernel
theorem dX10_meets_10 : decode cX10_meets 10 = .ok (.bipush (-3), 2) := by decide +kernel
theorem dX10_meets_12 : decode cX10_meets 12 = .ok (.ireturn, 1) := by decide +kernel
theorem dX10_meets_13 : decode cX10_meets 13 = .ok (.iconst 0, 1) := by decide +kernel
theorem dX10_meets_14 : decode cX10_meets 14 = .ok (.istore_n 1, 1) := by decide +kernel
theorem dX10_meets_15 : decode cX10_meets 15 = .ok (.iload_n 1, 1) := by decide +kernel
theorem dX10_meets_16 : decode cX10_meets 16 = .ok (.aload_n 0, 1) := by decide +kernel
theorem dX10_meets_17 : decode cX10_meets 17 = .ok (.getfield 40, 3) := by decide +kernel
theorem dX10_meets_20 : decode cX10_meets 20 = .ok (.getfield 90, 3) := by decide +kernel
theorem dX10_meets_23 : decode cX10_meets 23 = .ok (.if_icmp .ge 43, 3) := by decide +kernel
theorem dX10_meets_26 : decode cX10_meets 26 = .ok (.aload_n 0, 1) := by decide +kernel
theorem dX10_meets_27 : decode cX10_meets 27 = .ok (.getfield 40, 3) := by decide +kernel
theorem dX10_meets_30 : decode cX10_meets 30 = .ok (.iload_n 1, 1) := by decide +kernel
theorem dX10_meets_31 : decode cX10_meets 31 = .ok (.aload_n 0, 1) := by decide +kernel
theorem dX10_meets_32 : decode cX10_meets 32 = .ok (.getfield 26, 3) := by decide +kernel
theorem dX10_meets_35 : decode cX10_meets 35 = .ok (.invokevirtual 209, 3) := by decide +kernel
theorem dX10_meets_38 : decode cX10_meets 38 = .ok (.ifCond .ne 6, 3) := by decide +kernel
theorem dX10_meets_41 : decode cX10_meets 41 = .ok (.bipush (-3), 2) := by decide +kernel
theorem dX10_meets_43 : decode cX10_meets 43 = .ok (.ireturn, 1) := by decide +kernel
theorem dX10_meets_44 : decode cX10_meets 44 = .ok (.aload_n 0, 1) := by decide +kernel
theorem dX10_meets_45 : decode cX10_meets 45 = .ok (.getfield 40, 3) := by decide +kernel
theorem dX10_meets_48 : decode cX10_meets 48 = .ok (.aload_n 0, 1) := by decide +kernel
theorem dX10_meets_49 : decode cX10_meets 49 = .ok (.getfield 26, 3) := by decide +kernel
theorem dX10_meets_52 : decode cX10_meets 52 = .ok (.invokevirtual 221, 3) := by decide +kernel
theorem dX10_meets_55 : decode cX10_meets 55 = .ok (.ifCond .ne 5, 3) := by decide +kernel
theorem dX10_meets_58 : decode cX10_meets 58 = .ok (.iconst 0, 1) := by decide +kernel
theorem dX10_meets_59 : decode cX10_meets 59 = .ok (.ireturn, 1) := by decide +kernel
theorem dX10_meets_60 : decode cX10_meets 60 = .ok (.iinc 1 1, 3) := by decide +kernel
theorem dX10_meets_63 : decode cX10_meets 63 = .ok (.goto (-48), 3) := by decide +kernel
theorem dX10_meets_66 : decode cX10_meets 66 = .ok (.iconst 1, 1) := by decide +kernel
theorem dX10_meets_67 : decode cX10_meets 67 = .ok (.ireturn, 1) := by decide +kernel
set_option maxRecDepth 20000 in
theorem ggX10_feeds_X10_isTape : GoodIn wsX10_feeds wsX10_isTape := goodIn_r _ [9] (by decide +kernel) (by decide +kernel)
set_option maxRecDepth 20000 in
theorem gX10_feeds_X10_isTape : GoodIn wsX10_feeds (va_wsS RX10 235 yX10_isTape wsX10_isTape) := goodIn_app (goodIn_of _ (by decide +kernel)) ggX10_feeds_X10_isTape
set_option maxRecDepth 20000 in
theorem ggX10_feeds_X3_measures : GoodIn wsX10_feeds wsX3_measures := goodIn_r _ [14, 15, 16, 17, 18, 19, 20, 21, 22, 23, 24, 25, 26, 27, 28, 29, 30, 31, 70, 71, 72, 73, 74, 79, 80, 81] (by decide +kernel) (by decide +kernel)
set_option maxRecDepth 20000 in
theorem gX10_feeds_X3_measures : GoodIn wsX10_feeds (wsV RX10 209 RX3 yX3_measures wsX3_measures) := goodIn_app (goodIn_of _ (by decide +kernel)) ggX10_feeds_X3_measures
set_option maxRecDepth 20000 in
theorem ggX10_feeds_X9_becomeRow : GoodIn wsX10_feeds wsX9_becomeRow := goodIn_r _ [36, 37, 38, 39, 40, 41, 42, 43, 75, 76, 77, 78] (by decide +kernel) (by decide +kernel)
set_option maxRecDepth 20000 in
theorem gX10_feeds_X9_becomeRow : GoodIn wsX10_feeds (wsV RX10 238 RX9 yX9_becomeRow wsX9_becomeRow) := goodIn_app (goodIn_of _ (by decide +kernel)) ggX10_feeds_X9_becomeRow
set_option maxRecDepth 20000 in
theorem ggX10_feeds_X3_feedOf : GoodIn wsX10_feeds wsX3_feedOf := goodIn_r _ [47, 23, 48, 49, 50, 51, 13, 52, 24, 22, 53, 54, 55, 56, 79, 80, 81, 70, 71, 72, 73, 74] (by decide +kernel) (by decide +kernel)
set_option maxRecDepth 20000 in
theorem gX10_feeds_X3_feedOf : GoodIn wsX10_feeds (wsV RX10 231 RX3 yX3_feedOf wsX3_feedOf) := goodIn_app (goodIn_of _ (by decide +kernel)) ggX10_feeds_X3_feedOf
theorem dX10_feeds_0 : decode cX10_feeds 0 = .ok (.iload_n 1, 1) := by decide +kernel
theorem dX10_feeds_1 : decode cX10_feeds 1 = .ok (.invokestatic 235, 3) := by decide +kernel
theorem dX10_feeds_4 : decode cX10_feeds 4 = .ok (.ifCond .ne 5, 3) := by decide +kernel
theorem dX10_feeds_7 : decode cX10_feeds 7 = .ok (.iconst (-1), 1) := by decide +kernel
theorem dX10_feeds_8 : decode cX10_feeds 8 = .ok (.ireturn, 1) := by decide +kernel
theorem dX10_feeds_9 : decode cX10_feeds 9 = .ok (.aload_n 0, 1) := by decide +kernel
theorem dX10_feeds_10 : decode cX10_feeds 10 = .ok (.getfield 40, 3) := by decide +kernel
theorem dX10_feeds_13 : decode cX10_feeds 13 = .ok (.iload_n 2, 1) := by decide +kernel
theorem dX10_feeds_14 : decode cX10_feeds 14 = .ok (.aload_n 0, 1) := by decide +kernel
theorem dX10_feeds_15 : decode cX10_feeds 15 = .ok (.getfield 26, 3) := by decide +kernel
theorem dX10_feeds_18 : decode cX10_feeds 18 = .ok (.invokevirtual 209, 3) := by decide +kernel
theorem dX10_feeds_21 : decode cX10_feeds 21 = .ok (.ifCond .ne 6, 3) := by decide +kernel
theorem dX10_feeds_24 : decode cX10_feeds 24 = .ok (.bipush (-3), 2) := by decide +kernel
theorem dX10_feeds_26 : decode cX10_feeds 26 = .ok (.ireturn, 1) := by decide +kernel
theorem dX10_feeds_27 : decode cX10_feeds 27 = .ok (.aload_n 0, 1) := by decide +kernel
theorem dX10_feeds_28 : decode cX10_feeds 28 = .ok (.getfield 40, 3) := by decide +kernel
theorem dX10_feeds_31 : decode cX10_feeds 31 = .ok (.getfield 225, 3) := by decide +kernel
theorem dX10_feeds_34 : decode cX10_feeds 34 = .ok (.sipush 400, 3) := by decide +kernel
theorem dX10_feeds_37 : decode cX10_feeds 37 = .ok (.if_icmp .le 6, 3) := by decide +kernel
theorem dX10_feeds_40 : decode cX10_feeds 40 = .ok (.bipush (-2), 2) := by decide +kernel
theorem dX10_feeds_42 : decode cX10_feeds 42 = .ok (.ireturn, 1) := by decide +kernel
theorem dX10_feeds_43 : decode cX10_feeds 43 = .ok (.aload_n 0, 1) := by decide +kernel
theorem dX10_feeds_44 : decode cX10_feeds 44 = .ok (.getfield 81, 3) := by decide +kernel
theorem dX10_feeds_47 : decode cX10_feeds 47 = .ok (.iload_n 1, 1) := by decide +kernel
theorem dX10_feeds_48 : decode cX10_feeds 48 = .ok (.aaload, 1) := by decide +kernel
theorem dX10_feeds_49 : decode cX10_feeds 49 = .ok (.iconst 2, 1) := by decide +kernel
theorem dX10_feeds_50 : decode cX10_feeds 50 = .ok (.aload_n 0, 1) := by decide +kernel
theorem dX10_feeds_51 : decode cX10_feeds 51 = .ok (.getfield 40, 3) := by decide +kernel
theorem dX10_feeds_54 : decode cX10_feeds 54 = .ok (.getfield 225, 3) := by decide +kernel
theorem dX10_feeds_57 : decode cX10_feeds 57 = .ok (.invokevirtual 238, 3) := by decide +kernel
theorem dX10_feeds_60 : decode cX10_feeds 60 = .ok (.iconst 0, 1) := by decide +kernel
theorem dX10_feeds_61 : decode cX10_feeds 61 = .ok (.istore_n 3, 1) := by decide +kernel
theorem dX10_feeds_62 : decode cX10_feeds 62 = .ok (.iload_n 3, 1) := by decide +kernel
theorem dX10_feeds_63 : decode cX10_feeds 63 = .ok (.aload_n 0, 1) := by decide +kernel
theorem dX10_feeds_64 : decode cX10_feeds 64 = .ok (.getfield 40, 3) := by decide +kernel
theorem dX10_feeds_67 : decode cX10_feeds 67 = .ok (.getfield 225, 3) := by decide +kernel
theorem dX10_feeds_70 : decode cX10_feeds 70 = .ok (.if_icmp .ge 33, 3) := by decide +kernel
theorem dX10_feeds_73 : decode cX10_feeds 73 = .ok (.aload_n 0, 1) := by decide +kernel
theorem dX10_feeds_74 : decode cX10_feeds 74 = .ok (.getfield 81, 3) := by decide +kernel
theorem dX10_feeds_77 : decode cX10_feeds 77 = .ok (.iload_n 1, 1) := by decide +kernel
theorem dX10_feeds_78 : decode cX10_feeds 78 = .ok (.aaload, 1) := by decide +kernel
theorem dX10_feeds_79 : decode cX10_feeds 79 = .ok (.getfield 242, 3) := by decide +kernel
theorem dX10_feeds_82 : decode cX10_feeds 82 = .ok (.iload_n 3, 1) := by decide +kernel
theorem dX10_feeds_83 : decode cX10_feeds 83 = .ok (.aload_n 0, 1) := by decide +kernel
theorem dX10_feeds_84 : decode cX10_feeds 84 = .ok (.getfield 40, 3) := by decide +kernel
theorem dX10_feeds_87 : decode cX10_feeds 87 = .ok (.aload_n 0, 1) := by decide +kernel
theorem dX10_feeds_88 : decode cX10_feeds 88 = .ok (.getfield 26, 3) := by decide +kernel
theorem dX10_feeds_91 : decode cX10_feeds 91 = .ok (.iload_n 3, 1) := by decide +kernel
theorem dX10_feeds_92 : decode cX10_feeds 92 = .ok (.invokevirtual 231, 3) := by decide +kernel
theorem dX10_feeds_95 : decode cX10_feeds 95 = .ok (.i2l, 1) := by decide +kernel
theorem dX10_feeds_96 : decode cX10_feeds 96 = .ok (.lastore, 1) := by decide +kernel
theorem dX10_feeds_97 : decode cX10_feeds 97 = .ok (.iinc 3 1, 3) := by decide +kernel
theorem dX10_feeds_100 : decode cX10_feeds 100 = .ok (.goto (-38), 3) := by decide +kernel
theorem dX10_feeds_103 : decode cX10_feeds 103 = .ok (.aload_n 0, 1) := by decide +kernel
theorem dX10_feeds_104 : decode cX10_feeds 104 = .ok (.getfield 40, 3) := by decide +kernel
theorem dX10_feeds_107 : decode cX10_feeds 107 = .ok (.getfield 225, 3) := by decide +kernel
theorem dX10_feeds_110 : decode cX10_feeds 110 = .ok (.ireturn, 1) := by decide +kernel
set_option maxRecDepth 20000 in
theorem ggX10_judge_X10_isTape : GoodIn wsX10_judge wsX10_isTape := goodIn_r _ [7] (by decide +kernel) (by decide +kernel)
set_option maxRecDepth 20000 in
theorem gX10_judge_X10_isTape : GoodIn wsX10_judge (va_wsS RX10 235 yX10_isTape wsX10_isTape) := goodIn_app (goodIn_of _ (by decide +kernel)) ggX10_judge_X10_isTape
set_option maxRecDepth 20000 in
theorem ggX10_judge_X3_measures : GoodIn wsX10_judge wsX3_measures := goodIn_r _ [12, 13, 14, 15, 16, 17, 18, 19, 20, 21, 22, 23, 24, 25, 26, 27, 28, 29, 69, 70, 71, 72, 73, 74, 75, 76] (by decide +kernel) (by decide +kernel)
set_option maxRecDepth 20000 in
theorem gX10_judge_X3_measures : GoodIn wsX10_judge (wsV RX10 209 RX3 yX3_measures wsX3_measures) := goodIn_app (goodIn_of _ (by decide +kernel)) ggX10_judge_X3_measures
set_option maxRecDepth 20000 in
theorem ggX10_judge_X10_againstSort : GoodIn wsX10_judge wsX10_againstSort := goodIn_r _ [33, 3, 34, 4, 5, 6, 7, 56, 57, 58, 59, 60, 61, 62, 63, 64, 65, 66, 67, 68, 77, 78, 79, 80] (by decide +kernel) (by decide +kernel)
set_option maxRecDepth 20000 in
theorem gX10_judge_X10_againstSort : GoodIn wsX10_judge (wsV RX10 107 RX10 yX10_againstSort wsX10_againstSort) := goodIn_app (goodIn_of _ (by decide +kernel)) ggX10_judge_X10_againstSort
set_option maxRecDepth 20000 in
theorem ggX10_judge_X3_judged : GoodIn wsX10_judge wsX3_judged := goodIn_r _ [38, 21, 22, 39, 40, 41, 14, 42, 43, 44, 11, 45, 20, 46, 47, 17, 48, 49, 6, 50, 74, 75, 76, 69, 70, 71, 72, 73, 77, 78, 79, 80] (by decide +kernel) (by decide +kernel)
set_option maxRecDepth 20000 in
theorem gX10_judge_X3_judged : GoodIn wsX10_judge (wsV RX10 246 RX3 yX3_judged wsX3_judged) := goodIn_app (goodIn_of _ (by decide +kernel)) ggX10_judge_X3_judged
set_option maxRecDepth 20000 in
theorem ggX10_judge_X10_counted : GoodIn wsX10_judge wsX10_counted := goodIn_r _ [54, 55, 56, 57, 58, 59, 60, 61, 62, 63, 64, 65, 66, 67, 68] (by decide +kernel) (by decide +kernel)
set_option maxRecDepth 20000 in
theorem gX10_judge_X10_counted : GoodIn wsX10_judge (wsV RX10 111 RX10 yX10_counted wsX10_counted) := goodIn_app (goodIn_of _ (by decide +kernel)) ggX10_judge_X10_counted
theorem dX10_judge_0 : decode cX10_judge 0 = .ok (.iload_n 1, 1) := by decide +kernel
theorem dX10_judge_1 : decode cX10_judge 1 = .ok (.invokestatic 235, 3) := by decide +kernel
theorem dX10_judge_4 : decode cX10_judge 4 = .ok (.ifCond .ne 5, 3) := by decide +kernel
theorem dX10_judge_7 : decode cX10_judge 7 = .ok (.iconst (-1), 1) := by decide +kernel
theorem dX10_judge_8 : decode cX10_judge 8 = .ok (.ireturn, 1) := by decide +kernel
theorem dX10_judge_9 : decode cX10_judge 9 = .ok (.aload_n 0, 1) := by decide +kernel
theorem dX10_judge_10 : decode cX10_judge 10 = .ok (.getfield 40, 3) := by decide +kernel
theorem dX10_judge_13 : decode cX10_judge 13 = .ok (.iload_n 2, 1) := by decide +kernel
theorem dX10_judge_14 : decode cX10_judge 14 = .ok (.aload_n 0, 1) := by decide +kernel
theorem dX10_judge_15 : decode cX10_judge 15 = .ok (.getfield 26, 3) := by decide +kernel
theorem dX10_judge_18 : decode cX10_judge 18 = .ok (.invokevirtual 209, 3) := by decide +kernel
theorem dX10_judge_21 : decode cX10_judge 21 = .ok (.ifCond .ne 6, 3) := by decide +kernel
theorem dX10_judge_24 : decode cX10_judge 24 = .ok (.bipush (-3), 2) := by decide +kernel
theorem dX10_judge_26 : decode cX10_judge 26 = .ok (.ireturn, 1) := by decide +kernel
theorem dX10_judge_27 : decode cX10_judge 27 = .ok (.aload_n 0, 1) := by decide +kernel
theorem dX10_judge_28 : decode cX10_judge 28 = .ok (.iload_n 1, 1) := by decide +kernel
theorem dX10_judge_29 : decode cX10_judge 29 = .ok (.iconst 2, 1) := by decide +kernel
theorem dX10_judge_30 : decode cX10_judge 30 = .ok (.invokevirtual 107, 3) := by decide +kernel
theorem dX10_judge_33 : decode cX10_judge 33 = .ok (.istore_n 3, 1) := by decide +kernel
theorem dX10_judge_34 : decode cX10_judge 34 = .ok (.aload_n 0, 1) := by decide +kernel
theorem dX10_judge_35 : decode cX10_judge 35 = .ok (.iload_n 3, 1) := by decide +kernel
theorem dX10_judge_36 : decode cX10_judge 36 = .ok (.ifCond .eq 7, 3) := by decide +kernel
theorem dX10_judge_39 : decode cX10_judge 39 = .ok (.iload_n 3, 1) := by decide +kernel
theorem dX10_judge_40 : decode cX10_judge 40 = .ok (.goto 21, 3) := by decide +kernel
theorem dX10_judge_43 : decode cX10_judge 43 = .ok (.aload_n 0, 1) := by decide +kernel
theorem dX10_judge_44 : decode cX10_judge 44 = .ok (.getfield 40, 3) := by decide +kernel
theorem dX10_judge_47 : decode cX10_judge 47 = .ok (.aload_n 0, 1) := by decide +kernel
theorem dX10_judge_48 : decode cX10_judge 48 = .ok (.getfield 81, 3) := by decide +kernel
theorem dX10_judge_51 : decode cX10_judge 51 = .ok (.iload_n 1, 1) := by decide +kernel
theorem dX10_judge_52 : decode cX10_judge 52 = .ok (.aaload, 1) := by decide +kernel
theorem dX10_judge_53 : decode cX10_judge 53 = .ok (.iload_n 2, 1) := by decide +kernel
theorem dX10_judge_54 : decode cX10_judge 54 = .ok (.aload_n 0, 1) := by decide +kernel
theorem dX10_judge_55 : decode cX10_judge 55 = .ok (.getfield 26, 3) := by decide +kernel
theorem dX10_judge_58 : decode cX10_judge 58 = .ok (.invokevirtual 246, 3) := by decide +kernel
theorem dX10_judge_61 : decode cX10_judge 61 = .ok (.invokevirtual 111, 3) := by decide +kernel
theorem dX10_judge_64 : decode cX10_judge 64 = .ok (.ireturn, 1) := by decide +kernel
theorem dX10_cloth_0 : decode cX10_cloth 0 = .ok (.iload_n 1, 1) := by decide +kernel
theorem dX10_cloth_1 : decode cX10_cloth 1 = .ok (.ifCond .lt 18, 3) := by decide +kernel
theorem dX10_cloth_4 : decode cX10_cloth 4 = .ok (.iload_n 1, 1) := by decide +kernel
theorem dX10_cloth_5 : decode cX10_cloth 5 = .ok (.iconst 1, 1) := by decide +kernel
theorem dX10_cloth_6 : decode cX10_cloth 6 = .ok (.if_icmp .gt 13, 3) := by decide +kernel
theorem dX10_cloth_9 : decode cX10_cloth 9 = .ok (.iload_n 2, 1) := by decide +kernel
theorem dX10_cloth_10 : decode cX10_cloth 10 = .ok (.ifCond .lt 9, 3) := by decide +kernel
theorem dX10_cloth_13 : decode cX10_cloth 13 = .ok (.iload_n 2, 1) := by decide +kernel
theorem dX10_cloth_14 : decode cX10_cloth 14 = .ok (.bipush 60, 2) := by decide +kernel
theorem dX10_cloth_16 : decode cX10_cloth 16 = .ok (.if_icmp .le 5, 3) := by decide +kernel
theorem dX10_cloth_19 : decode cX10_cloth 19 = .ok (.iconst (-1), 1) := by decide +kernel
theorem dX10_cloth_20 : decode cX10_cloth 20 = .ok (.ireturn, 1) := by decide +kernel
theorem dX10_cloth_21 : decode cX10_cloth 21 = .ok (.aload_n 0, 1) := by decide +kernel
theorem dX10_cloth_22 : decode cX10_cloth 22 = .ok (.getfield 47, 3) := by decide +kernel
theorem dX10_cloth_25 : decode cX10_cloth 25 = .ok (.getfield 250, 3) := by decide +kernel
theorem dX10_cloth_28 : decode cX10_cloth 28 = .ok (.iload_n 1, 1) := by decide +kernel
theorem dX10_cloth_29 : decode cX10_cloth 29 = .ok (.iaload, 1) := by decide +kernel
theorem dX10_cloth_30 : decode cX10_cloth 30 = .ok (.istore_n 3, 1) := by decide +kernel
theorem dX10_cloth_31 : decode cX10_cloth 31 = .ok (.aload_n 0, 1) := by decide +kernel
theorem dX10_cloth_32 : decode cX10_cloth 32 = .ok (.getfield 47, 3) := by decide +kernel
theorem dX10_cloth_35 : decode cX10_cloth 35 = .ok (.getfield 250, 3) := by decide +kernel
theorem dX10_cloth_38 : decode cX10_cloth 38 = .ok (.iload_n 1, 1) := by decide +kernel
theorem dX10_cloth_39 : decode cX10_cloth 39 = .ok (.iload_n 2, 1) := by decide +kernel
theorem dX10_cloth_40 : decode cX10_cloth 40 = .ok (.iastore, 1) := by decide +kernel
theorem dX10_cloth_41 : decode cX10_cloth 41 = .ok (.iload_n 3, 1) := by decide +kernel
theorem dX10_cloth_42 : decode cX10_cloth 42 = .ok (.ireturn, 1) := by decide +kernel
set_option maxRecDepth 20000 in
theorem ggX10_tensions_X0_depth : GoodIn wsX10_tensions wsX0_depth := goodIn_r _ [8, 9, 10, 11, 7, 12, 13, 27, 28, 29, 30, 31] (by decide +kernel) (by decide +kernel)
set_option maxRecDepth 20000 in
theorem gX10_tensions_X0_depth : GoodIn wsX10_tensions (wsV RX10 259 RX0 yX0_depth wsX0_depth) := goodIn_app (goodIn_of _ (by decide +kernel)) ggX10_tensions_X0_depth
theorem dX10_tensions_0 : decode cX10_tensions 0 = .ok (.iload_n 1, 1) := by decide +kernel
theorem dX10_tensions_1 : decode cX10_tensions 1 = .ok (.iconst 1, 1) := by decide +kernel
theorem dX10_tensions_2 : decode cX10_tensions 2 = .ok (.if_icmp .lt 20, 3) := by decide +kernel
theorem dX10_tensions_5 : decode cX10_tensions 5 = .ok (.iload_n 1, 1) := by decide +kernel
theorem dX10_tensions_6 : decode cX10_tensions 6 = .ok (.bipush 99, 2) := by decide +kernel
theorem dX10_tensions_8 : decode cX10_tensions 8 = .ok (.if_icmp .gt 14, 3) := by decide +kernel
theorem dX10_tensions_11 : decode cX10_tensions 11 = .ok (.iload_n 2, 1) := by decide +kernel
theorem dX10_tensions_12 : decode cX10_tensions 12 = .ok (.iconst 1, 1) := by decide +kernel
theorem dX10_tensions_13 : decode cX10_tensions 13 = .ok (.if_icmp .lt 9, 3) := by decide +kernel
theorem dX10_tensions_16 : decode cX10_tensions 16 = .ok (.iload_n 2, 1) := by decide +kernel
theorem dX10_tensions_17 : decode cX10_tensions 17 = .ok (.bipush 99, 2) := by decide +kernel
theorem dX10_tensions_19 : decode cX10_tensions 19 = .ok (.if_icmp .le 5, 3) := by decide +kernel
theorem dX10_tensions_22 : decode cX10_tensions 22 = .ok (.iconst (-1), 1) := by decide +kernel
theorem dX10_tensions_23 : decode cX10_tensions 23 = .ok (.ireturn, 1) := by decide +kernel
theorem dX10_tensions_24 : decode cX10_tensions 24 = .ok (.aload_n 0, 1) := by decide +kernel
theorem dX10_tensions_25 : decode cX10_tensions 25 = .ok (.getfield 47, 3) := by decide +kernel
theorem dX10_tensions_28 : decode cX10_tensions 28 = .ok (.iload_n 1, 1) := by decide +kernel
theorem dX10_tensions_29 : decode cX10_tensions 29 = .ok (.putfield 253, 3) := by decide +kernel
theorem dX10_tensions_32 : decode cX10_tensions 32 = .ok (.aload_n 0, 1) := by decide +kernel
theorem dX10_tensions_33 : decode cX10_tensions 33 = .ok (.getfield 47, 3) := by decide +kernel
theorem dX10_tensions_36 : decode cX10_tensions 36 = .ok (.iload_n 2, 1) := by decide +kernel
theorem dX10_tensions_37 : decode cX10_tensions 37 = .ok (.putfield 256, 3) := by decide +kernel
theorem dX10_tensions_40 : decode cX10_tensions 40 = .ok (.aload_n 0, 1) := by decide +kernel
theorem dX10_tensions_41 : decode cX10_tensions 41 = .ok (.getfield 47, 3) := by decide +kernel
theorem dX10_tensions_44 : decode cX10_tensions 44 = .ok (.iload_n 1, 1) := by decide +kernel
theorem dX10_tensions_45 : decode cX10_tensions 45 = .ok (.iload_n 2, 1) := by decide +kernel
theorem dX10_tensions_46 : decode cX10_tensions 46 = .ok (.invokevirtual 259, 3) := by decide +kernel
theorem dX10_tensions_49 : decode cX10_tensions 49 = .ok (.ireturn, 1) := by decide +kernel
set_option maxRecDepth 20000 in
theorem ggX10_lock_X0_depth : GoodIn wsX10_lock wsX0_depth := goodIn_r _ [8, 9, 10, 11, 7, 12, 13, 31, 32, 33, 34, 35] (by decide +kernel) (by decide +kernel)
set_option maxRecDepth 20000 in
theorem gX10_lock_X0_depth : GoodIn wsX10_lock (wsV RX10 259 RX0 yX0_depth wsX0_depth) := goodIn_app (goodIn_of _ (by decide +kernel)) ggX10_lock_X0_depth
set_option maxRecDepth 20000 in
theorem ggX10_lock_X0_whereLies : GoodIn wsX10_lock wsX0_whereLies := goodIn_r _ [17, 13, 9, 10, 11, 7, 12, 31, 32, 33, 34, 35] (by decide +kernel) (by decide +kernel)
set_option maxRecDepth 20000 in
theorem gX10_lock_X0_whereLies : GoodIn wsX10_lock (wsV RX10 262 RX0 yX0_whereLies wsX0_whereLies) := goodIn_app (goodIn_of _ (by decide +kernel)) ggX10_lock_X0_whereLies
theorem dX10_lock_0 : decode cX10_lock 0 = .ok (.aload_n 0, 1) := by decide +kernel
theorem dX10_lock_1 : decode cX10_lock 1 = .ok (.getfield 47, 3) := by decide +kernel
theorem dX10_lock_4 : decode cX10_lock 4 = .ok (.aload_n 0, 1) := by decide +kernel
theorem dX10_lock_5 : decode cX10_lock 5 = .ok (.getfield 47, 3) := by decide +kernel
theorem dX10_lock_8 : decode cX10_lock 8 = .ok (.aload_n 0, 1) := by decide +kernel
theorem dX10_lock_9 : decode cX10_lock 9 = .ok (.getfield 47, 3) := by decide +kernel
theorem dX10_lock_12 : decode cX10_lock 12 = .ok (.getfield 253, 3) := by decide +kernel
theorem dX10_lock_15 : decode cX10_lock 15 = .ok (.aload_n 0, 1) := by decide +kernel
theorem dX10_lock_16 : decode cX10_lock 16 = .ok (.getfield 47, 3) := by decide +kernel
theorem dX10_lock_19 : decode cX10_lock 19 = .ok (.getfield 256, 3) := by decide +kernel
theorem dX10_lock_22 : decode cX10_lock 22 = .ok (.invokevirtual 259, 3) := by decide +kernel
theorem dX10_lock_25 : decode cX10_lock 25 = .ok (.invokevirtual 262, 3) := by decide +kernel
theorem dX10_lock_28 : decode cX10_lock 28 = .ok (.ireturn, 1) := by decide +kernel
set_option maxRecDepth 20000 in
theorem ggX10_tune_X0_leastTensions : GoodIn wsX10_tune wsX0_leastTensions := goodIn_r _ [6, 7, 8, 9, 10, 11, 12, 13, 5, 14, 15, 16, 17, 18, 19, 20, 21, 22, 23, 37, 38, 39, 40, 41] (by decide +kernel) (by decide +kernel)
set_option maxRecDepth 20000 in
theorem gX10_tune_X0_leastTensions : GoodIn wsX10_tune (wsV RX10 265 RX0 yX0_leastTensions wsX0_leastTensions) := goodIn_app (goodIn_of _ (by decide +kernel)) ggX10_tune_X0_leastTensions
theorem dX10_tune_0 : decode cX10_tune 0 = .ok (.iload_n 1, 1) := by decide +kernel
theorem dX10_tune_1 : decode cX10_tune 1 = .ok (.ifCond .lt 8, 3) := by decide +kernel
theorem dX10_tune_4 : decode cX10_tune 4 = .ok (.iload_n 1, 1) := by decide +kernel
theorem dX10_tune_5 : decode cX10_tune 5 = .ok (.iconst 1, 1) := by decide +kernel
theorem dX10_tune_6 : decode cX10_tune 6 = .ok (.if_icmp .le 5, 3) := by decide +kernel
theorem dX10_tune_9 : decode cX10_tune 9 = .ok (.iconst (-1), 1) := by decide +kernel
theorem dX10_tune_10 : decode cX10_tune 10 = .ok (.ireturn, 1) := by decide +kernel
theorem dX10_tune_11 : decode cX10_tune 11 = .ok (.aload_n 0, 1) := by decide +kernel
theorem dX10_tune_12 : decode cX10_tune 12 = .ok (.getfield 47, 3) := by decide +kernel
theorem dX10_tune_15 : decode cX10_tune 15 = .ok (.iload_n 1, 1) := by decide +kernel
theorem dX10_tune_16 : decode cX10_tune 16 = .ok (.invokevirtual 265, 3) := by decide +kernel
theorem dX10_tune_19 : decode cX10_tune 19 = .ok (.ireturn, 1) := by decide +kernel
theorem dX10_wind_0 : decode cX10_wind 0 = .ok (.iload_n 1, 1) := by decide +kernel
theorem dX10_wind_1 : decode cX10_wind 1 = .ok (.ifCond .lt 21, 3) := by decide +kernel
theorem dX10_wind_4 : decode cX10_wind 4 = .ok (.iload_n 1, 1) := by decide +kernel
theorem dX10_wind_5 : decode cX10_wind 5 = .ok (.ldc_w 268, 3) := by decide +kernel
theorem dX10_wind_8 : decode cX10_wind 8 = .ok (.if_icmp .gt 14, 3) := by decide +kernel
theorem dX10_wind_11 : decode cX10_wind 11 = .ok (.iload_n 2, 1) := by decide +kernel
theorem dX10_wind_12 : decode cX10_wind 12 = .ok (.ifCond .lt 10, 3) := by decide +kernel
theorem dX10_wind_15 : decode cX10_wind 15 = .ok (.iload_n 2, 1) := by decide +kernel
theorem dX10_wind_16 : decode cX10_wind 16 = .ok (.ldc_w 268, 3) := by decide +kernel
theorem dX10_wind_19 : decode cX10_wind 19 = .ok (.if_icmp .le 5, 3) := by decide +kernel
theorem dX10_wind_22 : decode cX10_wind 22 = .ok (.iconst (-1), 1) := by decide +kernel
theorem dX10_wind_23 : decode cX10_wind 23 = .ok (.ireturn, 1) := by decide +kernel
theorem dX10_wind_24 : decode cX10_wind 24 = .ok (.aload_n 0, 1) := by decide +kernel
theorem dX10_wind_25 : decode cX10_wind 25 = .ok (.getfield 47, 3) := by decide +kernel
theorem dX10_wind_28 : decode cX10_wind 28 = .ok (.iload_n 1, 1) := by decide +kernel
theorem dX10_wind_29 : decode cX10_wind 29 = .ok (.putfield 269, 3) := by decide +kernel
theorem dX10_wind_32 : decode cX10_wind 32 = .ok (.aload_n 0, 1) := by decide +kernel
theorem dX10_wind_33 : decode cX10_wind 33 = .ok (.getfield 47, 3) := by decide +kernel
theorem dX10_wind_36 : decode cX10_wind 36 = .ok (.iload_n 2, 1) := by decide +kernel
theorem dX10_wind_37 : decode cX10_wind 37 = .ok (.putfield 272, 3) := by decide +kernel
theorem dX10_wind_40 : decode cX10_wind 40 = .ok (.iconst 0, 1) := by decide +kernel
theorem dX10_wind_41 : decode cX10_wind 41 = .ok (.ireturn, 1) := by decide +kernel
set_option maxRecDepth 20000 in
theorem ggX10_step_X4_isStep : GoodIn wsX10_step wsX4_isStep := goodIn_r _ [8, 9, 10, 11] (by decide +kernel) (by decide +kernel)
set_option maxRecDepth 20000 in
theorem gX10_step_X4_isStep : GoodIn wsX10_step (va_wsS RX10 275 yX4_isStep wsX4_isStep) := goodIn_app (goodIn_of _ (by decide +kernel)) ggX10_step_X4_isStep
theorem dX10_step_0 : decode cX10_step 0 = .ok (.iload_n 1, 1) := by decide +kernel
theorem dX10_step_1 : decode cX10_step 1 = .ok (.iload_n 2, 1) := by decide +kernel
theorem dX10_step_2 : decode cX10_step 2 = .ok (.invokestatic 275, 3) := by decide +kernel
theorem dX10_step_5 : decode cX10_step 5 = .ok (.ifCond .ne 5, 3) := by decide +kernel
theorem dX10_step_8 : decode cX10_step 8 = .ok (.iconst (-1), 1) := by decide +kernel
theorem dX10_step_9 : decode cX10_step 9 = .ok (.ireturn, 1) := by decide +kernel
theorem dX10_step_10 : decode cX10_step 10 = .ok (.aload_n 0, 1) := by decide +kernel
theorem dX10_step_11 : decode cX10_step 11 = .ok (.getfield 54, 3) := by decide +kernel
theorem dX10_step_14 : decode cX10_step 14 = .ok (.getfield 97, 3) := by decide +kernel
theorem dX10_step_17 : decode cX10_step 17 = .ok (.bipush 20, 2) := by decide +kernel
theorem dX10_step_19 : decode cX10_step 19 = .ok (.if_icmp .lt 6, 3) := by decide +kernel
theorem dX10_step_22 : decode cX10_step 22 = .ok (.bipush (-2), 2) := by decide +kernel
theorem dX10_step_24 : decode cX10_step 24 = .ok (.ireturn, 1) := by decide +kernel
theorem dX10_step_25 : decode cX10_step 25 = .ok (.aload_n 0, 1) := by decide +kernel
theorem dX10_step_26 : decode cX10_step 26 = .ok (.getfield 54, 3) := by decide +kernel
theorem dX10_step_29 : decode cX10_step 29 = .ok (.getfield 278, 3) := by decide +kernel
theorem dX10_step_32 : decode cX10_step 32 = .ok (.aload_n 0, 1) := by decide +kernel
theorem dX10_step_33 : decode cX10_step 33 = .ok (.getfield 54, 3) := by decide +kernel
theorem dX10_step_36 : decode cX10_step 36 = .ok (.getfield 97, 3) := by decide +kernel
theorem dX10_step_39 : decode cX10_step 39 = .ok (.iload_n 1, 1) := by decide +kernel
theorem dX10_step_40 : decode cX10_step 40 = .ok (.iastore, 1) := by decide +kernel
theorem dX10_step_41 : decode cX10_step 41 = .ok (.aload_n 0, 1) := by decide +kernel
theorem dX10_step_42 : decode cX10_step 42 = .ok (.getfield 54, 3) := by decide +kernel
theorem dX10_step_45 : decode cX10_step 45 = .ok (.getfield 281, 3) := by decide +kernel
theorem dX10_step_48 : decode cX10_step 48 = .ok (.aload_n 0, 1) := by decide +kernel
theorem dX10_step_49 : decode cX10_step 49 = .ok (.getfield 54, 3) := by decide +kernel
theorem dX10_step_52 : decode cX10_step 52 = .ok (.getfield 97, 3) := by decide +kernel
theorem dX10_step_55 : decode cX10_step 55 = .ok (.iload_n 2, 1) := by decide +kernel
theorem dX10_step_56 : decode cX10_step 56 = .ok (.iastore, 1) := by decide +kernel
theorem dX10_step_57 : decode cX10_step 57 = .ok (.aload_n 0, 1) := by decide +kernel
theorem dX10_step_58 : decode cX10_step 58 = .ok (.getfield 54, 3) := by decide +kernel
theorem dX10_step_61 : decode cX10_step 61 = .ok (.dup, 1) := by decide +kernel
theorem dX10_step_62 : decode cX10_step 62 = .ok (.getfield 97, 3) := by decide +kernel
theorem dX10_step_65 : decode cX10_step 65 = .ok (.iconst 1, 1) := by decide +kernel
theorem dX10_step_66 : decode cX10_step 66 = .ok (.iadd, 1) := by decide +kernel
theorem dX10_step_67 : decode cX10_step 67 = .ok (.putfield 97, 3) := by decide +kernel
theorem dX10_step_70 : decode cX10_step 70 = .ok (.aload_n 0, 1) := by decide +kernel
theorem dX10_step_71 : decode cX10_step 71 = .ok (.getfield 54, 3) := by decide +kernel
theorem dX10_step_74 : decode cX10_step 74 = .ok (.getfield 97, 3) := by decide +kernel
theorem dX10_step_77 : decode cX10_step 77 = .ok (.ireturn, 1) := by decide +kernel
theorem dX10_stepless_0 : decode cX10_stepless 0 = .ok (.aload_n 0, 1) := by decide +kernel
theorem dX10_stepless_1 : decode cX10_stepless 1 = .ok (.getfield 54, 3) := by decide +kernel
theorem dX10_stepless_4 : decode cX10_stepless 4 = .ok (.getfield 97, 3) := by decide +kernel
theorem dX10_stepless_7 : decode cX10_stepless 7 = .ok (.istore_n 1, 1) := by decide +kernel
theorem dX10_stepless_8 : decode cX10_stepless 8 = .ok (.aload_n 0, 1) := by decide +kernel
theorem dX10_stepless_9 : decode cX10_stepless 9 = .ok (.getfield 54, 3) := by decide +kernel
theorem dX10_stepless_12 : decode cX10_stepless 12 = .ok (.iconst 0, 1) := by decide +kernel
theorem dX10_stepless_13 : decode cX10_stepless 13 = .ok (.putfield 97, 3) := by decide +kernel
theorem dX10_stepless_16 : decode cX10_stepless 16 = .ok (.iload_n 1, 1) := by decide +kernel
theorem dX10_stepless_17 : decode cX10_stepless 17 = .ok (.ireturn, 1) := by decide +kernel
set_option maxRecDepth 20000 in
theorem ggX10_sew_X1_needle : GoodIn wsX10_sew wsX1_needle := goodIn_r _ [13, 14, 15, 128, 129, 130] (by decide +kernel) (by decide +kernel)
set_option maxRecDepth 20000 in
theorem gX10_sew_X1_needle : GoodIn wsX10_sew (wsV RX10 284 RX1 yX1_needle wsX1_needle) := goodIn_app (goodIn_of _ (by decide +kernel)) ggX10_sew_X1_needle
set_option maxRecDepth 20000 in
theorem ggX10_sew_X8_start : GoodIn wsX10_sew wsX8_start := goodIn_r _ [20, 21, 22, 23, 24, 25, 26, 27, 28, 29, 30, 31, 32, 114, 115, 116, 117, 118, 119, 120, 121, 122, 123, 124, 125, 126, 127] (by decide +kernel) (by decide +kernel)
set_option maxRecDepth 20000 in
theorem gX10_sew_X8_start : GoodIn wsX10_sew (wsV RX10 287 RX8 yX8_start wsX8_start) := goodIn_app (goodIn_of _ (by decide +kernel)) ggX10_sew_X8_start
set_option maxRecDepth 20000 in
theorem ggX10_sew_X10_endsStep : GoodIn wsX10_sew wsX10_endsStep := goodIn_r _ [37, 1, 38, 39, 2, 40, 41, 42, 43, 44, 45, 36, 46, 47, 48, 49, 50, 51, 12, 52, 15, 53, 54, 55, 56, 57, 14, 58, 59, 60, 19, 61, 62, 27, 63, 64, 65, 66, 22, 67, 31, 32, 26, 68, 69, 70, 71, 72, 73, 23, 74, 24, 75, 76, 77, 78, 79, 80, 81, 82, 28, 29, 83, 84, 85, 86, 87, 88, 89, 90, 91, 92, 93, 94, 95, 96, 97, 25, 98, 99, 100, 101, 102, 103, 104, 105, 106, 107, 108, 109, 110, 114, 115, 116, 117, 118, 119, 120, 121, 122, 123, 124, 125, 126, 127, 128, 129, 130, 131, 132, 133, 134, 135] (by decide +kernel) (by decide +kernel)
set_option maxRecDepth 20000 in
theorem gX10_sew_X10_endsStep : GoodIn wsX10_sew (wsV RX10 291 RX10 yX10_endsStep wsX10_endsStep) := goodIn_app (goodIn_of _ (by decide +kernel)) ggX10_sew_X10_endsStep
theorem dX10_sew_0 : decode cX10_sew 0 = .ok (.aload_n 0, 1) := by decide +kernel
theorem dX10_sew_1 : decode cX10_sew 1 = .ok (.getfield 61, 3) := by decide +kernel
theorem dX10_sew_4 : decode cX10_sew 4 = .ok (.aload_n 0, 1) := by decide +kernel
theorem dX10_sew_5 : decode cX10_sew 5 = .ok (.getfield 26, 3) := by decide +kernel
theorem dX10_sew_8 : decode cX10_sew 8 = .ok (.invokevirtual 284, 3) := by decide +kernel
theorem dX10_sew_11 : decode cX10_sew 11 = .ok (.invokevirtual 287, 3) := by decide +kernel
theorem dX10_sew_14 : decode cX10_sew 14 = .ok (.iconst 0, 1) := by decide +kernel
theorem dX10_sew_15 : decode cX10_sew 15 = .ok (.istore_n 1, 1) := by decide +kernel
theorem dX10_sew_16 : decode cX10_sew 16 = .ok (.iload_n 1, 1) := by decide +kernel
theorem dX10_sew_17 : decode cX10_sew 17 = .ok (.aload_n 0, 1) := by decide +kernel
theorem dX10_sew_18 : decode cX10_sew 18 = .ok (.getfield 54, 3) := by decide +kernel
theorem dX10_sew_21 : decode cX10_sew 21 = .ok (.getfield 97, 3) := by decide +kernel
theorem dX10_sew_24 : decode cX10_sew 24 = .ok (.if_icmp .ge 34, 3) := by decide +kernel
theorem dX10_sew_27 : decode cX10_sew 27 = .ok (.aload_n 0, 1) := by decide +kernel
theorem dX10_sew_28 : decode cX10_sew 28 = .ok (.aload_n 0, 1) := by decide +kernel
theorem dX10_sew_29 : decode cX10_sew 29 = .ok (.getfield 54, 3) := by decide +kernel
theorem dX10_sew_32 : decode cX10_sew 32 = .ok (.getfield 278, 3) := by decide +kernel
theorem dX10_sew_35 : decode cX10_sew 35 = .ok (.iload_n 1, 1) := by decide +kernel
theorem dX10_sew_36 : decode cX10_sew 36 = .ok (.iaload, 1) := by decide +kernel
theorem dX10_sew_37 : decode cX10_sew 37 = .ok (.aload_n 0, 1) := by decide +kernel
theorem dX10_sew_38 : decode cX10_sew 38 = .ok (.getfield 54, 3) := by decide +kernel
theorem dX10_sew_41 : decode cX10_sew 41 = .ok (.getfield 281, 3) := by decide +kernel
theorem dX10_sew_44 : decode cX10_sew 44 = .ok (.iload_n 1, 1) := by decide +kernel
theorem dX10_sew_45 : decode cX10_sew 45 = .ok (.iaload, 1) := by decide +kernel
theorem dX10_sew_46 : decode cX10_sew 46 = .ok (.invokevirtual 291, 3) := by decide +kernel
theorem dX10_sew_49 : decode cX10_sew 49 = .ok (.ifCond .eq 9, 3) := by decide +kernel
theorem dX10_sew_52 : decode cX10_sew 52 = .ok (.iinc 1 1, 3) := by decide +kernel
theorem dX10_sew_55 : decode cX10_sew 55 = .ok (.goto (-39), 3) := by decide +kernel
theorem dX10_sew_58 : decode cX10_sew 58 = .ok (.aload_n 0, 1) := by decide +kernel
theorem dX10_sew_59 : decode cX10_sew 59 = .ok (.getfield 61, 3) := by decide +kernel
theorem dX10_sew_62 : decode cX10_sew 62 = .ok (.iload_n 1, 1) := by decide +kernel
theorem dX10_sew_63 : decode cX10_sew 63 = .ok (.putfield 294, 3) := by decide +kernel
theorem dX10_sew_66 : decode cX10_sew 66 = .ok (.aload_n 0, 1) := by decide +kernel
theorem dX10_sew_67 : decode cX10_sew 67 = .ok (.getfield 61, 3) := by decide +kernel
theorem dX10_sew_70 : decode cX10_sew 70 = .ok (.getfield 297, 3) := by decide +kernel
theorem dX10_sew_73 : decode cX10_sew 73 = .ok (.ireturn, 1) := by decide +kernel
set_option maxRecDepth 20000 in
theorem ggX10_seam_X8_returns : GoodIn wsX10_seam wsX8_returns := goodIn_r _ [20, 21, 22, 23, 24, 25, 26, 19, 27, 41, 42, 43, 44, 45, 46, 47, 48, 49, 50, 51, 52, 53, 54] (by decide +kernel) (by decide +kernel)
set_option maxRecDepth 20000 in
theorem gX10_seam_X8_returns : GoodIn wsX10_seam (wsV RX10 319 RX8 yX8_returns wsX8_returns) := goodIn_app (goodIn_of _ (by decide +kernel)) ggX10_seam_X8_returns
theorem dX10_seam_0 : decode cX10_seam 0 = .ok (.iload_n 1, 1) := by decide +kernel
theorem dX10_seam_1 : decode cX10_seam 1 = .ok (.ifCond .lt 9, 3) := by decide +kernel
theorem dX10_seam_4 : decode cX10_seam 4 = .ok (.iload_n 1, 1) := by decide +kernel
theorem dX10_seam_5 : decode cX10_seam 5 = .ok (.bipush 9, 2) := by decide +kernel
theorem dX10_seam_7 : decode cX10_seam 7 = .ok (.if_icmp .le 13, 3) := by decide +kernel
theorem dX10_seam_10 : decode cX10_seam 10 = .ok (.new 129, 3) := by decide +kernel
theorem dX10_seam_13 : decode cX10_seam 13 = .ok (.dup, 1) := by decide +kernel
theorem dX10_seam_14 : decode cX10_seam 14 = .ok (.ldc 131, 2) := by decide +kernel
theorem dX10_seam_16 : decode cX10_seam 16 = .ok (.invokespecial 133, 3) := by decide +kernel
theorem dX10_seam_19 : decode cX10_seam 19 = .ok (.athrow, 1) := by decide +kernel
theorem dX10_seam_20 : decode cX10_seam 20 = .ok (.aload_n 0, 1) := by decide +kernel
theorem dX10_seam_21 : decode cX10_seam 21 = .ok (.getfield 61, 3) := by decide +kernel
theorem dX10_seam_24 : decode cX10_seam 24 = .ok (.getfield 298, 3) := by decide +kernel
theorem dX10_seam_27 : decode cX10_seam 27 = .ok (.ifCond .ne 14, 3) := by decide +kernel
theorem dX10_seam_30 : decode cX10_seam 30 = .ok (.new 136, 3) := by decide +kernel
theorem dX10_seam_33 : decode cX10_seam 33 = .ok (.dup, 1) := by decide +kernel
theorem dX10_seam_34 : decode cX10_seam 34 = .ok (.ldc_w 302, 3) := by decide +kernel
theorem dX10_seam_37 : decode cX10_seam 37 = .ok (.invokespecial 140, 3) := by decide +kernel
theorem dX10_seam_40 : decode cX10_seam 40 = .ok (.athrow, 1) := by decide +kernel
theorem dX10_seam_41 : decode cX10_seam 41 = .ok (.iload_n 1, 1) := by decide +kernel
theorem dX10_seam_42 : decode cX10_seam 42 = .ok (.tableswitch 130 0 8 #[50, 58, 66, 74, 82, 98, 106, 114, 122], 50) := by decide +kernel
theorem dX10_seam_92 : decode cX10_seam 92 = .ok (.aload_n 0, 1) := by decide +kernel
theorem dX10_seam_93 : decode cX10_seam 93 = .ok (.getfield 61, 3) := by decide +kernel
theorem dX10_seam_96 : decode cX10_seam 96 = .ok (.getfield 297, 3) := by decide +kernel
theorem dX10_seam_99 : decode cX10_seam 99 = .ok (.ireturn, 1) := by decide +kernel
theorem dX10_seam_100 : decode cX10_seam 100 = .ok (.aload_n 0, 1) := by decide +kernel
theorem dX10_seam_101 : decode cX10_seam 101 = .ok (.getfield 61, 3) := by decide +kernel
theorem dX10_seam_104 : decode cX10_seam 104 = .ok (.getfield 304, 3) := by decide +kernel
theorem dX10_seam_107 : decode cX10_seam 107 = .ok (.ireturn, 1) := by decide +kernel
theorem dX10_seam_108 : decode cX10_seam 108 = .ok (.aload_n 0, 1) := by decide +kernel
theorem dX10_seam_109 : decode cX10_seam 109 = .ok (.getfield 61, 3) := by decide +kernel
theorem dX10_seam_112 : decode cX10_seam 112 = .ok (.getfield 307, 3) := by decide +kernel
theorem dX10_seam_115 : decode cX10_seam 115 = .ok (.ireturn, 1) := by decide +kernel
theorem dX10_seam_116 : decode cX10_seam 116 = .ok (.aload_n 0, 1) := by decide +kernel
theorem dX10_seam_117 : decode cX10_seam 117 = .ok (.getfield 61, 3) := by decide +kernel
theorem dX10_seam_120 : decode cX10_seam 120 = .ok (.getfield 310, 3) := by decide +kernel
theorem dX10_seam_123 : decode cX10_seam 123 = .ok (.ireturn, 1) := by decide +kernel
theorem dX10_seam_124 : decode cX10_seam 124 = .ok (.aload_n 0, 1) := by decide +kernel
theorem dX10_seam_125 : decode cX10_seam 125 = .ok (.getfield 61, 3) := by decide +kernel
theorem dX10_seam_128 : decode cX10_seam 128 = .ok (.getfield 313, 3) := by decide +kernel
theorem dX10_seam_131 : decode cX10_seam 131 = .ok (.ifCond .eq 7, 3) := by decide +kernel
theorem dX10_seam_134 : decode cX10_seam 134 = .ok (.iconst 1, 1) := by decide +kernel
theorem dX10_seam_135 : decode cX10_seam 135 = .ok (.goto 4, 3) := by decide +kernel
theorem dX10_seam_138 : decode cX10_seam 138 = .ok (.iconst 0, 1) := by decide +kernel
theorem dX10_seam_139 : decode cX10_seam 139 = .ok (.ireturn, 1) := by decide +kernel
theorem dX10_seam_140 : decode cX10_seam 140 = .ok (.aload_n 0, 1) := by decide +kernel
theorem dX10_seam_141 : decode cX10_seam 141 = .ok (.getfield 61, 3) := by decide +kernel
theorem dX10_seam_144 : decode cX10_seam 144 = .ok (.getfield 316, 3) := by decide +kernel
theorem dX10_seam_147 : decode cX10_seam 147 = .ok (.ireturn, 1) := by decide +kernel
theorem dX10_seam_148 : decode cX10_seam 148 = .ok (.aload_n 0, 1) := by decide +kernel
theorem dX10_seam_149 : decode cX10_seam 149 = .ok (.getfield 61, 3) := by decide +kernel
theorem dX10_seam_152 : decode cX10_seam 152 = .ok (.invokevirtual 319, 3) := by decide +kernel
theorem dX10_seam_155 : decode cX10_seam 155 = .ok (.ireturn, 1) := by decide +kernel
theorem dX10_seam_156 : decode cX10_seam 156 = .ok (.aload_n 0, 1) := by decide +kernel
theorem dX10_seam_157 : decode cX10_seam 157 = .ok (.getfield 61, 3) := by decide +kernel
theorem dX10_seam_160 : decode cX10_seam 160 = .ok (.getfield 322, 3) := by decide +kernel
theorem dX10_seam_163 : decode cX10_seam 163 = .ok (.ireturn, 1) := by decide +kernel
theorem dX10_seam_164 : decode cX10_seam 164 = .ok (.aload_n 0, 1) := by decide +kernel
theorem dX10_seam_165 : decode cX10_seam 165 = .ok (.getfield 61, 3) := by decide +kernel
theorem dX10_seam_168 : decode cX10_seam 168 = .ok (.getfield 325, 3) := by decide +kernel
theorem dX10_seam_171 : decode cX10_seam 171 = .ok (.ireturn, 1) := by decide +kernel
theorem dX10_seam_172 : decode cX10_seam 172 = .ok (.aload_n 0, 1) := by decide +kernel
theorem dX10_seam_173 : decode cX10_seam 173 = .ok (.getfield 61, 3) := by decide +kernel
theorem dX10_seam_176 : decode cX10_seam 176 = .ok (.getfield 294, 3) := by decide +kernel
theorem dX10_seam_179 : decode cX10_seam 179 = .ok (.ireturn, 1) := by decide +kernel
theorem dX10_sewn_0 : decode cX10_sewn 0 = .ok (.iload_n 2, 1) := by decide +kernel
theorem dX10_sewn_1 : decode cX10_sewn 1 = .ok (.ifCond .lt 8, 3) := by decide +kernel
theorem dX10_sewn_4 : decode cX10_sewn 4 = .ok (.iload_n 2, 1) := by decide +kernel
theorem dX10_sewn_5 : decode cX10_sewn 5 = .ok (.iconst 1, 1) := by decide +kernel
theorem dX10_sewn_6 : decode cX10_sewn 6 = .ok (.if_icmp .le 13, 3) := by decide +kernel
theorem dX10_sewn_9 : decode cX10_sewn 9 = .ok (.new 129, 3) := by decide +kernel
theorem dX10_sewn_12 : decode cX10_sewn 12 = .ok (.dup, 1) := by decide +kernel
theorem dX10_sewn_13 : decode cX10_sewn 13 = .ok (.ldc 131, 2) := by decide +kernel
theorem dX10_sewn_15 : decode cX10_sewn 15 = .ok (.invokespecial 133, 3) := by decide +kernel
theorem dX10_sewn_18 : decode cX10_sewn 18 = .ok (.athrow, 1) := by decide +kernel
theorem dX10_sewn_19 : decode cX10_sewn 19 = .ok (.iload_n 1, 1) := by decide +kernel
theorem dX10_sewn_20 : decode cX10_sewn 20 = .ok (.ifCond .lt 14, 3) := by decide +kernel
theorem dX10_sewn_23 : decode cX10_sewn 23 = .ok (.iload_n 1, 1) := by decide +kernel
theorem dX10_sewn_24 : decode cX10_sewn 24 = .ok (.aload_n 0, 1) := by decide +kernel
theorem dX10_sewn_25 : decode cX10_sewn 25 = .ok (.getfield 61, 3) := by decide +kernel
theorem dX10_sewn_28 : decode cX10_sewn 28 = .ok (.getfield 297, 3) := by decide +kernel
theorem dX10_sewn_31 : decode cX10_sewn 31 = .ok (.if_icmp .lt 13, 3) := by decide +kernel
theorem dX10_sewn_34 : decode cX10_sewn 34 = .ok (.new 136, 3) := by decide +kernel
theorem dX10_sewn_37 : decode cX10_sewn 37 = .ok (.dup, 1) := by decide +kernel
theorem dX10_sewn_38 : decode cX10_sewn 38 = .ok (.ldc 182, 2) := by decide +kernel
theorem dX10_sewn_40 : decode cX10_sewn 40 = .ok (.invokespecial 140, 3) := by decide +kernel
theorem dX10_sewn_43 : decode cX10_sewn 43 = .ok (.athrow, 1) := by decide +kernel
theorem dX10_sewn_44 : decode cX10_sewn 44 = .ok (.iload_n 2, 1) := by decide +kernel
theorem dX10_sewn_45 : decode cX10_sewn 45 = .ok (.ifCond .ne 15, 3) := by decide +kernel
theorem dX10_sewn_48 : decode cX10_sewn 48 = .ok (.aload_n 0, 1) := by decide +kernel
theorem dX10_sewn_49 : decode cX10_sewn 49 = .ok (.getfield 61, 3) := by decide +kernel
theorem dX10_sewn_52 : decode cX10_sewn 52 = .ok (.getfield 328, 3) := by decide +kernel
theorem dX10_sewn_55 : decode cX10_sewn 55 = .ok (.iload_n 1, 1) := by decide +kernel
theorem dX10_sewn_56 : decode cX10_sewn 56 = .ok (.iaload, 1) := by decide +kernel
theorem dX10_sewn_57 : decode cX10_sewn 57 = .ok (.goto 12, 3) := by decide +kernel
theorem dX10_sewn_60 : decode cX10_sewn 60 = .ok (.aload_n 0, 1) := by decide +kernel
theorem dX10_sewn_61 : decode cX10_sewn 61 = .ok (.getfield 61, 3) := by decide +kernel
theorem dX10_sewn_64 : decode cX10_sewn 64 = .ok (.getfield 329, 3) := by decide +kernel
theorem dX10_sewn_67 : decode cX10_sewn 67 = .ok (.iload_n 1, 1) := by decide +kernel
theorem dX10_sewn_68 : decode cX10_sewn 68 = .ok (.iaload, 1) := by decide +kernel
theorem dX10_sewn_69 : decode cX10_sewn 69 = .ok (.ireturn, 1) := by decide +kernel
theorem dX10_thread_0 : decode cX10_thread 0 = .ok (.iload_n 1, 1) := by decide +kernel
theorem dX10_thread_1 : decode cX10_thread 1 = .ok (.ifCond .lt 8, 3) := by decide +kernel
theorem dX10_thread_4 : decode cX10_thread 4 = .ok (.iload_n 1, 1) := by decide +kernel
theorem dX10_thread_5 : decode cX10_thread 5 = .ok (.iconst 1, 1) := by decide +kernel
theorem dX10_thread_6 : decode cX10_thread 6 = .ok (.if_icmp .le 5, 3) := by decide +kernel
theorem dX10_thread_9 : decode cX10_thread 9 = .ok (.iconst (-1), 1) := by decide +kernel
theorem dX10_thread_10 : decode cX10_thread 10 = .ok (.ireturn, 1) := by decide +kernel
theorem dX10_thread_11 : decode cX10_thread 11 = .ok (.iload_n 1, 1) := by decide +kernel
theorem dX10_thread_12 : decode cX10_thread 12 = .ok (.ifCond .ne 13, 3) := by decide +kernel
theorem dX10_thread_15 : decode cX10_thread 15 = .ok (.aload_n 0, 1) := by decide +kernel
theorem dX10_thread_16 : decode cX10_thread 16 = .ok (.getfield 47, 3) := by decide +kernel
theorem dX10_thread_19 : decode cX10_thread 19 = .ok (.getfield 269, 3) := by decide +kernel
theorem dX10_thread_22 : decode cX10_thread 22 = .ok (.goto 10, 3) := by decide +kernel
theorem dX10_thread_25 : decode cX10_thread 25 = .ok (.aload_n 0, 1) := by decide +kernel
theorem dX10_thread_26 : decode cX10_thread 26 = .ok (.getfield 47, 3) := by decide +kernel
theorem dX10_thread_29 : decode cX10_thread 29 = .ok (.getfield 272, 3) := by decide +kernel
theorem dX10_thread_32 : decode cX10_thread 32 = .ok (.ireturn, 1) := by decide +kernel
set_option maxRecDepth 20000 in
theorem ggX10_names_X10_againstRim : GoodIn wsX10_names wsX10_againstRim := goodIn_r _ [9, 2, 10, 11, 12, 13, 8, 14, 15, 16, 17, 18, 37, 38, 39, 40, 41, 42, 43, 44, 45, 46, 47, 48, 49, 51, 52, 53, 54] (by decide +kernel) (by decide +kernel)
set_option maxRecDepth 20000 in
theorem gX10_names_X10_againstRim : GoodIn wsX10_names (wsV RX10 330 RX10 yX10_againstRim wsX10_againstRim) := goodIn_app (goodIn_of _ (by decide +kernel)) ggX10_names_X10_againstRim
set_option maxRecDepth 20000 in
theorem ggX10_names_X10_counted : GoodIn wsX10_names wsX10_counted := goodIn_r _ [22, 23, 37, 38, 39, 40, 41, 42, 43, 44, 45, 46, 47, 48, 49] (by decide +kernel) (by decide +kernel)
set_option maxRecDepth 20000 in
theorem gX10_names_X10_counted : GoodIn wsX10_names (wsV RX10 111 RX10 yX10_counted wsX10_counted) := goodIn_app (goodIn_of _ (by decide +kernel)) ggX10_names_X10_counted
set_option maxRecDepth 20000 in
theorem ggX10_names_X7_find : GoodIn wsX10_names wsX7_find := goodIn_r _ [28, 29, 30, 31, 32, 27, 33, 34, 35, 36, 50, 55, 56, 57, 51, 52, 53, 54] (by decide +kernel) (by decide +kernel)
set_option maxRecDepth 20000 in
theorem gX10_names_X7_find : GoodIn wsX10_names (wsV RX10 333 RX7 yX7_find wsX7_find) := goodIn_app (goodIn_of _ (by decide +kernel)) ggX10_names_X7_find
theorem dX10_names_0 : decode cX10_names 0 = .ok (.aload_n 0, 1) := by decide +kernel
theorem dX10_names_1 : decode cX10_names 1 = .ok (.iload_n 1, 1) := by decide +kernel
theorem dX10_names_2 : decode cX10_names 2 = .ok (.iload_n 2, 1) := by decide +kernel
theorem dX10_names_3 : decode cX10_names 3 = .ok (.invokevirtual 330, 3) := by decide +kernel
theorem dX10_names_6 : decode cX10_names 6 = .ok (.istore_n 3, 1) := by decide +kernel
theorem dX10_names_7 : decode cX10_names 7 = .ok (.iload_n 3, 1) := by decide +kernel
theorem dX10_names_8 : decode cX10_names 8 = .ok (.ifCond .eq 9, 3) := by decide +kernel
theorem dX10_names_11 : decode cX10_names 11 = .ok (.aload_n 0, 1) := by decide +kernel
theorem dX10_names_12 : decode cX10_names 12 = .ok (.iload_n 3, 1) := by decide +kernel
theorem dX10_names_13 : decode cX10_names 13 = .ok (.invokevirtual 111, 3) := by decide +kernel
theorem dX10_names_16 : decode cX10_names 16 = .ok (.ireturn, 1) := by decide +kernel
theorem dX10_names_17 : decode cX10_names 17 = .ok (.aload_n 0, 1) := by decide +kernel
theorem dX10_names_18 : decode cX10_names 18 = .ok (.getfield 68, 3) := by decide +kernel
theorem dX10_names_21 : decode cX10_names 21 = .ok (.aload_n 0, 1) := by decide +kernel
theorem dX10_names_22 : decode cX10_names 22 = .ok (.getfield 81, 3) := by decide +kernel
theorem dX10_names_25 : decode cX10_names 25 = .ok (.iload_n 1, 1) := by decide +kernel
theorem dX10_names_26 : decode cX10_names 26 = .ok (.aaload, 1) := by decide +kernel
theorem dX10_names_27 : decode cX10_names 27 = .ok (.aload_n 0, 1) := by decide +kernel
theorem dX10_names_28 : decode cX10_names 28 = .ok (.getfield 33, 3) := by decide +kernel
theorem dX10_names_31 : decode cX10_names 31 = .ok (.iload_n 2, 1) := by decide +kernel
theorem dX10_names_32 : decode cX10_names 32 = .ok (.iconst (-1), 1) := by decide +kernel
theorem dX10_names_33 : decode cX10_names 33 = .ok (.invokevirtual 333, 3) := by decide +kernel
theorem dX10_names_36 : decode cX10_names 36 = .ok (.pop, 1) := by decide +kernel
theorem dX10_names_37 : decode cX10_names 37 = .ok (.aload_n 0, 1) := by decide +kernel
theorem dX10_names_38 : decode cX10_names 38 = .ok (.getfield 68, 3) := by decide +kernel
theorem dX10_names_41 : decode cX10_names 41 = .ok (.getfield 337, 3) := by decide +kernel
theorem dX10_names_44 : decode cX10_names 44 = .ok (.ireturn, 1) := by decide +kernel
set_option maxRecDepth 20000 in
theorem ggX10_name_X10_againstRim : GoodIn wsX10_name wsX10_againstRim := goodIn_r _ [8, 2, 9, 10, 11, 12, 7, 13, 14, 15, 16, 17, 36, 37, 38, 39, 40, 41, 42, 43, 44, 45, 46, 47, 48, 49, 50, 51, 52] (by decide +kernel) (by decide +kernel)
set_option maxRecDepth 20000 in
theorem gX10_name_X10_againstRim : GoodIn wsX10_name (wsV RX10 330 RX10 yX10_againstRim wsX10_againstRim) := goodIn_app (goodIn_of _ (by decide +kernel)) ggX10_name_X10_againstRim
set_option maxRecDepth 20000 in
theorem ggX10_name_X7_find : GoodIn wsX10_name wsX7_find := goodIn_r _ [22, 23, 24, 25, 26, 21, 27, 28, 29, 30, 53, 54, 55, 56, 49, 50, 51, 52] (by decide +kernel) (by decide +kernel)
set_option maxRecDepth 20000 in
theorem gX10_name_X7_find : GoodIn wsX10_name (wsV RX10 333 RX7 yX7_find wsX7_find) := goodIn_app (goodIn_of _ (by decide +kernel)) ggX10_name_X7_find
set_option maxRecDepth 20000 in
theorem ggX10_name_X10_counted : GoodIn wsX10_name wsX10_counted := goodIn_r _ [34, 35, 36, 37, 38, 39, 40, 41, 42, 43, 44, 45, 46, 47, 48] (by decide +kernel) (by decide +kernel)
set_option maxRecDepth 20000 in
theorem gX10_name_X10_counted : GoodIn wsX10_name (wsV RX10 111 RX10 yX10_counted wsX10_counted) := goodIn_app (goodIn_of _ (by decide +kernel)) ggX10_name_X10_counted
theorem dX10_name_0 : decode cX10_name 0 = .ok (.iload_n 3, 1) := by decide +kernel
theorem dX10_name_1 : decode cX10_name 1 = .ok (.ifCond .ge 5, 3) := by decide +kernel
theorem dX10_name_4 : decode cX10_name 4 = .ok (.iconst (-1), 1) := by decide +kernel
theorem dX10_name_5 : decode cX10_name 5 = .ok (.ireturn, 1) := by decide +kernel
theorem dX10_name_6 : decode cX10_name 6 = .ok (.aload_n 0, 1) := by decide +kernel
theorem dX10_name_7 : decode cX10_name 7 = .ok (.iload_n 1, 1) := by decide +kernel
theorem dX10_name_8 : decode cX10_name 8 = .ok (.iload_n 2, 1) := by decide +kernel
theorem dX10_name_9 : decode cX10_name 9 = .ok (.invokevirtual 330, 3) := by decide +kernel
theorem dX10_name_12 : decode cX10_name 12 = .ok (.istore 4, 2) := by decide +kernel
theorem dX10_name_14 : decode cX10_name 14 = .ok (.aload_n 0, 1) := by decide +kernel
theorem dX10_name_15 : decode cX10_name 15 = .ok (.iload 4, 2) := by decide +kernel
theorem dX10_name_17 : decode cX10_name 17 = .ok (.ifCond .eq 8, 3) := by decide +kernel
theorem dX10_name_20 : decode cX10_name 20 = .ok (.iload 4, 2) := by decide +kernel
theorem dX10_name_22 : decode cX10_name 22 = .ok (.goto 22, 3) := by decide +kernel
theorem dX10_name_25 : decode cX10_name 25 = .ok (.aload_n 0, 1) := by decide +kernel
theorem dX10_name_26 : decode cX10_name 26 = .ok (.getfield 68, 3) := by decide +kernel
theorem dX10_name_29 : decode cX10_name 29 = .ok (.aload_n 0, 1) := by decide +kernel
theorem dX10_name_30 : decode cX10_name 30 = .ok (.getfield 81, 3) := by decide +kernel
theorem dX10_name_33 : decode cX10_name 33 = .ok (.iload_n 1, 1) := by decide +kernel
theorem dX10_name_34 : decode cX10_name 34 = .ok (.aaload, 1) := by decide +kernel
theorem dX10_name_35 : decode cX10_name 35 = .ok (.aload_n 0, 1) := by decide +kernel
theorem dX10_name_36 : decode cX10_name 36 = .ok (.getfield 33, 3) := by decide +kernel
theorem dX10_name_39 : decode cX10_name 39 = .ok (.iload_n 2, 1) := by decide +kernel
theorem dX10_name_40 : decode cX10_name 40 = .ok (.iload_n 3, 1) := by decide +kernel
theorem dX10_name_41 : decode cX10_name 41 = .ok (.invokevirtual 333, 3) := by decide +kernel
theorem dX10_name_44 : decode cX10_name 44 = .ok (.invokevirtual 111, 3) := by decide +kernel
theorem dX10_name_47 : decode cX10_name 47 = .ok (.ireturn, 1) := by decide +kernel
set_option maxRecDepth 20000 in
theorem ggX10_wear_X10_againstRim : GoodIn wsX10_wear wsX10_againstRim := goodIn_r _ [8, 2, 9, 10, 11, 12, 7, 13, 14, 15, 16, 17, 36, 37, 38, 39, 40, 41, 42, 43, 44, 45, 46, 47, 48, 49, 50, 51, 52] (by decide +kernel) (by decide +kernel)
set_option maxRecDepth 20000 in
theorem gX10_wear_X10_againstRim : GoodIn wsX10_wear (wsV RX10 330 RX10 yX10_againstRim wsX10_againstRim) := goodIn_app (goodIn_of _ (by decide +kernel)) ggX10_wear_X10_againstRim
set_option maxRecDepth 20000 in
theorem ggX10_wear_X10_counted : GoodIn wsX10_wear wsX10_counted := goodIn_r _ [21, 22, 36, 37, 38, 39, 40, 41, 42, 43, 44, 45, 46, 47, 48] (by decide +kernel) (by decide +kernel)
set_option maxRecDepth 20000 in
theorem gX10_wear_X10_counted : GoodIn wsX10_wear (wsV RX10 111 RX10 yX10_counted wsX10_counted) := goodIn_app (goodIn_of _ (by decide +kernel)) ggX10_wear_X10_counted
set_option maxRecDepth 20000 in
theorem ggX10_wear_X7_find : GoodIn wsX10_wear wsX7_find := goodIn_r _ [27, 28, 29, 30, 31, 26, 32, 33, 34, 35, 53, 54, 55, 56, 49, 50, 51, 52] (by decide +kernel) (by decide +kernel)
set_option maxRecDepth 20000 in
theorem gX10_wear_X7_find : GoodIn wsX10_wear (wsV RX10 333 RX7 yX7_find wsX7_find) := goodIn_app (goodIn_of _ (by decide +kernel)) ggX10_wear_X7_find
theorem dX10_wear_0 : decode cX10_wear 0 = .ok (.aload_n 0, 1) := by decide +kernel
theorem dX10_wear_1 : decode cX10_wear 1 = .ok (.iload_n 1, 1) := by decide +kernel
theorem dX10_wear_2 : decode cX10_wear 2 = .ok (.iconst 0, 1) := by decide +kernel
theorem dX10_wear_3 : decode cX10_wear 3 = .ok (.invokevirtual 330, 3) := by decide +kernel
theorem dX10_wear_6 : decode cX10_wear 6 = .ok (.istore_n 2, 1) := by decide +kernel
theorem dX10_wear_7 : decode cX10_wear 7 = .ok (.iload_n 2, 1) := by decide +kernel
theorem dX10_wear_8 : decode cX10_wear 8 = .ok (.ifCond .eq 9, 3) := by decide +kernel
theorem dX10_wear_11 : decode cX10_wear 11 = .ok (.aload_n 0, 1) := by decide +kernel
theorem dX10_wear_12 : decode cX10_wear 12 = .ok (.iload_n 2, 1) := by decide +kernel
theorem dX10_wear_13 : decode cX10_wear 13 = .ok (.invokevirtual 111, 3) := by decide +kernel
theorem dX10_wear_16 : decode cX10_wear 16 = .ok (.ireturn, 1) := by decide +kernel
theorem dX10_wear_17 : decode cX10_wear 17 = .ok (.iconst 0, 1) := by decide +kernel
theorem dX10_wear_18 : decode cX10_wear 18 = .ok (.istore_n 3, 1) := by decide +kernel
theorem dX10_wear_19 : decode cX10_wear 19 = .ok (.iload_n 3, 1) := by decide +kernel
theorem dX10_wear_20 : decode cX10_wear 20 = .ok (.bipush 6, 2) := by decide +kernel
theorem dX10_wear_22 : decode cX10_wear 22 = .ok (.if_icmp .gt 34, 3) := by decide +kernel
theorem dX10_wear_25 : decode cX10_wear 25 = .ok (.aload_n 0, 1) := by decide +kernel
theorem dX10_wear_26 : decode cX10_wear 26 = .ok (.getfield 68, 3) := by decide +kernel
theorem dX10_wear_29 : decode cX10_wear 29 = .ok (.aload_n 0, 1) := by decide +kernel
theorem dX10_wear_30 : decode cX10_wear 30 = .ok (.getfield 81, 3) := by decide +kernel
theorem dX10_wear_33 : decode cX10_wear 33 = .ok (.iload_n 1, 1) := by decide +kernel
theorem dX10_wear_34 : decode cX10_wear 34 = .ok (.aaload, 1) := by decide +kernel
theorem dX10_wear_35 : decode cX10_wear 35 = .ok (.aload_n 0, 1) := by decide +kernel
theorem dX10_wear_36 : decode cX10_wear 36 = .ok (.getfield 33, 3) := by decide +kernel
theorem dX10_wear_39 : decode cX10_wear 39 = .ok (.iload_n 3, 1) := by decide +kernel
theorem dX10_wear_40 : decode cX10_wear 40 = .ok (.iconst 0, 1) := by decide +kernel
theorem dX10_wear_41 : decode cX10_wear 41 = .ok (.invokevirtual 333, 3) := by decide +kernel
theorem dX10_wear_44 : decode cX10_wear 44 = .ok (.iconst (-1), 1) := by decide +kernel
theorem dX10_wear_45 : decode cX10_wear 45 = .ok (.if_icmp .eq 5, 3) := by decide +kernel
theorem dX10_wear_48 : decode cX10_wear 48 = .ok (.iload_n 3, 1) := by decide +kernel
theorem dX10_wear_49 : decode cX10_wear 49 = .ok (.ireturn, 1) := by decide +kernel
theorem dX10_wear_50 : decode cX10_wear 50 = .ok (.iinc 3 1, 3) := by decide +kernel
theorem dX10_wear_53 : decode cX10_wear 53 = .ok (.goto (-34), 3) := by decide +kernel
theorem dX10_wear_56 : decode cX10_wear 56 = .ok (.bipush (-4), 2) := by decide +kernel
theorem dX10_wear_58 : decode cX10_wear 58 = .ok (.ireturn, 1) := by decide +kernel
set_option maxRecDepth 20000 in
theorem ggX10_outcome_X10_isState : GoodIn wsX10_outcome wsX10_isState := goodIn_r _ [4] (by decide +kernel) (by decide +kernel)
set_option maxRecDepth 20000 in
theorem gX10_outcome_X10_isState : GoodIn wsX10_outcome (va_wsS RX10 340 yX10_isState wsX10_isState) := goodIn_app (goodIn_of _ (by decide +kernel)) ggX10_outcome_X10_isState
set_option maxRecDepth 20000 in
theorem ggX10_outcome_X10_isTrial : GoodIn wsX10_outcome wsX10_isTrial := goodIn_r _ [7] (by decide +kernel) (by decide +kernel)
set_option maxRecDepth 20000 in
theorem gX10_outcome_X10_isTrial : GoodIn wsX10_outcome (va_wsS RX10 343 yX10_isTrial wsX10_isTrial) := goodIn_app (goodIn_of _ (by decide +kernel)) ggX10_outcome_X10_isTrial
set_option maxRecDepth 20000 in
theorem ggX10_outcome_X2_outcomeOf : GoodIn wsX10_outcome wsX2_outcomeOf := goodIn_r _ [11, 12, 13, 10, 14, 15, 16, 17, 18, 19, 20, 21, 22, 23, 24, 25, 26, 27, 28, 29, 30, 31, 32, 33, 34, 35, 36, 37, 38, 39, 40, 41, 42, 43, 44, 45, 46, 47, 48] (by decide +kernel) (by decide +kernel)
set_option maxRecDepth 20000 in
theorem gX10_outcome_X2_outcomeOf : GoodIn wsX10_outcome (va_wsS RX10 346 yX2_outcomeOf wsX2_outcomeOf) := goodIn_app (goodIn_of _ (by decide +kernel)) ggX10_outcome_X2_outcomeOf
theorem dX10_outcome_0 : decode cX10_outcome 0 = .ok (.iload_n 1, 1) := by decide +kernel
theorem dX10_outcome_1 : decode cX10_outcome 1 = .ok (.invokestatic 340, 3) := by decide +kernel
theorem dX10_outcome_4 : decode cX10_outcome 4 = .ok (.ifCond .eq 18, 3) := by decide +kernel
theorem dX10_outcome_7 : decode cX10_outcome 7 = .ok (.iload_n 2, 1) := by decide +kernel
theorem dX10_outcome_8 : decode cX10_outcome 8 = .ok (.invokestatic 343, 3) := by decide +kernel
theorem dX10_outcome_11 : decode cX10_outcome 11 = .ok (.ifCond .eq 11, 3) := by decide +kernel
theorem dX10_outcome_14 : decode cX10_outcome 14 = .ok (.iload_n 1, 1) := by decide +kernel
theorem dX10_outcome_15 : decode cX10_outcome 15 = .ok (.iload_n 2, 1) := by decide +kernel
theorem dX10_outcome_16 : decode cX10_outcome 16 = .ok (.invokestatic 346, 3) := by decide +kernel
theorem dX10_outcome_19 : decode cX10_outcome 19 = .ok (.goto 4, 3) := by decide +kernel
theorem dX10_outcome_22 : decode cX10_outcome 22 = .ok (.iconst (-1), 1) := by decide +kernel
theorem dX10_outcome_23 : decode cX10_outcome 23 = .ok (.ireturn, 1) := by decide +kernel
set_option maxRecDepth 20000 in
theorem ggX10_note_X10_isTrial : GoodIn wsX10_note wsX10_isTrial := goodIn_r _ [8] (by decide +kernel) (by decide +kernel)
set_option maxRecDepth 20000 in
theorem gX10_note_X10_isTrial : GoodIn wsX10_note (va_wsS RX10 343 yX10_isTrial wsX10_isTrial) := goodIn_app (goodIn_of _ (by decide +kernel)) ggX10_note_X10_isTrial
theorem dX10_note_0 : decode cX10_note 0 = .ok (.iload_n 1, 1) := by decide +kernel
theorem dX10_note_1 : decode cX10_note 1 = .ok (.invokestatic 343, 3) := by decide +kernel
theorem dX10_note_4 : decode cX10_note 4 = .ok (.ifCond .eq 12, 3) := by decide +kernel
theorem dX10_note_7 : decode cX10_note 7 = .ok (.iload_n 2, 1) := by decide +kernel
theorem dX10_note_8 : decode cX10_note 8 = .ok (.ifCond .lt 8, 3) := by decide +kernel
theorem dX10_note_11 : decode cX10_note 11 = .ok (.iload_n 2, 1) := by decide +kernel
theorem dX10_note_12 : decode cX10_note 12 = .ok (.iconst 5, 1) := by decide +kernel
theorem dX10_note_13 : decode cX10_note 13 = .ok (.if_icmp .lt 5, 3) := by decide +kernel
theorem dX10_note_16 : decode cX10_note 16 = .ok (.iconst (-1), 1) := by decide +kernel
theorem dX10_note_17 : decode cX10_note 17 = .ok (.ireturn, 1) := by decide +kernel
theorem dX10_note_18 : decode cX10_note 18 = .ok (.aload_n 0, 1) := by decide +kernel
theorem dX10_note_19 : decode cX10_note 19 = .ok (.getfield 75, 3) := by decide +kernel
theorem dX10_note_22 : decode cX10_note 22 = .ok (.getfield 101, 3) := by decide +kernel
theorem dX10_note_25 : decode cX10_note 25 = .ok (.bipush 24, 2) := by decide +kernel
theorem dX10_note_27 : decode cX10_note 27 = .ok (.if_icmp .lt 6, 3) := by decide +kernel
theorem dX10_note_30 : decode cX10_note 30 = .ok (.bipush (-2), 2) := by decide +kernel
theorem dX10_note_32 : decode cX10_note 32 = .ok (.ireturn, 1) := by decide +kernel
theorem dX10_note_33 : decode cX10_note 33 = .ok (.aload_n 0, 1) := by decide +kernel
theorem dX10_note_34 : decode cX10_note 34 = .ok (.getfield 75, 3) := by decide +kernel
theorem dX10_note_37 : decode cX10_note 37 = .ok (.getfield 349, 3) := by decide +kernel
theorem dX10_note_40 : decode cX10_note 40 = .ok (.aload_n 0, 1) := by decide +kernel
theorem dX10_note_41 : decode cX10_note 41 = .ok (.getfield 75, 3) := by decide +kernel
theorem dX10_note_44 : decode cX10_note 44 = .ok (.getfield 101, 3) := by decide +kernel
theorem dX10_note_47 : decode cX10_note 47 = .ok (.iload_n 1, 1) := by decide +kernel
theorem dX10_note_48 : decode cX10_note 48 = .ok (.iastore, 1) := by decide +kernel
theorem dX10_note_49 : decode cX10_note 49 = .ok (.aload_n 0, 1) := by decide +kernel
theorem dX10_note_50 : decode cX10_note 50 = .ok (.getfield 75, 3) := by decide +kernel
theorem dX10_note_53 : decode cX10_note 53 = .ok (.getfield 352, 3) := by decide +kernel
theorem dX10_note_56 : decode cX10_note 56 = .ok (.aload_n 0, 1) := by decide +kernel
theorem dX10_note_57 : decode cX10_note 57 = .ok (.getfield 75, 3) := by decide +kernel
theorem dX10_note_60 : decode cX10_note 60 = .ok (.getfield 101, 3) := by decide +kernel
theorem dX10_note_63 : decode cX10_note 63 = .ok (.iload_n 2, 1) := by decide +kernel
theorem dX10_note_64 : decode cX10_note 64 = .ok (.iastore, 1) := by decide +kernel
theorem dX10_note_65 : decode cX10_note 65 = .ok (.aload_n 0, 1) := by decide +kernel
theorem dX10_note_66 : decode cX10_note 66 = .ok (.getfield 75, 3) := by decide +kernel
theorem dX10_note_69 : decode cX10_note 69 = .ok (.dup, 1) := by decide +kernel
theorem dX10_note_70 : decode cX10_note 70 = .ok (.getfield 101, 3) := by decide +kernel
theorem dX10_note_73 : decode cX10_note 73 = .ok (.iconst 1, 1) := by decide +kernel
theorem dX10_note_74 : decode cX10_note 74 = .ok (.iadd, 1) := by decide +kernel
theorem dX10_note_75 : decode cX10_note 75 = .ok (.putfield 101, 3) := by decide +kernel
theorem dX10_note_78 : decode cX10_note 78 = .ok (.aload_n 0, 1) := by decide +kernel
theorem dX10_note_79 : decode cX10_note 79 = .ok (.getfield 75, 3) := by decide +kernel
theorem dX10_note_82 : decode cX10_note 82 = .ok (.getfield 101, 3) := by decide +kernel
theorem dX10_note_85 : decode cX10_note 85 = .ok (.ireturn, 1) := by decide +kernel
theorem dX10_noteless_0 : decode cX10_noteless 0 = .ok (.aload_n 0, 1) := by decide +kernel
theorem dX10_noteless_1 : decode cX10_noteless 1 = .ok (.getfield 75, 3) := by decide +kernel
theorem dX10_noteless_4 : decode cX10_noteless 4 = .ok (.getfield 101, 3) := by decide +kernel
theorem dX10_noteless_7 : decode cX10_noteless 7 = .ok (.istore_n 1, 1) := by decide +kernel
theorem dX10_noteless_8 : decode cX10_noteless 8 = .ok (.aload_n 0, 1) := by decide +kernel
theorem dX10_noteless_9 : decode cX10_noteless 9 = .ok (.getfield 75, 3) := by decide +kernel
theorem dX10_noteless_12 : decode cX10_noteless 12 = .ok (.iconst 0, 1) := by decide +kernel
theorem dX10_noteless_13 : decode cX10_noteless 13 = .ok (.putfield 101, 3) := by decide +kernel
theorem dX10_noteless_16 : decode cX10_noteless 16 = .ok (.iload_n 1, 1) := by decide +kernel
theorem dX10_noteless_17 : decode cX10_noteless 17 = .ok (.ireturn, 1) := by decide +kernel
set_option maxRecDepth 20000 in
theorem ggX10_left_X10_isCauses : GoodIn wsX10_left wsX10_isCauses := goodIn_r _ [6] (by decide +kernel) (by decide +kernel)
set_option maxRecDepth 20000 in
theorem gX10_left_X10_isCauses : GoodIn wsX10_left (va_wsS RX10 355 yX10_isCauses wsX10_isCauses) := goodIn_app (goodIn_of _ (by decide +kernel)) ggX10_left_X10_isCauses
set_option maxRecDepth 20000 in
theorem ggX10_left_X2_gatherNoted : GoodIn wsX10_left wsX2_gatherNoted := goodIn_r _ [11, 12, 13, 14, 15, 16, 17, 10, 18, 19, 20, 21, 22, 23, 24, 25, 26, 27, 28, 29, 30, 31, 32, 33, 34, 35, 36, 37, 38, 39, 40, 41, 42, 43, 44, 45, 46, 47, 48, 49, 50, 51, 52, 53, 54, 55, 56, 57, 58, 59, 60, 61, 62, 63, 64, 65, 66, 67, 68, 69, 70, 71, 72, 73, 74, 75, 76, 77, 91, 92, 93, 94, 95, 96, 97, 98] (by decide +kernel) (by decide +kernel)
set_option maxRecDepth 20000 in
theorem gX10_left_X2_gatherNoted : GoodIn wsX10_left (wsV RX10 358 RX2 yX2_gatherNoted wsX2_gatherNoted) := goodIn_app (goodIn_of _ (by decide +kernel)) ggX10_left_X2_gatherNoted
theorem dX10_left_0 : decode cX10_left 0 = .ok (.iload_n 1, 1) := by decide +kernel
theorem dX10_left_1 : decode cX10_left 1 = .ok (.invokestatic 355, 3) := by decide +kernel
theorem dX10_left_4 : decode cX10_left 4 = .ok (.ifCond .ne 5, 3) := by decide +kernel
theorem dX10_left_7 : decode cX10_left 7 = .ok (.iconst (-1), 1) := by decide +kernel
theorem dX10_left_8 : decode cX10_left 8 = .ok (.ireturn, 1) := by decide +kernel
theorem dX10_left_9 : decode cX10_left 9 = .ok (.aload_n 0, 1) := by decide +kernel
theorem dX10_left_10 : decode cX10_left 10 = .ok (.getfield 75, 3) := by decide +kernel
theorem dX10_left_13 : decode cX10_left 13 = .ok (.iload_n 1, 1) := by decide +kernel
theorem dX10_left_14 : decode cX10_left 14 = .ok (.invokevirtual 358, 3) := by decide +kernel
theorem dX10_left_17 : decode cX10_left 17 = .ok (.aload_n 0, 1) := by decide +kernel
theorem dX10_left_18 : decode cX10_left 18 = .ok (.getfield 75, 3) := by decide +kernel
theorem dX10_left_21 : decode cX10_left 21 = .ok (.getfield 361, 3) := by decide +kernel
theorem dX10_left_24 : decode cX10_left 24 = .ok (.ireturn, 1) := by decide +kernel
set_option maxRecDepth 20000 in
theorem ggX10_state_X10_isCauses : GoodIn wsX10_state wsX10_isCauses := goodIn_r _ [5] (by decide +kernel) (by decide +kernel)
set_option maxRecDepth 20000 in
theorem gX10_state_X10_isCauses : GoodIn wsX10_state (va_wsS RX10 355 yX10_isCauses wsX10_isCauses) := goodIn_app (goodIn_of _ (by decide +kernel)) ggX10_state_X10_isCauses
set_option maxRecDepth 20000 in
theorem ggX10_state_X2_gatherNoted : GoodIn wsX10_state wsX2_gatherNoted := goodIn_r _ [10, 11, 12, 13, 14, 15, 16, 9, 17, 18, 19, 20, 21, 22, 23, 24, 25, 26, 27, 28, 29, 30, 31, 32, 33, 34, 35, 36, 37, 38, 39, 40, 41, 42, 43, 44, 45, 46, 47, 48, 49, 50, 51, 52, 53, 54, 55, 56, 57, 58, 59, 60, 61, 62, 63, 64, 65, 66, 67, 68, 69, 70, 71, 72, 73, 74, 75, 76, 94, 95, 96, 97, 98, 99, 100, 101] (by decide +kernel) (by decide +kernel)
set_option maxRecDepth 20000 in
theorem gX10_state_X2_gatherNoted : GoodIn wsX10_state (wsV RX10 358 RX2 yX2_gatherNoted wsX2_gatherNoted) := goodIn_app (goodIn_of _ (by decide +kernel)) ggX10_state_X2_gatherNoted
set_option maxRecDepth 20000 in
theorem ggX10_state_X2_numberOf : GoodIn wsX10_state wsX2_numberOf := goodIn_r _ [80, 18, 37, 36, 94, 95, 96, 97, 98, 99, 100, 101] (by decide +kernel) (by decide +kernel)
set_option maxRecDepth 20000 in
theorem gX10_state_X2_numberOf : GoodIn wsX10_state (wsV RX10 364 RX2 yX2_numberOf wsX2_numberOf) := goodIn_app (goodIn_of _ (by decide +kernel)) ggX10_state_X2_numberOf
theorem dX10_state_0 : decode cX10_state 0 = .ok (.iload_n 1, 1) := by decide +kernel
theorem dX10_state_1 : decode cX10_state 1 = .ok (.invokestatic 355, 3) := by decide +kernel
theorem dX10_state_4 : decode cX10_state 4 = .ok (.ifCond .ne 5, 3) := by decide +kernel
theorem dX10_state_7 : decode cX10_state 7 = .ok (.iconst (-1), 1) := by decide +kernel
theorem dX10_state_8 : decode cX10_state 8 = .ok (.ireturn, 1) := by decide +kernel
theorem dX10_state_9 : decode cX10_state 9 = .ok (.aload_n 0, 1) := by decide +kernel
theorem dX10_state_10 : decode cX10_state 10 = .ok (.getfield 75, 3) := by decide +kernel
theorem dX10_state_13 : decode cX10_state 13 = .ok (.iload_n 1, 1) := by decide +kernel
theorem dX10_state_14 : decode cX10_state 14 = .ok (.invokevirtual 358, 3) := by decide +kernel
theorem dX10_state_17 : decode cX10_state 17 = .ok (.aload_n 0, 1) := by decide +kernel
theorem dX10_state_18 : decode cX10_state 18 = .ok (.getfield 75, 3) := by decide +kernel
theorem dX10_state_21 : decode cX10_state 21 = .ok (.iload_n 2, 1) := by decide +kernel
theorem dX10_state_22 : decode cX10_state 22 = .ok (.invokevirtual 364, 3) := by decide +kernel
theorem dX10_state_25 : decode cX10_state 25 = .ok (.ireturn, 1) := by decide +kernel
set_option maxRecDepth 20000 in
theorem ggX10_best_X10_isCauses : GoodIn wsX10_best wsX10_isCauses := goodIn_r _ [5] (by decide +kernel) (by decide +kernel)
set_option maxRecDepth 20000 in
theorem gX10_best_X10_isCauses : GoodIn wsX10_best (va_wsS RX10 355 yX10_isCauses wsX10_isCauses) := goodIn_app (goodIn_of _ (by decide +kernel)) ggX10_best_X10_isCauses
set_option maxRecDepth 20000 in
theorem ggX10_best_X2_gatherNoted : GoodIn wsX10_best wsX2_gatherNoted := goodIn_r _ [10, 11, 12, 13, 14, 15, 16, 9, 17, 18, 19, 20, 21, 22, 23, 24, 25, 26, 27, 28, 29, 30, 31, 32, 33, 34, 35, 36, 37, 38, 39, 40, 41, 42, 43, 44, 45, 46, 47, 48, 49, 50, 51, 52, 53, 54, 55, 56, 57, 58, 59, 60, 61, 62, 63, 64, 65, 66, 67, 68, 69, 70, 71, 72, 73, 74, 75, 76, 101, 102, 103, 104, 105, 106, 107, 108] (by decide +kernel) (by decide +kernel)
set_option maxRecDepth 20000 in
theorem gX10_best_X2_gatherNoted : GoodIn wsX10_best (wsV RX10 358 RX2 yX2_gatherNoted wsX2_gatherNoted) := goodIn_app (goodIn_of _ (by decide +kernel)) ggX10_best_X2_gatherNoted
set_option maxRecDepth 20000 in
theorem ggX10_best_X2_partingTrial : GoodIn wsX10_best wsX2_partingTrial := goodIn_r _ [80, 19, 81, 82, 83, 9, 84, 18, 36, 37, 85, 86, 63, 87, 52, 53, 54, 55, 56, 57, 65, 66, 67, 68, 69, 70, 71, 72, 73, 58, 59, 60, 61, 62, 64, 23, 24, 25, 26, 27, 28, 29, 30, 31, 38, 39, 40, 41, 42, 43, 44, 74, 75, 76, 101, 102, 103, 104, 105, 106, 107, 108] (by decide +kernel) (by decide +kernel)
set_option maxRecDepth 20000 in
theorem gX10_best_X2_partingTrial : GoodIn wsX10_best (wsV RX10 367 RX2 yX2_partingTrial wsX2_partingTrial) := goodIn_app (goodIn_of _ (by decide +kernel)) ggX10_best_X2_partingTrial
theorem dX10_best_0 : decode cX10_best 0 = .ok (.iload_n 1, 1) := by decide +kernel
theorem dX10_best_1 : decode cX10_best 1 = .ok (.invokestatic 355, 3) := by decide +kernel
theorem dX10_best_4 : decode cX10_best 4 = .ok (.ifCond .ne 5, 3) := by decide +kernel
theorem dX10_best_7 : decode cX10_best 7 = .ok (.iconst (-1), 1) := by decide +kernel
theorem dX10_best_8 : decode cX10_best 8 = .ok (.ireturn, 1) := by decide +kernel
theorem dX10_best_9 : decode cX10_best 9 = .ok (.aload_n 0, 1) := by decide +kernel
theorem dX10_best_10 : decode cX10_best 10 = .ok (.getfield 75, 3) := by decide +kernel
theorem dX10_best_13 : decode cX10_best 13 = .ok (.iload_n 1, 1) := by decide +kernel
theorem dX10_best_14 : decode cX10_best 14 = .ok (.invokevirtual 358, 3) := by decide +kernel
theorem dX10_best_17 : decode cX10_best 17 = .ok (.aload_n 0, 1) := by decide +kernel
theorem dX10_best_18 : decode cX10_best 18 = .ok (.getfield 75, 3) := by decide +kernel
theorem dX10_best_21 : decode cX10_best 21 = .ok (.invokevirtual 367, 3) := by decide +kernel
theorem dX10_best_24 : decode cX10_best 24 = .ok (.ireturn, 1) := by decide +kernel
set_option maxRecDepth 20000 in
theorem ggX10_share_X10_isCauses : GoodIn wsX10_share wsX10_isCauses := goodIn_r _ [5] (by decide +kernel) (by decide +kernel)
set_option maxRecDepth 20000 in
theorem gX10_share_X10_isCauses : GoodIn wsX10_share (va_wsS RX10 355 yX10_isCauses wsX10_isCauses) := goodIn_app (goodIn_of _ (by decide +kernel)) ggX10_share_X10_isCauses
set_option maxRecDepth 20000 in
theorem ggX10_share_X10_isTrial : GoodIn wsX10_share wsX10_isTrial := goodIn_r _ [8] (by decide +kernel) (by decide +kernel)
set_option maxRecDepth 20000 in
theorem gX10_share_X10_isTrial : GoodIn wsX10_share (va_wsS RX10 343 yX10_isTrial wsX10_isTrial) := goodIn_app (goodIn_of _ (by decide +kernel)) ggX10_share_X10_isTrial
set_option maxRecDepth 20000 in
theorem ggX10_share_X2_gatherNoted : GoodIn wsX10_share wsX2_gatherNoted := goodIn_r _ [13, 14, 15, 16, 17, 18, 19, 12, 20, 21, 22, 23, 24, 25, 26, 27, 28, 29, 30, 31, 32, 33, 34, 35, 36, 37, 38, 39, 40, 41, 42, 43, 44, 45, 46, 47, 48, 49, 50, 51, 52, 53, 54, 55, 56, 57, 58, 59, 60, 61, 62, 63, 64, 65, 66, 67, 68, 69, 70, 71, 72, 73, 74, 75, 76, 77, 78, 79, 100, 101, 102, 103, 104, 105, 106, 107] (by decide +kernel) (by decide +kernel)
set_option maxRecDepth 20000 in
theorem gX10_share_X2_gatherNoted : GoodIn wsX10_share (wsV RX10 358 RX2 yX2_gatherNoted wsX2_gatherNoted) := goodIn_app (goodIn_of _ (by decide +kernel)) ggX10_share_X2_gatherNoted
set_option maxRecDepth 20000 in
theorem ggX10_share_X2_greatestShare : GoodIn wsX10_share wsX2_greatestShare := goodIn_r _ [83, 21, 39, 40, 84, 85, 66, 86, 55, 56, 12, 57, 58, 59, 60, 68, 69, 70, 71, 72, 73, 74, 75, 76, 61, 62, 63, 64, 65, 67, 26, 27, 28, 29, 30, 31, 32, 33, 34, 41, 42, 43, 44, 45, 46, 47, 77, 78, 79, 100, 101, 102, 103, 104, 105, 106, 107] (by decide +kernel) (by decide +kernel)
set_option maxRecDepth 20000 in
theorem gX10_share_X2_greatestShare : GoodIn wsX10_share (wsV RX10 370 RX2 yX2_greatestShare wsX2_greatestShare) := goodIn_app (goodIn_of _ (by decide +kernel)) ggX10_share_X2_greatestShare
theorem dX10_share_0 : decode cX10_share 0 = .ok (.iload_n 1, 1) := by decide +kernel
theorem dX10_share_1 : decode cX10_share 1 = .ok (.invokestatic 355, 3) := by decide +kernel
theorem dX10_share_4 : decode cX10_share 4 = .ok (.ifCond .eq 10, 3) := by decide +kernel
theorem dX10_share_7 : decode cX10_share 7 = .ok (.iload_n 2, 1) := by decide +kernel
theorem dX10_share_8 : decode cX10_share 8 = .ok (.invokestatic 343, 3) := by decide +kernel
theorem dX10_share_11 : decode cX10_share 11 = .ok (.ifCond .ne 5, 3) := by decide +kernel
theorem dX10_share_14 : decode cX10_share 14 = .ok (.iconst (-1), 1) := by decide +kernel
theorem dX10_share_15 : decode cX10_share 15 = .ok (.ireturn, 1) := by decide +kernel
theorem dX10_share_16 : decode cX10_share 16 = .ok (.aload_n 0, 1) := by decide +kernel
theorem dX10_share_17 : decode cX10_share 17 = .ok (.getfield 75, 3) := by decide +kernel
theorem dX10_share_20 : decode cX10_share 20 = .ok (.iload_n 1, 1) := by decide +kernel
theorem dX10_share_21 : decode cX10_share 21 = .ok (.invokevirtual 358, 3) := by decide +kernel
theorem dX10_share_24 : decode cX10_share 24 = .ok (.aload_n 0, 1) := by decide +kernel
theorem dX10_share_25 : decode cX10_share 25 = .ok (.getfield 75, 3) := by decide +kernel
theorem dX10_share_28 : decode cX10_share 28 = .ok (.iload_n 2, 1) := by decide +kernel
theorem dX10_share_29 : decode cX10_share 29 = .ok (.invokevirtual 370, 3) := by decide +kernel
theorem dX10_share_32 : decode cX10_share 32 = .ok (.ireturn, 1) := by decide +kernel
set_option maxRecDepth 20000 in
theorem ggX10_hunt_X10_isState : GoodIn wsX10_hunt wsX10_isState := goodIn_r _ [7] (by decide +kernel) (by decide +kernel)
set_option maxRecDepth 20000 in
theorem gX10_hunt_X10_isState : GoodIn wsX10_hunt (va_wsS RX10 340 yX10_isState wsX10_isState) := goodIn_app (goodIn_of _ (by decide +kernel)) ggX10_hunt_X10_isState
set_option maxRecDepth 20000 in
theorem ggX10_hunt_X10_isCauses : GoodIn wsX10_hunt wsX10_isCauses := goodIn_r _ [10] (by decide +kernel) (by decide +kernel)
set_option maxRecDepth 20000 in
theorem gX10_hunt_X10_isCauses : GoodIn wsX10_hunt (va_wsS RX10 355 yX10_isCauses wsX10_isCauses) := goodIn_app (goodIn_of _ (by decide +kernel)) ggX10_hunt_X10_isCauses
set_option maxRecDepth 20000 in
theorem ggX10_hunt_X2_hunted : GoodIn wsX10_hunt wsX2_hunted := goodIn_r _ [15, 16, 17, 18, 19, 14, 20, 21, 22, 23, 24, 25, 26, 27, 28, 29, 30, 31, 32, 33, 34, 35, 36, 37, 38, 39, 40, 41, 42, 43, 44, 45, 46, 47, 48, 49, 50, 51, 52, 53, 54, 55, 56, 57, 58, 59, 60, 61, 62, 63, 64, 65, 66, 67, 68, 69, 70, 71, 72, 73, 74, 75, 76, 77, 78, 79, 80, 81, 82, 83, 84, 85, 86, 87, 88, 89, 90, 91, 92, 93, 111, 112, 113, 114, 115, 116, 117, 118] (by decide +kernel) (by decide +kernel)
set_option maxRecDepth 20000 in
theorem gX10_hunt_X2_hunted : GoodIn wsX10_hunt (wsV RX10 373 RX2 yX2_hunted wsX2_hunted) := goodIn_app (goodIn_of _ (by decide +kernel)) ggX10_hunt_X2_hunted
set_option maxRecDepth 20000 in
theorem ggX10_hunt_X2_holds : GoodIn wsX10_hunt wsX2_holds := goodIn_r _ [97, 21, 39, 40, 111, 112, 113, 114, 115, 116, 117, 118] (by decide +kernel) (by decide +kernel)
set_option maxRecDepth 20000 in
theorem gX10_hunt_X2_holds : GoodIn wsX10_hunt (wsV RX10 376 RX2 yX2_holds wsX2_holds) := goodIn_app (goodIn_of _ (by decide +kernel)) ggX10_hunt_X2_holds
theorem dX10_hunt_0 : decode cX10_hunt 0 = .ok (.iload_n 1, 1) := by decide +kernel
theorem dX10_hunt_1 : decode cX10_hunt 1 = .ok (.invokestatic 340, 3) := by decide +kernel
theorem dX10_hunt_4 : decode cX10_hunt 4 = .ok (.ifCond .eq 19, 3) := by decide +kernel
theorem dX10_hunt_7 : decode cX10_hunt 7 = .ok (.iload_n 2, 1) := by decide +kernel
theorem dX10_hunt_8 : decode cX10_hunt 8 = .ok (.invokestatic 355, 3) := by decide +kernel
theorem dX10_hunt_11 : decode cX10_hunt 11 = .ok (.ifCond .eq 12, 3) := by decide +kernel
theorem dX10_hunt_14 : decode cX10_hunt 14 = .ok (.iload_n 3, 1) := by decide +kernel
theorem dX10_hunt_15 : decode cX10_hunt 15 = .ok (.ifCond .lt 8, 3) := by decide +kernel
theorem dX10_hunt_18 : decode cX10_hunt 18 = .ok (.iload_n 3, 1) := by decide +kernel
theorem dX10_hunt_19 : decode cX10_hunt 19 = .ok (.iconst 3, 1) := by decide +kernel
theorem dX10_hunt_20 : decode cX10_hunt 20 = .ok (.if_icmp .le 5, 3) := by decide +kernel
theorem dX10_hunt_23 : decode cX10_hunt 23 = .ok (.iconst (-1), 1) := by decide +kernel
theorem dX10_hunt_24 : decode cX10_hunt 24 = .ok (.ireturn, 1) := by decide +kernel
theorem dX10_hunt_25 : decode cX10_hunt 25 = .ok (.aload_n 0, 1) := by decide +kernel
theorem dX10_hunt_26 : decode cX10_hunt 26 = .ok (.getfield 75, 3) := by decide +kernel
theorem dX10_hunt_29 : decode cX10_hunt 29 = .ok (.iload_n 1, 1) := by decide +kernel
theorem dX10_hunt_30 : decode cX10_hunt 30 = .ok (.iload_n 2, 1) := by decide +kernel
theorem dX10_hunt_31 : decode cX10_hunt 31 = .ok (.invokevirtual 373, 3) := by decide +kernel
theorem dX10_hunt_34 : decode cX10_hunt 34 = .ok (.istore 4, 2) := by decide +kernel
theorem dX10_hunt_36 : decode cX10_hunt 36 = .ok (.iload_n 3, 1) := by decide +kernel
theorem dX10_hunt_37 : decode cX10_hunt 37 = .ok (.tableswitch 55 0 2 #[27, 30, 38], 27) := by decide +kernel
theorem dX10_hunt_64 : decode cX10_hunt 64 = .ok (.iload 4, 2) := by decide +kernel
theorem dX10_hunt_66 : decode cX10_hunt 66 = .ok (.ireturn, 1) := by decide +kernel
theorem dX10_hunt_67 : decode cX10_hunt 67 = .ok (.aload_n 0, 1) := by decide +kernel
theorem dX10_hunt_68 : decode cX10_hunt 68 = .ok (.getfield 75, 3) := by decide +kernel
theorem dX10_hunt_71 : decode cX10_hunt 71 = .ok (.getfield 361, 3) := by decide +kernel
theorem dX10_hunt_74 : decode cX10_hunt 74 = .ok (.ireturn, 1) := by decide +kernel
theorem dX10_hunt_75 : decode cX10_hunt 75 = .ok (.aload_n 0, 1) := by decide +kernel
theorem dX10_hunt_76 : decode cX10_hunt 76 = .ok (.getfield 75, 3) := by decide +kernel
theorem dX10_hunt_79 : decode cX10_hunt 79 = .ok (.iload_n 1, 1) := by decide +kernel
theorem dX10_hunt_80 : decode cX10_hunt 80 = .ok (.invokevirtual 376, 3) := by decide +kernel
theorem dX10_hunt_83 : decode cX10_hunt 83 = .ok (.ifCond .eq 7, 3) := by decide +kernel
theorem dX10_hunt_86 : decode cX10_hunt 86 = .ok (.iconst 1, 1) := by decide +kernel
theorem dX10_hunt_87 : decode cX10_hunt 87 = .ok (.goto 4, 3) := by decide +kernel
theorem dX10_hunt_90 : decode cX10_hunt 90 = .ok (.iconst 0, 1) := by decide +kernel
theorem dX10_hunt_91 : decode cX10_hunt 91 = .ok (.ireturn, 1) := by decide +kernel
theorem dX10_hunt_92 : decode cX10_hunt 92 = .ok (.aload_n 0, 1) := by decide +kernel
theorem dX10_hunt_93 : decode cX10_hunt 93 = .ok (.getfield 75, 3) := by decide +kernel
theorem dX10_hunt_96 : decode cX10_hunt 96 = .ok (.getfield 379, 3) := by decide +kernel
theorem dX10_hunt_99 : decode cX10_hunt 99 = .ok (.ireturn, 1) := by decide +kernel
set_option maxRecDepth 20000 in
theorem ggX10_tape_X10_isTape : GoodIn wsX10_tape wsX10_isTape := goodIn_r _ [5] (by decide +kernel) (by decide +kernel)
set_option maxRecDepth 20000 in
theorem gX10_tape_X10_isTape : GoodIn wsX10_tape (va_wsS RX10 235 yX10_isTape wsX10_isTape) := goodIn_app (goodIn_of _ (by decide +kernel)) ggX10_tape_X10_isTape
set_option maxRecDepth 20000 in
theorem ggX10_tape_X10_counted : GoodIn wsX10_tape wsX10_counted := goodIn_r _ [9, 10, 23, 24, 25, 26, 27, 28, 29, 30, 31, 32, 33, 34, 35] (by decide +kernel) (by decide +kernel)
set_option maxRecDepth 20000 in
theorem gX10_tape_X10_counted : GoodIn wsX10_tape (wsV RX10 111 RX10 yX10_counted wsX10_counted) := goodIn_app (goodIn_of _ (by decide +kernel)) ggX10_tape_X10_counted
set_option maxRecDepth 20000 in
theorem ggX10_tape_X9_becomeRow : GoodIn wsX10_tape wsX9_becomeRow := goodIn_r _ [15, 16, 17, 18, 19, 20, 21, 22, 36, 37, 38, 39] (by decide +kernel) (by decide +kernel)
set_option maxRecDepth 20000 in
theorem gX10_tape_X9_becomeRow : GoodIn wsX10_tape (wsV RX10 238 RX9 yX9_becomeRow wsX9_becomeRow) := goodIn_app (goodIn_of _ (by decide +kernel)) ggX10_tape_X9_becomeRow
theorem dX10_tape_0 : decode cX10_tape 0 = .ok (.iload_n 1, 1) := by decide +kernel
theorem dX10_tape_1 : decode cX10_tape 1 = .ok (.invokestatic 235, 3) := by decide +kernel
theorem dX10_tape_4 : decode cX10_tape 4 = .ok (.ifCond .eq 20, 3) := by decide +kernel
theorem dX10_tape_7 : decode cX10_tape 7 = .ok (.iload_n 2, 1) := by decide +kernel
theorem dX10_tape_8 : decode cX10_tape 8 = .ok (.iconst 1, 1) := by decide +kernel
theorem dX10_tape_9 : decode cX10_tape 9 = .ok (.if_icmp .lt 15, 3) := by decide +kernel
theorem dX10_tape_12 : decode cX10_tape 12 = .ok (.iload_n 2, 1) := by decide +kernel
theorem dX10_tape_13 : decode cX10_tape 13 = .ok (.iconst 4, 1) := by decide +kernel
theorem dX10_tape_14 : decode cX10_tape 14 = .ok (.if_icmp .gt 10, 3) := by decide +kernel
theorem dX10_tape_17 : decode cX10_tape 17 = .ok (.iload_n 3, 1) := by decide +kernel
theorem dX10_tape_18 : decode cX10_tape 18 = .ok (.sipush 400, 3) := by decide +kernel
theorem dX10_tape_21 : decode cX10_tape 21 = .ok (.if_icmp .le 5, 3) := by decide +kernel
theorem dX10_tape_24 : decode cX10_tape 24 = .ok (.iconst (-1), 1) := by decide +kernel
theorem dX10_tape_25 : decode cX10_tape 25 = .ok (.ireturn, 1) := by decide +kernel
theorem dX10_tape_26 : decode cX10_tape 26 = .ok (.iload_n 3, 1) := by decide +kernel
theorem dX10_tape_27 : decode cX10_tape 27 = .ok (.ifCond .ge 10, 3) := by decide +kernel
theorem dX10_tape_30 : decode cX10_tape 30 = .ok (.aload_n 0, 1) := by decide +kernel
theorem dX10_tape_31 : decode cX10_tape 31 = .ok (.bipush (-14), 2) := by decide +kernel
theorem dX10_tape_33 : decode cX10_tape 33 = .ok (.invokevirtual 111, 3) := by decide +kernel
theorem dX10_tape_36 : decode cX10_tape 36 = .ok (.ireturn, 1) := by decide +kernel
theorem dX10_tape_37 : decode cX10_tape 37 = .ok (.aload_n 0, 1) := by decide +kernel
theorem dX10_tape_38 : decode cX10_tape 38 = .ok (.getfield 81, 3) := by decide +kernel
theorem dX10_tape_41 : decode cX10_tape 41 = .ok (.iload_n 1, 1) := by decide +kernel
theorem dX10_tape_42 : decode cX10_tape 42 = .ok (.aaload, 1) := by decide +kernel
theorem dX10_tape_43 : decode cX10_tape 43 = .ok (.iload_n 2, 1) := by decide +kernel
theorem dX10_tape_44 : decode cX10_tape 44 = .ok (.iload_n 3, 1) := by decide +kernel
theorem dX10_tape_45 : decode cX10_tape 45 = .ok (.invokevirtual 238, 3) := by decide +kernel
theorem dX10_tape_48 : decode cX10_tape 48 = .ok (.iload_n 3, 1) := by decide +kernel
theorem dX10_tape_49 : decode cX10_tape 49 = .ok (.ireturn, 1) := by decide +kernel
set_option maxRecDepth 20000 in
theorem ggX10_keep_X10_isTape : GoodIn wsX10_keep wsX10_isTape := goodIn_r _ [7] (by decide +kernel) (by decide +kernel)
set_option maxRecDepth 20000 in
theorem gX10_keep_X10_isTape : GoodIn wsX10_keep (va_wsS RX10 235 yX10_isTape wsX10_isTape) := goodIn_app (goodIn_of _ (by decide +kernel)) ggX10_keep_X10_isTape
set_option maxRecDepth 20000 in
theorem ggX10_keep_X9_becomeDisc : GoodIn wsX10_keep wsX9_becomeDisc := goodIn_r _ [12, 13, 14, 15, 16, 17, 18, 19, 20, 21, 22, 23, 24, 25, 26, 43, 44, 45, 46, 40, 41, 42] (by decide +kernel) (by decide +kernel)
set_option maxRecDepth 20000 in
theorem gX10_keep_X9_becomeDisc : GoodIn wsX10_keep (wsV RX10 382 RX9 yX9_becomeDisc wsX9_becomeDisc) := goodIn_app (goodIn_of _ (by decide +kernel)) ggX10_keep_X9_becomeDisc
theorem dX10_keep_0 : decode cX10_keep 0 = .ok (.iload_n 1, 1) := by decide +kernel
theorem dX10_keep_1 : decode cX10_keep 1 = .ok (.invokestatic 235, 3) := by decide +kernel
theorem dX10_keep_4 : decode cX10_keep 4 = .ok (.ifCond .ne 5, 3) := by decide +kernel
theorem dX10_keep_7 : decode cX10_keep 7 = .ok (.iconst (-1), 1) := by decide +kernel
theorem dX10_keep_8 : decode cX10_keep 8 = .ok (.ireturn, 1) := by decide +kernel
theorem dX10_keep_9 : decode cX10_keep 9 = .ok (.aload_n 0, 1) := by decide +kernel
theorem dX10_keep_10 : decode cX10_keep 10 = .ok (.getfield 26, 3) := by decide +kernel
theorem dX10_keep_13 : decode cX10_keep 13 = .ok (.getfield 157, 3) := by decide +kernel
theorem dX10_keep_16 : decode cX10_keep 16 = .ok (.ifCond .ne 6, 3) := by decide +kernel
theorem dX10_keep_19 : decode cX10_keep 19 = .ok (.bipush (-3), 2) := by decide +kernel
theorem dX10_keep_21 : decode cX10_keep 21 = .ok (.ireturn, 1) := by decide +kernel
theorem dX10_keep_22 : decode cX10_keep 22 = .ok (.aload_n 0, 1) := by decide +kernel
theorem dX10_keep_23 : decode cX10_keep 23 = .ok (.getfield 81, 3) := by decide +kernel
theorem dX10_keep_26 : decode cX10_keep 26 = .ok (.iload_n 1, 1) := by decide +kernel
theorem dX10_keep_27 : decode cX10_keep 27 = .ok (.aaload, 1) := by decide +kernel
theorem dX10_keep_28 : decode cX10_keep 28 = .ok (.aload_n 0, 1) := by decide +kernel
theorem dX10_keep_29 : decode cX10_keep 29 = .ok (.getfield 26, 3) := by decide +kernel
theorem dX10_keep_32 : decode cX10_keep 32 = .ok (.invokevirtual 382, 3) := by decide +kernel
theorem dX10_keep_35 : decode cX10_keep 35 = .ok (.aload_n 0, 1) := by decide +kernel
theorem dX10_keep_36 : decode cX10_keep 36 = .ok (.getfield 26, 3) := by decide +kernel
theorem dX10_keep_39 : decode cX10_keep 39 = .ok (.getfield 157, 3) := by decide +kernel
theorem dX10_keep_42 : decode cX10_keep 42 = .ok (.ireturn, 1) := by decide +kernel
set_option maxRecDepth 20000 in
theorem ggX10_back_X10_againstSort : GoodIn wsX10_back wsX10_againstSort := goodIn_r _ [9, 2, 10, 11, 12, 8, 13, 31, 32, 33, 34, 35, 36, 37, 38, 39, 40, 41, 42, 43, 44, 45, 46, 47] (by decide +kernel) (by decide +kernel)
set_option maxRecDepth 20000 in
theorem gX10_back_X10_againstSort : GoodIn wsX10_back (wsV RX10 107 RX10 yX10_againstSort wsX10_againstSort) := goodIn_app (goodIn_of _ (by decide +kernel)) ggX10_back_X10_againstSort
set_option maxRecDepth 20000 in
theorem ggX10_back_X10_counted : GoodIn wsX10_back wsX10_counted := goodIn_r _ [17, 18, 31, 32, 33, 34, 35, 36, 37, 38, 39, 40, 41, 42, 43] (by decide +kernel) (by decide +kernel)
set_option maxRecDepth 20000 in
theorem gX10_back_X10_counted : GoodIn wsX10_back (wsV RX10 111 RX10 yX10_counted wsX10_counted) := goodIn_app (goodIn_of _ (by decide +kernel)) ggX10_back_X10_counted
set_option maxRecDepth 20000 in
theorem ggX10_back_X1_become : GoodIn wsX10_back wsX1_become := goodIn_r _ [23, 24, 25, 26, 27, 28, 29, 30, 48, 49, 50] (by decide +kernel) (by decide +kernel)
set_option maxRecDepth 20000 in
theorem gX10_back_X1_become : GoodIn wsX10_back (wsV RX10 196 RX1 yX1_become wsX1_become) := goodIn_app (goodIn_of _ (by decide +kernel)) ggX10_back_X1_become
theorem dX10_back_0 : decode cX10_back 0 = .ok (.aload_n 0, 1) := by decide +kernel
theorem dX10_back_1 : decode cX10_back 1 = .ok (.iload_n 1, 1) := by decide +kernel
theorem dX10_back_2 : decode cX10_back 2 = .ok (.iconst 5, 1) := by decide +kernel
theorem dX10_back_3 : decode cX10_back 3 = .ok (.invokevirtual 107, 3) := by decide +kernel
theorem dX10_back_6 : decode cX10_back 6 = .ok (.istore_n 2, 1) := by decide +kernel
theorem dX10_back_7 : decode cX10_back 7 = .ok (.iload_n 2, 1) := by decide +kernel
theorem dX10_back_8 : decode cX10_back 8 = .ok (.ifCond .eq 9, 3) := by decide +kernel
theorem dX10_back_11 : decode cX10_back 11 = .ok (.aload_n 0, 1) := by decide +kernel
theorem dX10_back_12 : decode cX10_back 12 = .ok (.iload_n 2, 1) := by decide +kernel
theorem dX10_back_13 : decode cX10_back 13 = .ok (.invokevirtual 111, 3) := by decide +kernel
theorem dX10_back_16 : decode cX10_back 16 = .ok (.ireturn, 1) := by decide +kernel
theorem dX10_back_17 : decode cX10_back 17 = .ok (.aload_n 0, 1) := by decide +kernel
theorem dX10_back_18 : decode cX10_back 18 = .ok (.getfield 26, 3) := by decide +kernel
theorem dX10_back_21 : decode cX10_back 21 = .ok (.aload_n 0, 1) := by decide +kernel
theorem dX10_back_22 : decode cX10_back 22 = .ok (.getfield 81, 3) := by decide +kernel
theorem dX10_back_25 : decode cX10_back 25 = .ok (.iload_n 1, 1) := by decide +kernel
theorem dX10_back_26 : decode cX10_back 26 = .ok (.aaload, 1) := by decide +kernel
theorem dX10_back_27 : decode cX10_back 27 = .ok (.getfield 385, 3) := by decide +kernel
theorem dX10_back_30 : decode cX10_back 30 = .ok (.invokevirtual 196, 3) := by decide +kernel
theorem dX10_back_33 : decode cX10_back 33 = .ok (.aload_n 0, 1) := by decide +kernel
theorem dX10_back_34 : decode cX10_back 34 = .ok (.getfield 26, 3) := by decide +kernel
theorem dX10_back_37 : decode cX10_back 37 = .ok (.getfield 157, 3) := by decide +kernel
theorem dX10_back_40 : decode cX10_back 40 = .ok (.ireturn, 1) := by decide +kernel
set_option maxRecDepth 20000 in
theorem ggX10_toss_X10_againstSort : GoodIn wsX10_toss wsX10_againstSort := goodIn_r _ [7, 1, 8, 9, 10, 6, 11, 35, 36, 37, 38, 39, 40, 41, 42, 43, 44, 45, 46, 47, 48, 49, 50, 51] (by decide +kernel) (by decide +kernel)
set_option maxRecDepth 20000 in
theorem gX10_toss_X10_againstSort : GoodIn wsX10_toss (wsV RX10 107 RX10 yX10_againstSort wsX10_againstSort) := goodIn_app (goodIn_of _ (by decide +kernel)) ggX10_toss_X10_againstSort
set_option maxRecDepth 20000 in
theorem ggX10_toss_X10_counted : GoodIn wsX10_toss wsX10_counted := goodIn_r _ [15, 16, 35, 36, 37, 38, 39, 40, 41, 42, 43, 44, 45, 46, 47] (by decide +kernel) (by decide +kernel)
set_option maxRecDepth 20000 in
theorem gX10_toss_X10_counted : GoodIn wsX10_toss (wsV RX10 111 RX10 yX10_counted wsX10_counted) := goodIn_app (goodIn_of _ (by decide +kernel)) ggX10_toss_X10_counted
set_option maxRecDepth 20000 in
theorem ggX10_toss_X1_steepness : GoodIn wsX10_toss wsX1_steepness := goodIn_r _ [21, 22, 23, 24, 25, 26, 27, 28, 29, 30, 31, 32, 33, 20, 34, 52, 53, 54] (by decide +kernel) (by decide +kernel)
set_option maxRecDepth 20000 in
theorem gX10_toss_X1_steepness : GoodIn wsX10_toss (wsV RX10 166 RX1 yX1_steepness wsX1_steepness) := goodIn_app (goodIn_of _ (by decide +kernel)) ggX10_toss_X1_steepness
theorem dX10_toss_0 : decode cX10_toss 0 = .ok (.aload_n 0, 1) := by decide +kernel
theorem dX10_toss_1 : decode cX10_toss 1 = .ok (.iload_n 1, 1) := by decide +kernel
theorem dX10_toss_2 : decode cX10_toss 2 = .ok (.iconst 5, 1) := by decide +kernel
theorem dX10_toss_3 : decode cX10_toss 3 = .ok (.invokevirtual 107, 3) := by decide +kernel
theorem dX10_toss_6 : decode cX10_toss 6 = .ok (.istore_n 2, 1) := by decide +kernel
theorem dX10_toss_7 : decode cX10_toss 7 = .ok (.iload_n 2, 1) := by decide +kernel
theorem dX10_toss_8 : decode cX10_toss 8 = .ok (.ifCond .eq 9, 3) := by decide +kernel
theorem dX10_toss_11 : decode cX10_toss 11 = .ok (.aload_n 0, 1) := by decide +kernel
theorem dX10_toss_12 : decode cX10_toss 12 = .ok (.iload_n 2, 1) := by decide +kernel
theorem dX10_toss_13 : decode cX10_toss 13 = .ok (.invokevirtual 111, 3) := by decide +kernel
theorem dX10_toss_16 : decode cX10_toss 16 = .ok (.ireturn, 1) := by decide +kernel
theorem dX10_toss_17 : decode cX10_toss 17 = .ok (.aload_n 0, 1) := by decide +kernel
theorem dX10_toss_18 : decode cX10_toss 18 = .ok (.getfield 81, 3) := by decide +kernel
theorem dX10_toss_21 : decode cX10_toss 21 = .ok (.iload_n 1, 1) := by decide +kernel
theorem dX10_toss_22 : decode cX10_toss 22 = .ok (.aaload, 1) := by decide +kernel
theorem dX10_toss_23 : decode cX10_toss 23 = .ok (.getfield 385, 3) := by decide +kernel
theorem dX10_toss_26 : decode cX10_toss 26 = .ok (.invokevirtual 166, 3) := by decide +kernel
theorem dX10_toss_29 : decode cX10_toss 29 = .ok (.istore_n 3, 1) := by decide +kernel
theorem dX10_toss_30 : decode cX10_toss 30 = .ok (.aload_n 0, 1) := by decide +kernel
theorem dX10_toss_31 : decode cX10_toss 31 = .ok (.iload_n 3, 1) := by decide +kernel
theorem dX10_toss_32 : decode cX10_toss 32 = .ok (.ifCond .ne 8, 3) := by decide +kernel
theorem dX10_toss_35 : decode cX10_toss 35 = .ok (.bipush (-15), 2) := by decide +kernel
theorem dX10_toss_37 : decode cX10_toss 37 = .ok (.goto 4, 3) := by decide +kernel
theorem dX10_toss_40 : decode cX10_toss 40 = .ok (.iload_n 3, 1) := by decide +kernel
theorem dX10_toss_41 : decode cX10_toss 41 = .ok (.invokevirtual 111, 3) := by decide +kernel
theorem dX10_toss_44 : decode cX10_toss 44 = .ok (.ireturn, 1) := by decide +kernel
set_option maxRecDepth 20000 in
theorem ggX10_clear_X10_isTape : GoodIn wsX10_clear wsX10_isTape := goodIn_r _ [6] (by decide +kernel) (by decide +kernel)
set_option maxRecDepth 20000 in
theorem gX10_clear_X10_isTape : GoodIn wsX10_clear (va_wsS RX10 235 yX10_isTape wsX10_isTape) := goodIn_app (goodIn_of _ (by decide +kernel)) ggX10_clear_X10_isTape
theorem dX10_clear_0 : decode cX10_clear 0 = .ok (.iload_n 1, 1) := by decide +kernel
theorem dX10_clear_1 : decode cX10_clear 1 = .ok (.invokestatic 235, 3) := by decide +kernel
theorem dX10_clear_4 : decode cX10_clear 4 = .ok (.ifCond .ne 5, 3) := by decide +kernel
theorem dX10_clear_7 : decode cX10_clear 7 = .ok (.iconst (-1), 1) := by decide +kernel
theorem dX10_clear_8 : decode cX10_clear 8 = .ok (.ireturn, 1) := by decide +kernel
theorem dX10_clear_9 : decode cX10_clear 9 = .ok (.aload_n 0, 1) := by decide +kernel
theorem dX10_clear_10 : decode cX10_clear 10 = .ok (.getfield 81, 3) := by decide +kernel
theorem dX10_clear_13 : decode cX10_clear 13 = .ok (.iload_n 1, 1) := by decide +kernel
theorem dX10_clear_14 : decode cX10_clear 14 = .ok (.aaload, 1) := by decide +kernel
theorem dX10_clear_15 : decode cX10_clear 15 = .ok (.getfield 388, 3) := by decide +kernel
theorem dX10_clear_18 : decode cX10_clear 18 = .ok (.istore_n 2, 1) := by decide +kernel
theorem dX10_clear_19 : decode cX10_clear 19 = .ok (.aload_n 0, 1) := by decide +kernel
theorem dX10_clear_20 : decode cX10_clear 20 = .ok (.getfield 81, 3) := by decide +kernel
theorem dX10_clear_23 : decode cX10_clear 23 = .ok (.iload_n 1, 1) := by decide +kernel
theorem dX10_clear_24 : decode cX10_clear 24 = .ok (.aaload, 1) := by decide +kernel
theorem dX10_clear_25 : decode cX10_clear 25 = .ok (.iconst 0, 1) := by decide +kernel
theorem dX10_clear_26 : decode cX10_clear 26 = .ok (.putfield 388, 3) := by decide +kernel
theorem dX10_clear_29 : decode cX10_clear 29 = .ok (.iload_n 2, 1) := by decide +kernel
theorem dX10_clear_30 : decode cX10_clear 30 = .ok (.ireturn, 1) := by decide +kernel
set_option maxRecDepth 20000 in
theorem ggX10_put_X10_againstRow : GoodIn wsX10_put wsX10_againstRow := goodIn_r _ [8, 1, 9, 10, 11, 7, 12, 13, 14, 15, 16, 17, 18, 28, 29, 30, 31, 32, 33, 34, 35, 36, 37, 38, 39, 40, 41, 42, 43, 44] (by decide +kernel) (by decide +kernel)
set_option maxRecDepth 20000 in
theorem gX10_put_X10_againstRow : GoodIn wsX10_put (wsV RX10 391 RX10 yX10_againstRow wsX10_againstRow) := goodIn_app (goodIn_of _ (by decide +kernel)) ggX10_put_X10_againstRow
set_option maxRecDepth 20000 in
theorem ggX10_put_X10_counted : GoodIn wsX10_put wsX10_counted := goodIn_r _ [22, 23, 28, 29, 30, 31, 32, 33, 34, 35, 36, 37, 38, 39, 40] (by decide +kernel) (by decide +kernel)
set_option maxRecDepth 20000 in
theorem gX10_put_X10_counted : GoodIn wsX10_put (wsV RX10 111 RX10 yX10_counted wsX10_counted) := goodIn_app (goodIn_of _ (by decide +kernel)) ggX10_put_X10_counted
set_option maxRecDepth 20000 in
theorem ggX10_put_X9_narrowed : GoodIn wsX10_put wsX9_narrowed := goodIn_r _ [27, 18, 41, 42, 43, 44] (by decide +kernel) (by decide +kernel)
set_option maxRecDepth 20000 in
theorem gX10_put_X9_narrowed : GoodIn wsX10_put (wsV RX10 397 RX9 yX9_narrowed wsX9_narrowed) := goodIn_app (goodIn_of _ (by decide +kernel)) ggX10_put_X9_narrowed
theorem dX10_put_0 : decode cX10_put 0 = .ok (.aload_n 0, 1) := by decide +kernel
theorem dX10_put_1 : decode cX10_put 1 = .ok (.iload_n 1, 1) := by decide +kernel
theorem dX10_put_2 : decode cX10_put 2 = .ok (.invokevirtual 391, 3) := by decide +kernel
theorem dX10_put_5 : decode cX10_put 5 = .ok (.istore 5, 2) := by decide +kernel
theorem dX10_put_7 : decode cX10_put 7 = .ok (.iload 5, 2) := by decide +kernel
theorem dX10_put_9 : decode cX10_put 9 = .ok (.ifCond .eq 10, 3) := by decide +kernel
theorem dX10_put_12 : decode cX10_put 12 = .ok (.aload_n 0, 1) := by decide +kernel
theorem dX10_put_13 : decode cX10_put 13 = .ok (.iload 5, 2) := by decide +kernel
theorem dX10_put_15 : decode cX10_put 15 = .ok (.invokevirtual 111, 3) := by decide +kernel
theorem dX10_put_18 : decode cX10_put 18 = .ok (.ireturn, 1) := by decide +kernel
theorem dX10_put_19 : decode cX10_put 19 = .ok (.iload_n 2, 1) := by decide +kernel
theorem dX10_put_20 : decode cX10_put 20 = .ok (.ifCond .lt 16, 3) := by decide +kernel
theorem dX10_put_23 : decode cX10_put 23 = .ok (.iload_n 2, 1) := by decide +kernel
theorem dX10_put_24 : decode cX10_put 24 = .ok (.aload_n 0, 1) := by decide +kernel
theorem dX10_put_25 : decode cX10_put 25 = .ok (.getfield 81, 3) := by decide +kernel
theorem dX10_put_28 : decode cX10_put 28 = .ok (.iload_n 1, 1) := by decide +kernel
theorem dX10_put_29 : decode cX10_put 29 = .ok (.aaload, 1) := by decide +kernel
theorem dX10_put_30 : decode cX10_put 30 = .ok (.getfield 394, 3) := by decide +kernel
theorem dX10_put_33 : decode cX10_put 33 = .ok (.if_icmp .lt 10, 3) := by decide +kernel
theorem dX10_put_36 : decode cX10_put 36 = .ok (.aload_n 0, 1) := by decide +kernel
theorem dX10_put_37 : decode cX10_put 37 = .ok (.bipush (-13), 2) := by decide +kernel
theorem dX10_put_39 : decode cX10_put 39 = .ok (.invokevirtual 111, 3) := by decide +kernel
theorem dX10_put_42 : decode cX10_put 42 = .ok (.ireturn, 1) := by decide +kernel
theorem dX10_put_43 : decode cX10_put 43 = .ok (.aload_n 0, 1) := by decide +kernel
theorem dX10_put_44 : decode cX10_put 44 = .ok (.getfield 81, 3) := by decide +kernel
theorem dX10_put_47 : decode cX10_put 47 = .ok (.iload_n 1, 1) := by decide +kernel
theorem dX10_put_48 : decode cX10_put 48 = .ok (.aaload, 1) := by decide +kernel
theorem dX10_put_49 : decode cX10_put 49 = .ok (.getfield 242, 3) := by decide +kernel
theorem dX10_put_52 : decode cX10_put 52 = .ok (.iload_n 2, 1) := by decide +kernel
theorem dX10_put_53 : decode cX10_put 53 = .ok (.aload_n 0, 1) := by decide +kernel
theorem dX10_put_54 : decode cX10_put 54 = .ok (.getfield 81, 3) := by decide +kernel
theorem dX10_put_57 : decode cX10_put 57 = .ok (.iload_n 1, 1) := by decide +kernel
theorem dX10_put_58 : decode cX10_put 58 = .ok (.aaload, 1) := by decide +kernel
theorem dX10_put_59 : decode cX10_put 59 = .ok (.lload_n 3, 1) := by decide +kernel
theorem dX10_put_60 : decode cX10_put 60 = .ok (.invokevirtual 397, 3) := by decide +kernel
theorem dX10_put_63 : decode cX10_put 63 = .ok (.lastore, 1) := by decide +kernel
theorem dX10_put_64 : decode cX10_put 64 = .ok (.iconst 1, 1) := by decide +kernel
theorem dX10_put_65 : decode cX10_put 65 = .ok (.ireturn, 1) := by decide +kernel
set_option maxRecDepth 20000 in
theorem ggX10_at_X10_isTape : GoodIn wsX10_at wsX10_isTape := goodIn_r _ [11] (by decide +kernel) (by decide +kernel)
set_option maxRecDepth 20000 in
theorem gX10_at_X10_isTape : GoodIn wsX10_at (va_wsS RX10 235 yX10_isTape wsX10_isTape) := goodIn_app (goodIn_of _ (by decide +kernel)) ggX10_at_X10_isTape
set_option maxRecDepth 20000 in
theorem ggX10_at_X9_isRow : GoodIn wsX10_at wsX9_isRow := goodIn_r _ [16, 17, 31, 32, 33, 34] (by decide +kernel) (by decide +kernel)
set_option maxRecDepth 20000 in
theorem gX10_at_X9_isRow : GoodIn wsX10_at (wsV RX10 403 RX9 yX9_isRow wsX9_isRow) := goodIn_app (goodIn_of _ (by decide +kernel)) ggX10_at_X9_isRow
theorem dX10_at_0 : decode cX10_at 0 = .ok (.iload_n 1, 1) := by decide +kernel
theorem dX10_at_1 : decode cX10_at 1 = .ok (.invokestatic 235, 3) := by decide +kernel
theorem dX10_at_4 : decode cX10_at 4 = .ok (.ifCond .ne 14, 3) := by decide +kernel
theorem dX10_at_7 : decode cX10_at 7 = .ok (.new 129, 3) := by decide +kernel
theorem dX10_at_10 : decode cX10_at 10 = .ok (.dup, 1) := by decide +kernel
theorem dX10_at_11 : decode cX10_at 11 = .ok (.ldc_w 401, 3) := by decide +kernel
theorem dX10_at_14 : decode cX10_at 14 = .ok (.invokespecial 133, 3) := by decide +kernel
theorem dX10_at_17 : decode cX10_at 17 = .ok (.athrow, 1) := by decide +kernel
theorem dX10_at_18 : decode cX10_at 18 = .ok (.aload_n 0, 1) := by decide +kernel
theorem dX10_at_19 : decode cX10_at 19 = .ok (.getfield 81, 3) := by decide +kernel
theorem dX10_at_22 : decode cX10_at 22 = .ok (.iload_n 1, 1) := by decide +kernel
theorem dX10_at_23 : decode cX10_at 23 = .ok (.aaload, 1) := by decide +kernel
theorem dX10_at_24 : decode cX10_at 24 = .ok (.invokevirtual 403, 3) := by decide +kernel
theorem dX10_at_27 : decode cX10_at 27 = .ok (.ifCond .eq 20, 3) := by decide +kernel
theorem dX10_at_30 : decode cX10_at 30 = .ok (.iload_n 2, 1) := by decide +kernel
theorem dX10_at_31 : decode cX10_at 31 = .ok (.ifCond .lt 16, 3) := by decide +kernel
theorem dX10_at_34 : decode cX10_at 34 = .ok (.iload_n 2, 1) := by decide +kernel
theorem dX10_at_35 : decode cX10_at 35 = .ok (.aload_n 0, 1) := by decide +kernel
theorem dX10_at_36 : decode cX10_at 36 = .ok (.getfield 81, 3) := by decide +kernel
theorem dX10_at_39 : decode cX10_at 39 = .ok (.iload_n 1, 1) := by decide +kernel
theorem dX10_at_40 : decode cX10_at 40 = .ok (.aaload, 1) := by decide +kernel
theorem dX10_at_41 : decode cX10_at 41 = .ok (.getfield 394, 3) := by decide +kernel
theorem dX10_at_44 : decode cX10_at 44 = .ok (.if_icmp .lt 14, 3) := by decide +kernel
theorem dX10_at_47 : decode cX10_at 47 = .ok (.new 136, 3) := by decide +kernel
theorem dX10_at_50 : decode cX10_at 50 = .ok (.dup, 1) := by decide +kernel
theorem dX10_at_51 : decode cX10_at 51 = .ok (.ldc_w 407, 3) := by decide +kernel
theorem dX10_at_54 : decode cX10_at 54 = .ok (.invokespecial 140, 3) := by decide +kernel
theorem dX10_at_57 : decode cX10_at 57 = .ok (.athrow, 1) := by decide +kernel
theorem dX10_at_58 : decode cX10_at 58 = .ok (.aload_n 0, 1) := by decide +kernel
theorem dX10_at_59 : decode cX10_at 59 = .ok (.getfield 81, 3) := by decide +kernel
theorem dX10_at_62 : decode cX10_at 62 = .ok (.iload_n 1, 1) := by decide +kernel
theorem dX10_at_63 : decode cX10_at 63 = .ok (.aaload, 1) := by decide +kernel
theorem dX10_at_64 : decode cX10_at 64 = .ok (.getfield 242, 3) := by decide +kernel
theorem dX10_at_67 : decode cX10_at 67 = .ok (.iload_n 2, 1) := by decide +kernel
theorem dX10_at_68 : decode cX10_at 68 = .ok (.laload, 1) := by decide +kernel
theorem dX10_at_69 : decode cX10_at 69 = .ok (.lreturn, 1) := by decide +kernel
set_option maxRecDepth 20000 in
theorem ggX10_copy_X10_isTape : GoodIn wsX10_copy wsX10_isTape := goodIn_r _ [11] (by decide +kernel) (by decide +kernel)
set_option maxRecDepth 20000 in
theorem gX10_copy_X10_isTape : GoodIn wsX10_copy (va_wsS RX10 235 yX10_isTape wsX10_isTape) := goodIn_app (goodIn_of _ (by decide +kernel)) ggX10_copy_X10_isTape
set_option maxRecDepth 20000 in
theorem ggX10_copy_X10_counted : GoodIn wsX10_copy wsX10_counted := goodIn_r _ [15, 16, 28, 29, 30, 31, 32, 33, 34, 35, 36, 37, 38, 39, 40] (by decide +kernel) (by decide +kernel)
set_option maxRecDepth 20000 in
theorem gX10_copy_X10_counted : GoodIn wsX10_copy (wsV RX10 111 RX10 yX10_counted wsX10_counted) := goodIn_app (goodIn_of _ (by decide +kernel)) ggX10_copy_X10_counted
set_option maxRecDepth 20000 in
theorem ggX10_copy_X9_isRow : GoodIn wsX10_copy wsX9_isRow := goodIn_r _ [21, 22, 41, 42, 43, 44] (by decide +kernel) (by decide +kernel)
set_option maxRecDepth 20000 in
theorem gX10_copy_X9_isRow : GoodIn wsX10_copy (wsV RX10 403 RX9 yX9_isRow wsX9_isRow) := goodIn_app (goodIn_of _ (by decide +kernel)) ggX10_copy_X9_isRow
set_option maxRecDepth 20000 in
theorem ggX10_copy_X9_hasPlaces : GoodIn wsX10_copy wsX9_hasPlaces := goodIn_r _ [26, 27, 41, 42, 43, 44] (by decide +kernel) (by decide +kernel)
set_option maxRecDepth 20000 in
theorem gX10_copy_X9_hasPlaces : GoodIn wsX10_copy (wsV RX10 409 RX9 yX9_hasPlaces wsX9_hasPlaces) := goodIn_app (goodIn_of _ (by decide +kernel)) ggX10_copy_X9_hasPlaces
theorem dX10_copy_0 : decode cX10_copy 0 = .ok (.iload_n 1, 1) := by decide +kernel
theorem dX10_copy_1 : decode cX10_copy 1 = .ok (.invokestatic 235, 3) := by decide +kernel
theorem dX10_copy_4 : decode cX10_copy 4 = .ok (.ifCond .eq 10, 3) := by decide +kernel
theorem dX10_copy_7 : decode cX10_copy 7 = .ok (.iload_n 3, 1) := by decide +kernel
theorem dX10_copy_8 : decode cX10_copy 8 = .ok (.invokestatic 235, 3) := by decide +kernel
theorem dX10_copy_11 : decode cX10_copy 11 = .ok (.ifCond .ne 5, 3) := by decide +kernel
theorem dX10_copy_14 : decode cX10_copy 14 = .ok (.iconst (-1), 1) := by decide +kernel
theorem dX10_copy_15 : decode cX10_copy 15 = .ok (.ireturn, 1) := by decide +kernel
theorem dX10_copy_16 : decode cX10_copy 16 = .ok (.aload_n 0, 1) := by decide +kernel
theorem dX10_copy_17 : decode cX10_copy 17 = .ok (.getfield 81, 3) := by decide +kernel
theorem dX10_copy_20 : decode cX10_copy 20 = .ok (.iload_n 1, 1) := by decide +kernel
theorem dX10_copy_21 : decode cX10_copy 21 = .ok (.aaload, 1) := by decide +kernel
theorem dX10_copy_22 : decode cX10_copy 22 = .ok (.astore 6, 2) := by decide +kernel
theorem dX10_copy_24 : decode cX10_copy 24 = .ok (.aload_n 0, 1) := by decide +kernel
theorem dX10_copy_25 : decode cX10_copy 25 = .ok (.getfield 81, 3) := by decide +kernel
theorem dX10_copy_28 : decode cX10_copy 28 = .ok (.iload_n 3, 1) := by decide +kernel
theorem dX10_copy_29 : decode cX10_copy 29 = .ok (.aaload, 1) := by decide +kernel
theorem dX10_copy_30 : decode cX10_copy 30 = .ok (.astore 7, 2) := by decide +kernel
theorem dX10_copy_32 : decode cX10_copy 32 = .ok (.aload 6, 2) := by decide +kernel
theorem dX10_copy_34 : decode cX10_copy 34 = .ok (.getfield 388, 3) := by decide +kernel
theorem dX10_copy_37 : decode cX10_copy 37 = .ok (.ifCond .eq 11, 3) := by decide +kernel
theorem dX10_copy_40 : decode cX10_copy 40 = .ok (.aload 7, 2) := by decide +kernel
theorem dX10_copy_42 : decode cX10_copy 42 = .ok (.getfield 388, 3) := by decide +kernel
theorem dX10_copy_45 : decode cX10_copy 45 = .ok (.ifCond .ne 10, 3) := by decide +kernel
theorem dX10_copy_48 : decode cX10_copy 48 = .ok (.aload_n 0, 1) := by decide +kernel
theorem dX10_copy_49 : decode cX10_copy 49 = .ok (.bipush (-11), 2) := by decide +kernel
theorem dX10_copy_51 : decode cX10_copy 51 = .ok (.invokevirtual 111, 3) := by decide +kernel
theorem dX10_copy_54 : decode cX10_copy 54 = .ok (.ireturn, 1) := by decide +kernel
theorem dX10_copy_55 : decode cX10_copy 55 = .ok (.aload 6, 2) := by decide +kernel
theorem dX10_copy_57 : decode cX10_copy 57 = .ok (.invokevirtual 403, 3) := by decide +kernel
theorem dX10_copy_60 : decode cX10_copy 60 = .ok (.ifCond .eq 16, 3) := by decide +kernel
theorem dX10_copy_63 : decode cX10_copy 63 = .ok (.aload 6, 2) := by decide +kernel
theorem dX10_copy_65 : decode cX10_copy 65 = .ok (.getfield 388, 3) := by decide +kernel
theorem dX10_copy_68 : decode cX10_copy 68 = .ok (.aload 7, 2) := by decide +kernel
theorem dX10_copy_70 : decode cX10_copy 70 = .ok (.getfield 388, 3) := by decide +kernel
theorem dX10_copy_73 : decode cX10_copy 73 = .ok (.if_icmp .eq 10, 3) := by decide +kernel
theorem dX10_copy_76 : decode cX10_copy 76 = .ok (.aload_n 0, 1) := by decide +kernel
theorem dX10_copy_77 : decode cX10_copy 77 = .ok (.bipush (-12), 2) := by decide +kernel
theorem dX10_copy_79 : decode cX10_copy 79 = .ok (.invokevirtual 111, 3) := by decide +kernel
theorem dX10_copy_82 : decode cX10_copy 82 = .ok (.ireturn, 1) := by decide +kernel
theorem dX10_copy_83 : decode cX10_copy 83 = .ok (.aload 6, 2) := by decide +kernel
theorem dX10_copy_85 : decode cX10_copy 85 = .ok (.iload_n 2, 1) := by decide +kernel
theorem dX10_copy_86 : decode cX10_copy 86 = .ok (.iload 5, 2) := by decide +kernel
theorem dX10_copy_88 : decode cX10_copy 88 = .ok (.invokevirtual 409, 3) := by decide +kernel
theorem dX10_copy_91 : decode cX10_copy 91 = .ok (.ifCond .eq 15, 3) := by decide +kernel
theorem dX10_copy_94 : decode cX10_copy 94 = .ok (.aload 7, 2) := by decide +kernel
theorem dX10_copy_96 : decode cX10_copy 96 = .ok (.iload 4, 2) := by decide +kernel
theorem dX10_copy_98 : decode cX10_copy 98 = .ok (.iload 5, 2) := by decide +kernel
theorem dX10_copy_100 : decode cX10_copy 100 = .ok (.invokevirtual 409, 3) := by decide +kernel
theorem dX10_copy_103 : decode cX10_copy 103 = .ok (.ifCond .ne 10, 3) := by decide +kernel
theorem dX10_copy_106 : decode cX10_copy 106 = .ok (.aload_n 0, 1) := by decide +kernel
theorem dX10_copy_107 : decode cX10_copy 107 = .ok (.bipush (-13), 2) := by decide +kernel
theorem dX10_copy_109 : decode cX10_copy 109 = .ok (.invokevirtual 111, 3) := by decide +kernel
theorem dX10_copy_112 : decode cX10_copy 112 = .ok (.ireturn, 1) := by decide +kernel
theorem dX10_copy_113 : decode cX10_copy 113 = .ok (.aload 6, 2) := by decide +kernel
theorem dX10_copy_115 : decode cX10_copy 115 = .ok (.getfield 242, 3) := by decide +kernel
theorem dX10_copy_118 : decode cX10_copy 118 = .ok (.iload_n 2, 1) := by decide +kernel
theorem dX10_copy_119 : decode cX10_copy 119 = .ok (.aload 7, 2) := by decide +kernel
theorem dX10_copy_121 : decode cX10_copy 121 = .ok (.getfield 242, 3) := by decide +kernel
theorem dX10_copy_124 : decode cX10_copy 124 = .ok (.iload 4, 2) := by decide +kernel
theorem dX10_copy_126 : decode cX10_copy 126 = .ok (.iload 5, 2) := by decide +kernel
theorem dX10_copy_128 : decode cX10_copy 128 = .ok (.invokestatic 412, 3) := by decide +kernel
theorem dX10_copy_131 : decode cX10_copy 131 = .ok (.iload 5, 2) := by decide +kernel
theorem dX10_copy_133 : decode cX10_copy 133 = .ok (.ireturn, 1) := by decide +kernel
set_option maxRecDepth 20000 in
theorem ggX10_count_X10_shelvesInUse : GoodIn wsX10_count wsX10_shelvesInUse := goodIn_r _ [14, 15, 16, 17, 18, 19, 20, 21, 22, 23, 24, 25, 26, 27, 28, 29, 50, 51, 52] (by decide +kernel) (by decide +kernel)
set_option maxRecDepth 20000 in
theorem gX10_count_X10_shelvesInUse : GoodIn wsX10_count (wsV RX10 418 RX10 yX10_shelvesInUse wsX10_shelvesInUse) := goodIn_app (goodIn_of _ (by decide +kernel)) ggX10_count_X10_shelvesInUse
theorem dX10_count_0 : decode cX10_count 0 = .ok (.iload_n 1, 1) := by decide +kernel
theorem dX10_count_1 : decode cX10_count 1 = .ok (.tableswitch 81 0 5 #[39, 47, 52, 60, 68, 76], 39) := by decide +kernel
theorem dX10_count_40 : decode cX10_count 40 = .ok (.aload_n 0, 1) := by decide +kernel
theorem dX10_count_41 : decode cX10_count 41 = .ok (.getfield 10, 3) := by decide +kernel
theorem dX10_count_44 : decode cX10_count 44 = .ok (.getfield 126, 3) := by decide +kernel
theorem dX10_count_47 : decode cX10_count 47 = .ok (.ireturn, 1) := by decide +kernel
theorem dX10_count_48 : decode cX10_count 48 = .ok (.aload_n 0, 1) := by decide +kernel
theorem dX10_count_49 : decode cX10_count 49 = .ok (.invokevirtual 418, 3) := by decide +kernel
theorem dX10_count_52 : decode cX10_count 52 = .ok (.ireturn, 1) := by decide +kernel
theorem dX10_count_53 : decode cX10_count 53 = .ok (.aload_n 0, 1) := by decide +kernel
theorem dX10_count_54 : decode cX10_count 54 = .ok (.getfield 40, 3) := by decide +kernel
theorem dX10_count_57 : decode cX10_count 57 = .ok (.getfield 90, 3) := by decide +kernel
theorem dX10_count_60 : decode cX10_count 60 = .ok (.ireturn, 1) := by decide +kernel
theorem dX10_count_61 : decode cX10_count 61 = .ok (.aload_n 0, 1) := by decide +kernel
theorem dX10_count_62 : decode cX10_count 62 = .ok (.getfield 54, 3) := by decide +kernel
theorem dX10_count_65 : decode cX10_count 65 = .ok (.getfield 97, 3) := by decide +kernel
theorem dX10_count_68 : decode cX10_count 68 = .ok (.ireturn, 1) := by decide +kernel
theorem dX10_count_69 : decode cX10_count 69 = .ok (.aload_n 0, 1) := by decide +kernel
theorem dX10_count_70 : decode cX10_count 70 = .ok (.getfield 75, 3) := by decide +kernel
theorem dX10_count_73 : decode cX10_count 73 = .ok (.getfield 101, 3) := by decide +kernel
theorem dX10_count_76 : decode cX10_count 76 = .ok (.ireturn, 1) := by decide +kernel
theorem dX10_count_77 : decode cX10_count 77 = .ok (.aload_n 0, 1) := by decide +kernel
theorem dX10_count_78 : decode cX10_count 78 = .ok (.getfield 104, 3) := by decide +kernel
theorem dX10_count_81 : decode cX10_count 81 = .ok (.ireturn, 1) := by decide +kernel
theorem dX10_count_82 : decode cX10_count 82 = .ok (.iconst (-1), 1) := by decide +kernel
theorem dX10_count_83 : decode cX10_count 83 = .ok (.ireturn, 1) := by decide +kernel
theorem dX10_isWithin_0 : decode cX10_isWithin 0 = .ok (.iload_n 0, 1) := by decide +kernel
theorem dX10_isWithin_1 : decode cX10_isWithin 1 = .ok (.iload_n 1, 1) := by decide +kernel
theorem dX10_isWithin_2 : decode cX10_isWithin 2 = .ok (.ineg, 1) := by decide +kernel
theorem dX10_isWithin_3 : decode cX10_isWithin 3 = .ok (.if_icmp .lt 12, 3) := by decide +kernel
theorem dX10_isWithin_6 : decode cX10_isWithin 6 = .ok (.iload_n 0, 1) := by decide +kernel
theorem dX10_isWithin_7 : decode cX10_isWithin 7 = .ok (.iload_n 1, 1) := by decide +kernel
theorem dX10_isWithin_8 : decode cX10_isWithin 8 = .ok (.if_icmp .gt 7, 3) := by decide +kernel
theorem dX10_isWithin_11 : decode cX10_isWithin 11 = .ok (.iconst 1, 1) := by decide +kernel
theorem dX10_isWithin_12 : decode cX10_isWithin 12 = .ok (.goto 4, 3) := by decide +kernel
theorem dX10_isWithin_15 : decode cX10_isWithin 15 = .ok (.iconst 0, 1) := by decide +kernel
theorem dX10_isWithin_16 : decode cX10_isWithin 16 = .ok (.ireturn, 1) := by decide +kernel
theorem dX10_isShelf_0 : decode cX10_isShelf 0 = .ok (.iload_n 0, 1) := by decide +kernel
theorem dX10_isShelf_1 : decode cX10_isShelf 1 = .ok (.ifCond .lt 13, 3) := by decide +kernel
theorem dX10_isShelf_4 : decode cX10_isShelf 4 = .ok (.iload_n 0, 1) := by decide +kernel
theorem dX10_isShelf_5 : decode cX10_isShelf 5 = .ok (.bipush 8, 2) := by decide +kernel
theorem dX10_isShelf_7 : decode cX10_isShelf 7 = .ok (.if_icmp .ge 7, 3) := by decide +kernel
theorem dX10_isShelf_10 : decode cX10_isShelf 10 = .ok (.iconst 1, 1) := by decide +kernel
theorem dX10_isShelf_11 : decode cX10_isShelf 11 = .ok (.goto 4, 3) := by decide +kernel
theorem dX10_isShelf_14 : decode cX10_isShelf 14 = .ok (.iconst 0, 1) := by decide +kernel
theorem dX10_isShelf_15 : decode cX10_isShelf 15 = .ok (.ireturn, 1) := by decide +kernel
theorem dX10_isTape_0 : decode cX10_isTape 0 = .ok (.iload_n 0, 1) := by decide +kernel
theorem dX10_isTape_1 : decode cX10_isTape 1 = .ok (.ifCond .lt 13, 3) := by decide +kernel
theorem dX10_isTape_4 : decode cX10_isTape 4 = .ok (.iload_n 0, 1) := by decide +kernel
theorem dX10_isTape_5 : decode cX10_isTape 5 = .ok (.bipush 6, 2) := by decide +kernel
theorem dX10_isTape_7 : decode cX10_isTape 7 = .ok (.if_icmp .ge 7, 3) := by decide +kernel
theorem dX10_isTape_10 : decode cX10_isTape 10 = .ok (.iconst 1, 1) := by decide +kernel
theorem dX10_isTape_11 : decode cX10_isTape 11 = .ok (.goto 4, 3) := by decide +kernel
theorem dX10_isTape_14 : decode cX10_isTape 14 = .ok (.iconst 0, 1) := by decide +kernel
theorem dX10_isTape_15 : decode cX10_isTape 15 = .ok (.ireturn, 1) := by decide +kernel
theorem dX10_isState_0 : decode cX10_isState 0 = .ok (.iload_n 0, 1) := by decide +kernel
theorem dX10_isState_1 : decode cX10_isState 1 = .ok (.ifCond .lt 14, 3) := by decide +kernel
theorem dX10_isState_4 : decode cX10_isState 4 = .ok (.iload_n 0, 1) := by decide +kernel
theorem dX10_isState_5 : decode cX10_isState 5 = .ok (.sipush 2772, 3) := by decide +kernel
theorem dX10_isState_8 : decode cX10_isState 8 = .ok (.if_icmp .ge 7, 3) := by decide +kernel
theorem dX10_isState_11 : decode cX10_isState 11 = .ok (.iconst 1, 1) := by decide +kernel
theorem dX10_isState_12 : decode cX10_isState 12 = .ok (.goto 4, 3) := by decide +kernel
theorem dX10_isState_15 : decode cX10_isState 15 = .ok (.iconst 0, 1) := by decide +kernel
theorem dX10_isState_16 : decode cX10_isState 16 = .ok (.ireturn, 1) := by decide +kernel
theorem dX10_isTrial_0 : decode cX10_isTrial 0 = .ok (.iload_n 0, 1) := by decide +kernel
theorem dX10_isTrial_1 : decode cX10_isTrial 1 = .ok (.ifCond .lt 14, 3) := by decide +kernel
theorem dX10_isTrial_4 : decode cX10_isTrial 4 = .ok (.iload_n 0, 1) := by decide +kernel
theorem dX10_isTrial_5 : decode cX10_isTrial 5 = .ok (.sipush 325, 3) := by decide +kernel
theorem dX10_isTrial_8 : decode cX10_isTrial 8 = .ok (.if_icmp .ge 7, 3) := by decide +kernel
theorem dX10_isTrial_11 : decode cX10_isTrial 11 = .ok (.iconst 1, 1) := by decide +kernel
theorem dX10_isTrial_12 : decode cX10_isTrial 12 = .ok (.goto 4, 3) := by decide +kernel
theorem dX10_isTrial_15 : decode cX10_isTrial 15 = .ok (.iconst 0, 1) := by decide +kernel
theorem dX10_isTrial_16 : decode cX10_isTrial 16 = .ok (.ireturn, 1) := by decide +kernel
theorem dX10_isCauses_0 : decode cX10_isCauses 0 = .ok (.iload_n 0, 1) := by decide +kernel
theorem dX10_isCauses_1 : decode cX10_isCauses 1 = .ok (.ifCond .lt 12, 3) := by decide +kernel
theorem dX10_isCauses_4 : decode cX10_isCauses 4 = .ok (.iload_n 0, 1) := by decide +kernel
theorem dX10_isCauses_5 : decode cX10_isCauses 5 = .ok (.iconst 4, 1) := by decide +kernel
theorem dX10_isCauses_6 : decode cX10_isCauses 6 = .ok (.if_icmp .gt 7, 3) := by decide +kernel
theorem dX10_isCauses_9 : decode cX10_isCauses 9 = .ok (.iconst 1, 1) := by decide +kernel
theorem dX10_isCauses_10 : decode cX10_isCauses 10 = .ok (.goto 4, 3) := by decide +kernel
theorem dX10_isCauses_13 : decode cX10_isCauses 13 = .ok (.iconst 0, 1) := by decide +kernel
theorem dX10_isCauses_14 : decode cX10_isCauses 14 = .ok (.ireturn, 1) := by decide +kernel
theorem dX10_counted_0 : decode cX10_counted 0 = .ok (.iload_n 1, 1) := by decide +kernel
theorem dX10_counted_1 : decode cX10_counted 1 = .ok (.bipush (-15), 2) := by decide +kernel
theorem dX10_counted_3 : decode cX10_counted 3 = .ok (.if_icmp .lt 19, 3) := by decide +kernel
theorem dX10_counted_6 : decode cX10_counted 6 = .ok (.iload_n 1, 1) := by decide +kernel
theorem dX10_counted_7 : decode cX10_counted 7 = .ok (.bipush (-11), 2) := by decide +kernel
theorem dX10_counted_9 : decode cX10_counted 9 = .ok (.if_icmp .gt 13, 3) := by decide +kernel
theorem dX10_counted_12 : decode cX10_counted 12 = .ok (.aload_n 0, 1) := by decide +kernel
theorem dX10_counted_13 : decode cX10_counted 13 = .ok (.dup, 1) := by decide +kernel
theorem dX10_counted_14 : decode cX10_counted 14 = .ok (.getfield 104, 3) := by decide +kernel
theorem dX10_counted_17 : decode cX10_counted 17 = .ok (.iconst 1, 1) := by decide +kernel
theorem dX10_counted_18 : decode cX10_counted 18 = .ok (.iadd, 1) := by decide +kernel
theorem dX10_counted_19 : decode cX10_counted 19 = .ok (.putfield 104, 3) := by decide +kernel
theorem dX10_counted_22 : decode cX10_counted 22 = .ok (.iload_n 1, 1) := by decide +kernel
theorem dX10_counted_23 : decode cX10_counted 23 = .ok (.ireturn, 1) := by decide +kernel
set_option maxRecDepth 20000 in
theorem ggX10_againstSort_X10_isTape : GoodIn wsX10_againstSort wsX10_isTape := goodIn_r _ [6] (by decide +kernel) (by decide +kernel)
set_option maxRecDepth 20000 in
theorem gX10_againstSort_X10_isTape : GoodIn wsX10_againstSort (va_wsS RX10 235 yX10_isTape wsX10_isTape) := goodIn_app (goodIn_of _ (by decide +kernel)) ggX10_againstSort_X10_isTape
theorem dX10_againstSort_0 : decode cX10_againstSort 0 = .ok (.iload_n 1, 1) := by decide +kernel
theorem dX10_againstSort_1 : decode cX10_againstSort 1 = .ok (.invokestatic 235, 3) := by decide +kernel
theorem dX10_againstSort_4 : decode cX10_againstSort 4 = .ok (.ifCond .ne 5, 3) := by decide +kernel
theorem dX10_againstSort_7 : decode cX10_againstSort 7 = .ok (.iconst (-1), 1) := by decide +kernel
theorem dX10_againstSort_8 : decode cX10_againstSort 8 = .ok (.ireturn, 1) := by decide +kernel
theorem dX10_againstSort_9 : decode cX10_againstSort 9 = .ok (.aload_n 0, 1) := by decide +kernel
theorem dX10_againstSort_10 : decode cX10_againstSort 10 = .ok (.getfield 81, 3) := by decide +kernel
theorem dX10_againstSort_13 : decode cX10_againstSort 13 = .ok (.iload_n 1, 1) := by decide +kernel
theorem dX10_againstSort_14 : decode cX10_againstSort 14 = .ok (.aaload, 1) := by decide +kernel
theorem dX10_againstSort_15 : decode cX10_againstSort 15 = .ok (.getfield 388, 3) := by decide +kernel
theorem dX10_againstSort_18 : decode cX10_againstSort 18 = .ok (.ifCond .ne 6, 3) := by decide +kernel
theorem dX10_againstSort_21 : decode cX10_againstSort 21 = .ok (.bipush (-11), 2) := by decide +kernel
theorem dX10_againstSort_23 : decode cX10_againstSort 23 = .ok (.ireturn, 1) := by decide +kernel
theorem dX10_againstSort_24 : decode cX10_againstSort 24 = .ok (.aload_n 0, 1) := by decide +kernel
theorem dX10_againstSort_25 : decode cX10_againstSort 25 = .ok (.getfield 81, 3) := by decide +kernel
theorem dX10_againstSort_28 : decode cX10_againstSort 28 = .ok (.iload_n 1, 1) := by decide +kernel
theorem dX10_againstSort_29 : decode cX10_againstSort 29 = .ok (.aaload, 1) := by decide +kernel
theorem dX10_againstSort_30 : decode cX10_againstSort 30 = .ok (.getfield 388, 3) := by decide +kernel
theorem dX10_againstSort_33 : decode cX10_againstSort 33 = .ok (.iload_n 2, 1) := by decide +kernel
theorem dX10_againstSort_34 : decode cX10_againstSort 34 = .ok (.if_icmp .ne 7, 3) := by decide +kernel
theorem dX10_againstSort_37 : decode cX10_againstSort 37 = .ok (.iconst 0, 1) := by decide +kernel
theorem dX10_againstSort_38 : decode cX10_againstSort 38 = .ok (.goto 5, 3) := by decide +kernel
theorem dX10_againstSort_41 : decode cX10_againstSort 41 = .ok (.bipush (-12), 2) := by decide +kernel
theorem dX10_againstSort_43 : decode cX10_againstSort 43 = .ok (.ireturn, 1) := by decide +kernel
set_option maxRecDepth 20000 in
theorem ggX10_againstRow_X10_isTape : GoodIn wsX10_againstRow wsX10_isTape := goodIn_r _ [6] (by decide +kernel) (by decide +kernel)
set_option maxRecDepth 20000 in
theorem gX10_againstRow_X10_isTape : GoodIn wsX10_againstRow (va_wsS RX10 235 yX10_isTape wsX10_isTape) := goodIn_app (goodIn_of _ (by decide +kernel)) ggX10_againstRow_X10_isTape
set_option maxRecDepth 20000 in
theorem ggX10_againstRow_X9_isRow : GoodIn wsX10_againstRow wsX9_isRow := goodIn_r _ [11, 12, 26, 27, 28, 29] (by decide +kernel) (by decide +kernel)
set_option maxRecDepth 20000 in
theorem gX10_againstRow_X9_isRow : GoodIn wsX10_againstRow (wsV RX10 403 RX9 yX9_isRow wsX9_isRow) := goodIn_app (goodIn_of _ (by decide +kernel)) ggX10_againstRow_X9_isRow
theorem dX10_againstRow_0 : decode cX10_againstRow 0 = .ok (.iload_n 1, 1) := by decide +kernel
theorem dX10_againstRow_1 : decode cX10_againstRow 1 = .ok (.invokestatic 235, 3) := by decide +kernel
theorem dX10_againstRow_4 : decode cX10_againstRow 4 = .ok (.ifCond .ne 5, 3) := by decide +kernel
theorem dX10_againstRow_7 : decode cX10_againstRow 7 = .ok (.iconst (-1), 1) := by decide +kernel
theorem dX10_againstRow_8 : decode cX10_againstRow 8 = .ok (.ireturn, 1) := by decide +kernel
theorem dX10_againstRow_9 : decode cX10_againstRow 9 = .ok (.aload_n 0, 1) := by decide +kernel
theorem dX10_againstRow_10 : decode cX10_againstRow 10 = .ok (.getfield 81, 3) := by decide +kernel
theorem dX10_againstRow_13 : decode cX10_againstRow 13 = .ok (.iload_n 1, 1) := by decide +kernel
theorem dX10_againstRow_14 : decode cX10_againstRow 14 = .ok (.aaload, 1) := by decide +kernel
theorem dX10_againstRow_15 : decode cX10_againstRow 15 = .ok (.getfield 388, 3) := by decide +kernel
theorem dX10_againstRow_18 : decode cX10_againstRow 18 = .ok (.ifCond .ne 6, 3) := by decide +kernel
theorem dX10_againstRow_21 : decode cX10_againstRow 21 = .ok (.bipush (-11), 2) := by decide +kernel
theorem dX10_againstRow_23 : decode cX10_againstRow 23 = .ok (.ireturn, 1) := by decide +kernel
theorem dX10_againstRow_24 : decode cX10_againstRow 24 = .ok (.aload_n 0, 1) := by decide +kernel
theorem dX10_againstRow_25 : decode cX10_againstRow 25 = .ok (.getfield 81, 3) := by decide +kernel
theorem dX10_againstRow_28 : decode cX10_againstRow 28 = .ok (.iload_n 1, 1) := by decide +kernel
theorem dX10_againstRow_29 : decode cX10_againstRow 29 = .ok (.aaload, 1) := by decide +kernel
theorem dX10_againstRow_30 : decode cX10_againstRow 30 = .ok (.invokevirtual 403, 3) := by decide +kernel
theorem dX10_againstRow_33 : decode cX10_againstRow 33 = .ok (.ifCond .eq 7, 3) := by decide +kernel
theorem dX10_againstRow_36 : decode cX10_againstRow 36 = .ok (.iconst 0, 1) := by decide +kernel
theorem dX10_againstRow_37 : decode cX10_againstRow 37 = .ok (.goto 5, 3) := by decide +kernel
theorem dX10_againstRow_40 : decode cX10_againstRow 40 = .ok (.bipush (-12), 2) := by decide +kernel
theorem dX10_againstRow_42 : decode cX10_againstRow 42 = .ok (.ireturn, 1) := by decide +kernel
set_option maxRecDepth 20000 in
theorem ggX10_againstRim_X10_againstSort : GoodIn wsX10_againstRim wsX10_againstSort := goodIn_r _ [7, 1, 8, 9, 10, 6, 11, 12, 13, 14, 15, 16, 17, 18, 19, 20, 21, 22, 23, 24, 25, 26, 27, 28] (by decide +kernel) (by decide +kernel)
set_option maxRecDepth 20000 in
theorem gX10_againstRim_X10_againstSort : GoodIn wsX10_againstRim (wsV RX10 107 RX10 yX10_againstSort wsX10_againstSort) := goodIn_app (goodIn_of _ (by decide +kernel)) ggX10_againstRim_X10_againstSort
theorem dX10_againstRim_0 : decode cX10_againstRim 0 = .ok (.iload_n 2, 1) := by decide +kernel
theorem dX10_againstRim_1 : decode cX10_againstRim 1 = .ok (.ifCond .lt 9, 3) := by decide +kernel
theorem dX10_againstRim_4 : decode cX10_againstRim 4 = .ok (.iload_n 2, 1) := by decide +kernel
theorem dX10_againstRim_5 : decode cX10_againstRim 5 = .ok (.bipush 6, 2) := by decide +kernel
theorem dX10_againstRim_7 : decode cX10_againstRim 7 = .ok (.if_icmp .le 5, 3) := by decide +kernel
theorem dX10_againstRim_10 : decode cX10_againstRim 10 = .ok (.iconst (-1), 1) := by decide +kernel
theorem dX10_againstRim_11 : decode cX10_againstRim 11 = .ok (.ireturn, 1) := by decide +kernel
theorem dX10_againstRim_12 : decode cX10_againstRim 12 = .ok (.aload_n 0, 1) := by decide +kernel
theorem dX10_againstRim_13 : decode cX10_againstRim 13 = .ok (.iload_n 1, 1) := by decide +kernel
theorem dX10_againstRim_14 : decode cX10_againstRim 14 = .ok (.iconst 1, 1) := by decide +kernel
theorem dX10_againstRim_15 : decode cX10_againstRim 15 = .ok (.invokevirtual 107, 3) := by decide +kernel
theorem dX10_againstRim_18 : decode cX10_againstRim 18 = .ok (.istore_n 3, 1) := by decide +kernel
theorem dX10_againstRim_19 : decode cX10_againstRim 19 = .ok (.iload_n 3, 1) := by decide +kernel
theorem dX10_againstRim_20 : decode cX10_againstRim 20 = .ok (.ifCond .eq 5, 3) := by decide +kernel
theorem dX10_againstRim_23 : decode cX10_againstRim 23 = .ok (.iload_n 3, 1) := by decide +kernel
theorem dX10_againstRim_24 : decode cX10_againstRim 24 = .ok (.ireturn, 1) := by decide +kernel
theorem dX10_againstRim_25 : decode cX10_againstRim 25 = .ok (.aload_n 0, 1) := by decide +kernel
theorem dX10_againstRim_26 : decode cX10_againstRim 26 = .ok (.getfield 81, 3) := by decide +kernel
theorem dX10_againstRim_29 : decode cX10_againstRim 29 = .ok (.iload_n 1, 1) := by decide +kernel
theorem dX10_againstRim_30 : decode cX10_againstRim 30 = .ok (.aaload, 1) := by decide +kernel
theorem dX10_againstRim_31 : decode cX10_againstRim 31 = .ok (.getfield 394, 3) := by decide +kernel
theorem dX10_againstRim_34 : decode cX10_againstRim 34 = .ok (.iconst 1, 1) := by decide +kernel
theorem dX10_againstRim_35 : decode cX10_againstRim 35 = .ok (.if_icmp .lt 17, 3) := by decide +kernel
theorem dX10_againstRim_38 : decode cX10_againstRim 38 = .ok (.aload_n 0, 1) := by decide +kernel
theorem dX10_againstRim_39 : decode cX10_againstRim 39 = .ok (.getfield 81, 3) := by decide +kernel
theorem dX10_againstRim_42 : decode cX10_againstRim 42 = .ok (.iload_n 1, 1) := by decide +kernel
theorem dX10_againstRim_43 : decode cX10_againstRim 43 = .ok (.aaload, 1) := by decide +kernel
theorem dX10_againstRim_44 : decode cX10_againstRim 44 = .ok (.getfield 394, 3) := by decide +kernel
theorem dX10_againstRim_47 : decode cX10_againstRim 47 = .ok (.bipush 48, 2) := by decide +kernel
theorem dX10_againstRim_49 : decode cX10_againstRim 49 = .ok (.if_icmp .le 8, 3) := by decide +kernel
theorem dX10_againstRim_52 : decode cX10_againstRim 52 = .ok (.bipush (-4), 2) := by decide +kernel
theorem dX10_againstRim_54 : decode cX10_againstRim 54 = .ok (.goto 4, 3) := by decide +kernel
theorem dX10_againstRim_57 : decode cX10_againstRim 57 = .ok (.iconst 0, 1) := by decide +kernel
theorem dX10_againstRim_58 : decode cX10_againstRim 58 = .ok (.ireturn, 1) := by decide +kernel
theorem dX10_shelvesInUse_0 : decode cX10_shelvesInUse 0 = .ok (.iconst 0, 1) := by decide +kernel
theorem dX10_shelvesInUse_1 : decode cX10_shelvesInUse 1 = .ok (.istore_n 1, 1) := by decide +kernel
theorem dX10_shelvesInUse_2 : decode cX10_shelvesInUse 2 = .ok (.iconst 0, 1) := by decide +kernel
theorem dX10_shelvesInUse_3 : decode cX10_shelvesInUse 3 = .ok (.istore_n 2, 1) := by decide +kernel
theorem dX10_shelvesInUse_4 : decode cX10_shelvesInUse 4 = .ok (.iload_n 2, 1) := by decide +kernel
theorem dX10_shelvesInUse_5 : decode cX10_shelvesInUse 5 = .ok (.bipush 8, 2) := by decide +kernel
theorem dX10_shelvesInUse_7 : decode cX10_shelvesInUse 7 = .ok (.if_icmp .ge 24, 3) := by decide +kernel
theorem dX10_shelvesInUse_10 : decode cX10_shelvesInUse 10 = .ok (.aload_n 0, 1) := by decide +kernel
theorem dX10_shelvesInUse_11 : decode cX10_shelvesInUse 11 = .ok (.getfield 33, 3) := by decide +kernel
theorem dX10_shelvesInUse_14 : decode cX10_shelvesInUse 14 = .ok (.iload_n 2, 1) := by decide +kernel
theorem dX10_shelvesInUse_15 : decode cX10_shelvesInUse 15 = .ok (.aaload, 1) := by decide +kernel
theorem dX10_shelvesInUse_16 : decode cX10_shelvesInUse 16 = .ok (.getfield 157, 3) := by decide +kernel
theorem dX10_shelvesInUse_19 : decode cX10_shelvesInUse 19 = .ok (.ifCond .le 6, 3) := by decide +kernel
theorem dX10_shelvesInUse_22 : decode cX10_shelvesInUse 22 = .ok (.iinc 1 1, 3) := by decide +kernel
theorem dX10_shelvesInUse_25 : decode cX10_shelvesInUse 25 = .ok (.iinc 2 1, 3) := by decide +kernel
theorem dX10_shelvesInUse_28 : decode cX10_shelvesInUse 28 = .ok (.goto (-24), 3) := by decide +kernel
theorem dX10_shelvesInUse_31 : decode cX10_shelvesInUse 31 = .ok (.iload_n 1, 1) := by decide +kernel
theorem dX10_shelvesInUse_32 : decode cX10_shelvesInUse 32 = .ok (.ireturn, 1) := by decide +kernel
set_option maxRecDepth 20000 in
theorem ggX10_comesFrom_X1_become : GoodIn wsX10_comesFrom wsX1_become := goodIn_r _ [8, 9, 10, 11, 12, 13, 14, 15, 29, 30, 31] (by decide +kernel) (by decide +kernel)
set_option maxRecDepth 20000 in
theorem gX10_comesFrom_X1_become : GoodIn wsX10_comesFrom (wsV RX10 196 RX1 yX1_become wsX1_become) := goodIn_app (goodIn_of _ (by decide +kernel)) ggX10_comesFrom_X1_become
theorem dX10_comesFrom_0 : decode cX10_comesFrom 0 = .ok (.aload_n 0, 1) := by decide +kernel
theorem dX10_comesFrom_1 : decode cX10_comesFrom 1 = .ok (.getfield 33, 3) := by decide +kernel
theorem dX10_comesFrom_4 : decode cX10_comesFrom 4 = .ok (.iload_n 1, 1) := by decide +kernel
theorem dX10_comesFrom_5 : decode cX10_comesFrom 5 = .ok (.aaload, 1) := by decide +kernel
theorem dX10_comesFrom_6 : decode cX10_comesFrom 6 = .ok (.getfield 157, 3) := by decide +kernel
theorem dX10_comesFrom_9 : decode cX10_comesFrom 9 = .ok (.ifCond .ne 5, 3) := by decide +kernel
theorem dX10_comesFrom_12 : decode cX10_comesFrom 12 = .ok (.iconst 0, 1) := by decide +kernel
theorem dX10_comesFrom_13 : decode cX10_comesFrom 13 = .ok (.ireturn, 1) := by decide +kernel
theorem dX10_comesFrom_14 : decode cX10_comesFrom 14 = .ok (.aload_n 0, 1) := by decide +kernel
theorem dX10_comesFrom_15 : decode cX10_comesFrom 15 = .ok (.getfield 26, 3) := by decide +kernel
theorem dX10_comesFrom_18 : decode cX10_comesFrom 18 = .ok (.aload_n 0, 1) := by decide +kernel
theorem dX10_comesFrom_19 : decode cX10_comesFrom 19 = .ok (.getfield 33, 3) := by decide +kernel
theorem dX10_comesFrom_22 : decode cX10_comesFrom 22 = .ok (.iload_n 1, 1) := by decide +kernel
theorem dX10_comesFrom_23 : decode cX10_comesFrom 23 = .ok (.aaload, 1) := by decide +kernel
theorem dX10_comesFrom_24 : decode cX10_comesFrom 24 = .ok (.invokevirtual 196, 3) := by decide +kernel
theorem dX10_comesFrom_27 : decode cX10_comesFrom 27 = .ok (.iconst 1, 1) := by decide +kernel
theorem dX10_comesFrom_28 : decode cX10_comesFrom 28 = .ok (.ireturn, 1) := by decide +kernel
set_option maxRecDepth 20000 in
theorem ggX10_endsStep_X10_comesFrom : GoodIn wsX10_endsStep wsX10_comesFrom := goodIn_r _ [12, 13, 14, 4, 15, 16, 17, 18, 19, 20, 21, 22, 23, 24, 25, 26, 78, 79, 80, 81, 82, 83, 84, 85, 86, 87, 88, 89, 90, 105, 106, 107] (by decide +kernel) (by decide +kernel)
set_option maxRecDepth 20000 in
theorem gX10_endsStep_X10_comesFrom : GoodIn wsX10_endsStep (wsV RX10 199 RX10 yX10_comesFrom wsX10_comesFrom) := goodIn_app (goodIn_of _ (by decide +kernel)) ggX10_endsStep_X10_comesFrom
set_option maxRecDepth 20000 in
theorem ggX10_endsStep_X8_sews : GoodIn wsX10_endsStep wsX8_sews := goodIn_r _ [31, 32, 33, 34, 35, 36, 30, 37, 38, 39, 40, 41, 42, 43, 44, 45, 46, 47, 48, 49, 50, 51, 52, 53, 54, 55, 56, 57, 58, 59, 60, 61, 62, 63, 64, 65, 66, 67, 68, 69, 70, 71, 72, 73, 74, 75, 76, 77, 105, 106, 107, 91, 92, 93, 94, 95, 96, 97, 98, 99, 100, 101, 102, 103, 104, 108, 109, 110, 111, 112] (by decide +kernel) (by decide +kernel)
set_option maxRecDepth 20000 in
theorem gX10_endsStep_X8_sews : GoodIn wsX10_endsStep (wsV RX10 424 RX8 yX8_sews wsX8_sews) := goodIn_app (goodIn_of _ (by decide +kernel)) ggX10_endsStep_X8_sews
theorem dX10_endsStep_0 : decode cX10_endsStep 0 = .ok (.iload_n 1, 1) := by decide +kernel
theorem dX10_endsStep_1 : decode cX10_endsStep 1 = .ok (.tableswitch 92 0 2 #[27, 55, 72], 27) := by decide +kernel
theorem dX10_endsStep_28 : decode cX10_endsStep 28 = .ok (.aload_n 0, 1) := by decide +kernel
theorem dX10_endsStep_29 : decode cX10_endsStep 29 = .ok (.iload_n 2, 1) := by decide +kernel
theorem dX10_endsStep_30 : decode cX10_endsStep 30 = .ok (.invokevirtual 199, 3) := by decide +kernel
theorem dX10_endsStep_33 : decode cX10_endsStep 33 = .ok (.ifCond .ne 13, 3) := by decide +kernel
theorem dX10_endsStep_36 : decode cX10_endsStep 36 = .ok (.aload_n 0, 1) := by decide +kernel
theorem dX10_endsStep_37 : decode cX10_endsStep 37 = .ok (.getfield 61, 3) := by decide +kernel
theorem dX10_endsStep_40 : decode cX10_endsStep 40 = .ok (.iconst 4, 1) := by decide +kernel
theorem dX10_endsStep_41 : decode cX10_endsStep 41 = .ok (.putfield 316, 3) := by decide +kernel
theorem dX10_endsStep_44 : decode cX10_endsStep 44 = .ok (.iconst 0, 1) := by decide +kernel
theorem dX10_endsStep_45 : decode cX10_endsStep 45 = .ok (.ireturn, 1) := by decide +kernel
theorem dX10_endsStep_46 : decode cX10_endsStep 46 = .ok (.aload_n 0, 1) := by decide +kernel
theorem dX10_endsStep_47 : decode cX10_endsStep 47 = .ok (.getfield 61, 3) := by decide +kernel
theorem dX10_endsStep_50 : decode cX10_endsStep 50 = .ok (.iconst 0, 1) := by decide +kernel
theorem dX10_endsStep_51 : decode cX10_endsStep 51 = .ok (.putfield 421, 3) := by decide +kernel
theorem dX10_endsStep_54 : decode cX10_endsStep 54 = .ok (.iconst 1, 1) := by decide +kernel
theorem dX10_endsStep_55 : decode cX10_endsStep 55 = .ok (.ireturn, 1) := by decide +kernel
theorem dX10_endsStep_56 : decode cX10_endsStep 56 = .ok (.aload_n 0, 1) := by decide +kernel
theorem dX10_endsStep_57 : decode cX10_endsStep 57 = .ok (.getfield 61, 3) := by decide +kernel
theorem dX10_endsStep_60 : decode cX10_endsStep 60 = .ok (.aload_n 0, 1) := by decide +kernel
theorem dX10_endsStep_61 : decode cX10_endsStep 61 = .ok (.getfield 26, 3) := by decide +kernel
theorem dX10_endsStep_64 : decode cX10_endsStep 64 = .ok (.aload_n 0, 1) := by decide +kernel
theorem dX10_endsStep_65 : decode cX10_endsStep 65 = .ok (.getfield 47, 3) := by decide +kernel
theorem dX10_endsStep_68 : decode cX10_endsStep 68 = .ok (.iload_n 2, 1) := by decide +kernel
theorem dX10_endsStep_69 : decode cX10_endsStep 69 = .ok (.invokevirtual 424, 3) := by decide +kernel
theorem dX10_endsStep_72 : decode cX10_endsStep 72 = .ok (.ireturn, 1) := by decide +kernel
theorem dX10_endsStep_73 : decode cX10_endsStep 73 = .ok (.aload_n 0, 1) := by decide +kernel
theorem dX10_endsStep_74 : decode cX10_endsStep 74 = .ok (.getfield 61, 3) := by decide +kernel
theorem dX10_endsStep_77 : decode cX10_endsStep 77 = .ok (.aload_n 0, 1) := by decide +kernel
theorem dX10_endsStep_78 : decode cX10_endsStep 78 = .ok (.getfield 61, 3) := by decide +kernel
theorem dX10_endsStep_81 : decode cX10_endsStep 81 = .ok (.getfield 310, 3) := by decide +kernel
theorem dX10_endsStep_84 : decode cX10_endsStep 84 = .ok (.iload_n 2, 1) := by decide +kernel
theorem dX10_endsStep_85 : decode cX10_endsStep 85 = .ok (.iadd, 1) := by decide +kernel
theorem dX10_endsStep_86 : decode cX10_endsStep 86 = .ok (.iconst 4, 1) := by decide +kernel
theorem dX10_endsStep_87 : decode cX10_endsStep 87 = .ok (.irem, 1) := by decide +kernel
theorem dX10_endsStep_88 : decode cX10_endsStep 88 = .ok (.putfield 310, 3) := by decide +kernel
theorem dX10_endsStep_91 : decode cX10_endsStep 91 = .ok (.iconst 1, 1) := by decide +kernel
theorem dX10_endsStep_92 : decode cX10_endsStep 92 = .ok (.ireturn, 1) := by decide +kernel
theorem dX10_endsStep_93 : decode cX10_endsStep 93 = .ok (.aload_n 0, 1) := by decide +kernel
theorem dX10_endsStep_94 : decode cX10_endsStep 94 = .ok (.getfield 61, 3) := by decide +kernel
theorem dX10_endsStep_97 : decode cX10_endsStep 97 = .ok (.aload_n 0, 1) := by decide +kernel
theorem dX10_endsStep_98 : decode cX10_endsStep 98 = .ok (.getfield 61, 3) := by decide +kernel
theorem dX10_endsStep_101 : decode cX10_endsStep 101 = .ok (.getfield 313, 3) := by decide +kernel
theorem dX10_endsStep_104 : decode cX10_endsStep 104 = .ok (.ifCond .ne 7, 3) := by decide +kernel
theorem dX10_endsStep_107 : decode cX10_endsStep 107 = .ok (.iconst 1, 1) := by decide +kernel
theorem dX10_endsStep_108 : decode cX10_endsStep 108 = .ok (.goto 4, 3) := by decide +kernel
theorem dX10_endsStep_111 : decode cX10_endsStep 111 = .ok (.iconst 0, 1) := by decide +kernel
theorem dX10_endsStep_112 : decode cX10_endsStep 112 = .ok (.putfield 313, 3) := by decide +kernel
theorem dX10_endsStep_115 : decode cX10_endsStep 115 = .ok (.iconst 1, 1) := by decide +kernel
