theorem dX10_endsStep_116 : decode cX10_endsStep 116 = .ok (.ireturn, 1) := by decide +kernel
theorem dX11_init_0 : decode cX11_init 0 = .ok (.aload_n 0, 1) := by decide +kernel
theorem dX11_init_1 : decode cX11_init 1 = .ok (.invokespecial 1, 3) := by decide +kernel
theorem dX11_init_4 : decode cX11_init 4 = .ok (.aload_n 0, 1) := by decide +kernel
theorem dX11_init_5 : decode cX11_init 5 = .ok (.bipush 24, 2) := by decide +kernel
theorem dX11_init_7 : decode cX11_init 7 = .ok (.newarray .int, 2) := by decide +kernel
theorem dX11_init_9 : decode cX11_init 9 = .ok (.putfield 7, 3) := by decide +kernel
theorem dX11_init_12 : decode cX11_init 12 = .ok (.aload_n 0, 1) := by decide +kernel
theorem dX11_init_13 : decode cX11_init 13 = .ok (.bipush 24, 2) := by decide +kernel
theorem dX11_init_15 : decode cX11_init 15 = .ok (.newarray .int, 2) := by decide +kernel
theorem dX11_init_17 : decode cX11_init 17 = .ok (.putfield 13, 3) := by decide +kernel
theorem dX11_init_20 : decode cX11_init 20 = .ok (.aload_n 0, 1) := by decide +kernel
theorem dX11_init_21 : decode cX11_init 21 = .ok (.bipush 15, 2) := by decide +kernel
theorem dX11_init_23 : decode cX11_init 23 = .ok (.newarray .int, 2) := by decide +kernel
theorem dX11_init_25 : decode cX11_init 25 = .ok (.putfield 16, 3) := by decide +kernel
theorem dX11_init_28 : decode cX11_init 28 = .ok (.aload_n 0, 1) := by decide +kernel
theorem dX11_init_29 : decode cX11_init 29 = .ok (.sipush 720, 3) := by decide +kernel
theorem dX11_init_32 : decode cX11_init 32 = .ok (.newarray .int, 2) := by decide +kernel
theorem dX11_init_34 : decode cX11_init 34 = .ok (.putfield 19, 3) := by decide +kernel
theorem dX11_init_37 : decode cX11_init 37 = .ok (.aload_n 0, 1) := by decide +kernel
theorem dX11_init_38 : decode cX11_init 38 = .ok (.sipush 720, 3) := by decide +kernel
theorem dX11_init_41 : decode cX11_init 41 = .ok (.newarray .int, 2) := by decide +kernel
theorem dX11_init_43 : decode cX11_init 43 = .ok (.putfield 22, 3) := by decide +kernel
theorem dX11_init_46 : decode cX11_init 46 = .ok (.aload_n 0, 1) := by decide +kernel
theorem dX11_init_47 : decode cX11_init 47 = .ok (.bipush 8, 2) := by decide +kernel
theorem dX11_init_49 : decode cX11_init 49 = .ok (.newarray .int, 2) := by decide +kernel
theorem dX11_init_51 : decode cX11_init 51 = .ok (.putfield 25, 3) := by decide +kernel
theorem dX11_init_54 : decode cX11_init 54 = .ok (.aload_n 0, 1) := by decide +kernel
theorem dX11_init_55 : decode cX11_init 55 = .ok (.iconst 2, 1) := by decide +kernel
theorem dX11_init_56 : decode cX11_init 56 = .ok (.newarray .int, 2) := by decide +kernel
theorem dX11_init_58 : decode cX11_init 58 = .ok (.dup, 1) := by decide +kernel
theorem dX11_init_59 : decode cX11_init 59 = .ok (.iconst 0, 1) := by decide +kernel
theorem dX11_init_60 : decode cX11_init 60 = .ok (.iconst 4, 1) := by decide +kernel
theorem dX11_init_61 : decode cX11_init 61 = .ok (.iastore, 1) := by decide +kernel
theorem dX11_init_62 : decode cX11_init 62 = .ok (.dup, 1) := by decide +kernel
theorem dX11_init_63 : decode cX11_init 63 = .ok (.iconst 1, 1) := by decide +kernel
theorem dX11_init_64 : decode cX11_init 64 = .ok (.iconst 0, 1) := by decide +kernel
theorem dX11_init_65 : decode cX11_init 65 = .ok (.iastore, 1) := by decide +kernel
theorem dX11_init_66 : decode cX11_init 66 = .ok (.putfield 28, 3) := by decide +kernel
theorem dX11_init_69 : decode cX11_init 69 = .ok (.aload_n 0, 1) := by decide +kernel
theorem dX11_init_70 : decode cX11_init 70 = .ok (.bipush 20, 2) := by decide +kernel
theorem dX11_init_72 : decode cX11_init 72 = .ok (.putfield 31, 3) := by decide +kernel
theorem dX11_init_75 : decode cX11_init 75 = .ok (.aload_n 0, 1) := by decide +kernel
theorem dX11_init_76 : decode cX11_init 76 = .ok (.bipush 20, 2) := by decide +kernel
theorem dX11_init_78 : decode cX11_init 78 = .ok (.putfield 35, 3) := by decide +kernel
theorem dX11_init_81 : decode cX11_init 81 = .ok (.aload_n 0, 1) := by decide +kernel
theorem dX11_init_82 : decode cX11_init 82 = .ok (.ldc 38, 2) := by decide +kernel
theorem dX11_init_84 : decode cX11_init 84 = .ok (.putfield 39, 3) := by decide +kernel
theorem dX11_init_87 : decode cX11_init 87 = .ok (.aload_n 0, 1) := by decide +kernel
theorem dX11_init_88 : decode cX11_init 88 = .ok (.sipush 5000, 3) := by decide +kernel
theorem dX11_init_91 : decode cX11_init 91 = .ok (.putfield 42, 3) := by decide +kernel
theorem dX11_init_94 : decode cX11_init 94 = .ok (.aload_n 0, 1) := by decide +kernel
theorem dX11_init_95 : decode cX11_init 95 = .ok (.bipush 20, 2) := by decide +kernel
theorem dX11_init_97 : decode cX11_init 97 = .ok (.newarray .int, 2) := by decide +kernel
theorem dX11_init_99 : decode cX11_init 99 = .ok (.putfield 45, 3) := by decide +kernel
theorem dX11_init_102 : decode cX11_init 102 = .ok (.aload_n 0, 1) := by decide +kernel
theorem dX11_init_103 : decode cX11_init 103 = .ok (.bipush 20, 2) := by decide +kernel
theorem dX11_init_105 : decode cX11_init 105 = .ok (.newarray .int, 2) := by decide +kernel
theorem dX11_init_107 : decode cX11_init 107 = .ok (.putfield 48, 3) := by decide +kernel
theorem dX11_init_110 : decode cX11_init 110 = .ok (.aload_n 0, 1) := by decide +kernel
theorem dX11_init_111 : decode cX11_init 111 = .ok (.bipush 10, 2) := by decide +kernel
theorem dX11_init_113 : decode cX11_init 113 = .ok (.newarray .int, 2) := by decide +kernel
theorem dX11_init_115 : decode cX11_init 115 = .ok (.putfield 51, 3) := by decide +kernel
theorem dX11_init_118 : decode cX11_init 118 = .ok (.aload_n 0, 1) := by decide +kernel
theorem dX11_init_119 : decode cX11_init 119 = .ok (.sipush 600, 3) := by decide +kernel
theorem dX11_init_122 : decode cX11_init 122 = .ok (.newarray .int, 2) := by decide +kernel
theorem dX11_init_124 : decode cX11_init 124 = .ok (.putfield 54, 3) := by decide +kernel
theorem dX11_init_127 : decode cX11_init 127 = .ok (.aload_n 0, 1) := by decide +kernel
theorem dX11_init_128 : decode cX11_init 128 = .ok (.sipush 600, 3) := by decide +kernel
theorem dX11_init_131 : decode cX11_init 131 = .ok (.newarray .int, 2) := by decide +kernel
theorem dX11_init_133 : decode cX11_init 133 = .ok (.putfield 57, 3) := by decide +kernel
theorem dX11_init_136 : decode cX11_init 136 = .ok (.aload_n 0, 1) := by decide +kernel
theorem dX11_init_137 : decode cX11_init 137 = .ok (.bipush 24, 2) := by decide +kernel
theorem dX11_init_139 : decode cX11_init 139 = .ok (.newarray .int, 2) := by decide +kernel
theorem dX11_init_141 : decode cX11_init 141 = .ok (.putfield 60, 3) := by decide +kernel
theorem dX11_init_144 : decode cX11_init 144 = .ok (.aload_n 0, 1) := by decide +kernel
theorem dX11_init_145 : decode cX11_init 145 = .ok (.bipush 24, 2) := by decide +kernel
theorem dX11_init_147 : decode cX11_init 147 = .ok (.newarray .int, 2) := by decide +kernel
theorem dX11_init_149 : decode cX11_init 149 = .ok (.putfield 63, 3) := by decide +kernel
theorem dX11_init_152 : decode cX11_init 152 = .ok (.aload_n 0, 1) := by decide +kernel
theorem dX11_init_153 : decode cX11_init 153 = .ok (.bipush 6, 2) := by decide +kernel
theorem dX11_init_155 : decode cX11_init 155 = .ok (.newarray .int, 2) := by decide +kernel
theorem dX11_init_157 : decode cX11_init 157 = .ok (.putfield 66, 3) := by decide +kernel
theorem dX11_init_160 : decode cX11_init 160 = .ok (.aload_n 0, 1) := by decide +kernel
theorem dX11_init_161 : decode cX11_init 161 = .ok (.bipush 6, 2) := by decide +kernel
theorem dX11_init_163 : decode cX11_init 163 = .ok (.newarray .int, 2) := by decide +kernel
theorem dX11_init_165 : decode cX11_init 165 = .ok (.putfield 69, 3) := by decide +kernel
theorem dX11_init_168 : decode cX11_init 168 = .ok (.aload_n 0, 1) := by decide +kernel
theorem dX11_init_169 : decode cX11_init 169 = .ok (.sipush 2400, 3) := by decide +kernel
theorem dX11_init_172 : decode cX11_init 172 = .ok (.newarray .long, 2) := by decide +kernel
theorem dX11_init_174 : decode cX11_init 174 = .ok (.putfield 72, 3) := by decide +kernel
theorem dX11_init_177 : decode cX11_init 177 = .ok (.aload_n 0, 1) := by decide +kernel
theorem dX11_init_178 : decode cX11_init 178 = .ok (.bipush 24, 2) := by decide +kernel
theorem dX11_init_180 : decode cX11_init 180 = .ok (.newarray .int, 2) := by decide +kernel
theorem dX11_init_182 : decode cX11_init 182 = .ok (.putfield 76, 3) := by decide +kernel
theorem dX11_init_185 : decode cX11_init 185 = .ok (.aload_n 0, 1) := by decide +kernel
theorem dX11_init_186 : decode cX11_init 186 = .ok (.bipush 24, 2) := by decide +kernel
theorem dX11_init_188 : decode cX11_init 188 = .ok (.newarray .int, 2) := by decide +kernel
theorem dX11_init_190 : decode cX11_init 190 = .ok (.putfield 79, 3) := by decide +kernel
theorem dX11_init_193 : decode cX11_init 193 = .ok (.aload_n 0, 1) := by decide +kernel
theorem dX11_init_194 : decode cX11_init 194 = .ok (.iconst 3, 1) := by decide +kernel
theorem dX11_init_195 : decode cX11_init 195 = .ok (.newarray .int, 2) := by decide +kernel
theorem dX11_init_197 : decode cX11_init 197 = .ok (.putfield 82, 3) := by decide +kernel
theorem dX11_init_200 : decode cX11_init 200 = .ok (.aload_n 0, 1) := by decide +kernel
theorem dX11_init_201 : decode cX11_init 201 = .ok (.iconst 3, 1) := by decide +kernel
theorem dX11_init_202 : decode cX11_init 202 = .ok (.newarray .int, 2) := by decide +kernel
theorem dX11_init_204 : decode cX11_init 204 = .ok (.putfield 85, 3) := by decide +kernel
theorem dX11_init_207 : decode cX11_init 207 = .ok (.aload_n 0, 1) := by decide +kernel
theorem dX11_init_208 : decode cX11_init 208 = .ok (.bipush 48, 2) := by decide +kernel
theorem dX11_init_210 : decode cX11_init 210 = .ok (.newarray .int, 2) := by decide +kernel
theorem dX11_init_212 : decode cX11_init 212 = .ok (.putfield 88, 3) := by decide +kernel
theorem dX11_init_215 : decode cX11_init 215 = .ok (.aload_n 0, 1) := by decide +kernel
theorem dX11_init_216 : decode cX11_init 216 = .ok (.bipush 48, 2) := by decide +kernel
theorem dX11_init_218 : decode cX11_init 218 = .ok (.newarray .int, 2) := by decide +kernel
theorem dX11_init_220 : decode cX11_init 220 = .ok (.putfield 91, 3) := by decide +kernel
theorem dX11_init_223 : decode cX11_init 223 = .ok (.aload_n 0, 1) := by decide +kernel
theorem dX11_init_224 : decode cX11_init 224 = .ok (.sipush 2772, 3) := by decide +kernel
theorem dX11_init_227 : decode cX11_init 227 = .ok (.newarray .int, 2) := by decide +kernel
theorem dX11_init_229 : decode cX11_init 229 = .ok (.putfield 94, 3) := by decide +kernel
theorem dX11_init_232 : decode cX11_init 232 = .ok (.aload_n 0, 1) := by decide +kernel
theorem dX11_init_233 : decode cX11_init 233 = .ok (.iconst 5, 1) := by decide +kernel
theorem dX11_init_234 : decode cX11_init 234 = .ok (.newarray .int, 2) := by decide +kernel
theorem dX11_init_236 : decode cX11_init 236 = .ok (.putfield 97, 3) := by decide +kernel
theorem dX11_init_239 : decode cX11_init 239 = .ok (.aload_n 0, 1) := by decide +kernel
theorem dX11_init_240 : decode cX11_init 240 = .ok (.sipush 400, 3) := by decide +kernel
theorem dX11_init_243 : decode cX11_init 243 = .ok (.newarray .long, 2) := by decide +kernel
theorem dX11_init_245 : decode cX11_init 245 = .ok (.putfield 100, 3) := by decide +kernel
theorem dX11_init_248 : decode cX11_init 248 = .ok (.return_, 1) := by decide +kernel
theorem dX11_thrown_0 : decode cX11_thrown 0 = .ok (.aload_n 0, 1) := by decide +kernel
theorem dX11_thrown_1 : decode cX11_thrown 1 = .ok (.getfield 103, 3) := by decide +kernel
theorem dX11_thrown_4 : decode cX11_thrown 4 = .ok (.ireturn, 1) := by decide +kernel
theorem dX11_in_0 : decode cX11_in 0 = .ok (.iload_n 0, 1) := by decide +kernel
theorem dX11_in_1 : decode cX11_in 1 = .ok (.iload_n 1, 1) := by decide +kernel
theorem dX11_in_2 : decode cX11_in 2 = .ok (.if_icmp .lt 12, 3) := by decide +kernel
theorem dX11_in_5 : decode cX11_in 5 = .ok (.iload_n 0, 1) := by decide +kernel
theorem dX11_in_6 : decode cX11_in 6 = .ok (.iload_n 2, 1) := by decide +kernel
theorem dX11_in_7 : decode cX11_in 7 = .ok (.if_icmp .gt 7, 3) := by decide +kernel
theorem dX11_in_10 : decode cX11_in 10 = .ok (.iconst 1, 1) := by decide +kernel
theorem dX11_in_11 : decode cX11_in 11 = .ok (.goto 4, 3) := by decide +kernel
theorem dX11_in_14 : decode cX11_in 14 = .ok (.iconst 0, 1) := by decide +kernel
theorem dX11_in_15 : decode cX11_in 15 = .ok (.ireturn, 1) := by decide +kernel
theorem dX11_refuse_0 : decode cX11_refuse 0 = .ok (.aload_n 0, 1) := by decide +kernel
theorem dX11_refuse_1 : decode cX11_refuse 1 = .ok (.dup, 1) := by decide +kernel
theorem dX11_refuse_2 : decode cX11_refuse 2 = .ok (.getfield 106, 3) := by decide +kernel
theorem dX11_refuse_5 : decode cX11_refuse 5 = .ok (.iconst 1, 1) := by decide +kernel
theorem dX11_refuse_6 : decode cX11_refuse 6 = .ok (.iadd, 1) := by decide +kernel
theorem dX11_refuse_7 : decode cX11_refuse 7 = .ok (.putfield 106, 3) := by decide +kernel
theorem dX11_refuse_10 : decode cX11_refuse 10 = .ok (.iload_n 1, 1) := by decide +kernel
theorem dX11_refuse_11 : decode cX11_refuse 11 = .ok (.ireturn, 1) := by decide +kernel
theorem dX11_begin_0 : decode cX11_begin 0 = .ok (.aload_n 0, 1) := by decide +kernel
theorem dX11_begin_1 : decode cX11_begin 1 = .ok (.iconst 0, 1) := by decide +kernel
theorem dX11_begin_2 : decode cX11_begin 2 = .ok (.putfield 109, 3) := by decide +kernel
theorem dX11_begin_5 : decode cX11_begin 5 = .ok (.iconst 0, 1) := by decide +kernel
theorem dX11_begin_6 : decode cX11_begin 6 = .ok (.istore_n 1, 1) := by decide +kernel
theorem dX11_begin_7 : decode cX11_begin 7 = .ok (.iload_n 1, 1) := by decide +kernel
theorem dX11_begin_8 : decode cX11_begin 8 = .ok (.bipush 8, 2) := by decide +kernel
theorem dX11_begin_10 : decode cX11_begin 10 = .ok (.if_icmp .ge 16, 3) := by decide +kernel
theorem dX11_begin_13 : decode cX11_begin 13 = .ok (.aload_n 0, 1) := by decide +kernel
theorem dX11_begin_14 : decode cX11_begin 14 = .ok (.getfield 16, 3) := by decide +kernel
theorem dX11_begin_17 : decode cX11_begin 17 = .ok (.iload_n 1, 1) := by decide +kernel
theorem dX11_begin_18 : decode cX11_begin 18 = .ok (.iconst 0, 1) := by decide +kernel
theorem dX11_begin_19 : decode cX11_begin 19 = .ok (.iastore, 1) := by decide +kernel
theorem dX11_begin_20 : decode cX11_begin 20 = .ok (.iinc 1 1, 3) := by decide +kernel
theorem dX11_begin_23 : decode cX11_begin 23 = .ok (.goto (-16), 3) := by decide +kernel
theorem dX11_begin_26 : decode cX11_begin 26 = .ok (.aload_n 0, 1) := by decide +kernel
theorem dX11_begin_27 : decode cX11_begin 27 = .ok (.getfield 16, 3) := by decide +kernel
theorem dX11_begin_30 : decode cX11_begin 30 = .ok (.bipush 14, 2) := by decide +kernel
theorem dX11_begin_32 : decode cX11_begin 32 = .ok (.iconst 0, 1) := by decide +kernel
theorem dX11_begin_33 : decode cX11_begin 33 = .ok (.iastore, 1) := by decide +kernel
theorem dX11_begin_34 : decode cX11_begin 34 = .ok (.aload_n 0, 1) := by decide +kernel
theorem dX11_begin_35 : decode cX11_begin 35 = .ok (.iconst 0, 1) := by decide +kernel
theorem dX11_begin_36 : decode cX11_begin 36 = .ok (.putfield 112, 3) := by decide +kernel
theorem dX11_begin_39 : decode cX11_begin 39 = .ok (.aload_n 0, 1) := by decide +kernel
theorem dX11_begin_40 : decode cX11_begin 40 = .ok (.getfield 28, 3) := by decide +kernel
theorem dX11_begin_43 : decode cX11_begin 43 = .ok (.iconst 0, 1) := by decide +kernel
theorem dX11_begin_44 : decode cX11_begin 44 = .ok (.iconst 4, 1) := by decide +kernel
theorem dX11_begin_45 : decode cX11_begin 45 = .ok (.iastore, 1) := by decide +kernel
theorem dX11_begin_46 : decode cX11_begin 46 = .ok (.aload_n 0, 1) := by decide +kernel
theorem dX11_begin_47 : decode cX11_begin 47 = .ok (.getfield 28, 3) := by decide +kernel
theorem dX11_begin_50 : decode cX11_begin 50 = .ok (.iconst 1, 1) := by decide +kernel
theorem dX11_begin_51 : decode cX11_begin 51 = .ok (.iconst 0, 1) := by decide +kernel
theorem dX11_begin_52 : decode cX11_begin 52 = .ok (.iastore, 1) := by decide +kernel
theorem dX11_begin_53 : decode cX11_begin 53 = .ok (.aload_n 0, 1) := by decide +kernel
theorem dX11_begin_54 : decode cX11_begin 54 = .ok (.bipush 20, 2) := by decide +kernel
theorem dX11_begin_56 : decode cX11_begin 56 = .ok (.putfield 31, 3) := by decide +kernel
theorem dX11_begin_59 : decode cX11_begin 59 = .ok (.aload_n 0, 1) := by decide +kernel
theorem dX11_begin_60 : decode cX11_begin 60 = .ok (.bipush 20, 2) := by decide +kernel
theorem dX11_begin_62 : decode cX11_begin 62 = .ok (.putfield 35, 3) := by decide +kernel
theorem dX11_begin_65 : decode cX11_begin 65 = .ok (.aload_n 0, 1) := by decide +kernel
theorem dX11_begin_66 : decode cX11_begin 66 = .ok (.ldc 38, 2) := by decide +kernel
theorem dX11_begin_68 : decode cX11_begin 68 = .ok (.putfield 39, 3) := by decide +kernel
theorem dX11_begin_71 : decode cX11_begin 71 = .ok (.aload_n 0, 1) := by decide +kernel
theorem dX11_begin_72 : decode cX11_begin 72 = .ok (.sipush 5000, 3) := by decide +kernel
theorem dX11_begin_75 : decode cX11_begin 75 = .ok (.putfield 42, 3) := by decide +kernel
theorem dX11_begin_78 : decode cX11_begin 78 = .ok (.aload_n 0, 1) := by decide +kernel
theorem dX11_begin_79 : decode cX11_begin 79 = .ok (.iconst 0, 1) := by decide +kernel
theorem dX11_begin_80 : decode cX11_begin 80 = .ok (.putfield 115, 3) := by decide +kernel
theorem dX11_begin_83 : decode cX11_begin 83 = .ok (.aload_n 0, 1) := by decide +kernel
theorem dX11_begin_84 : decode cX11_begin 84 = .ok (.iconst 0, 1) := by decide +kernel
theorem dX11_begin_85 : decode cX11_begin 85 = .ok (.putfield 118, 3) := by decide +kernel
theorem dX11_begin_88 : decode cX11_begin 88 = .ok (.aload_n 0, 1) := by decide +kernel
theorem dX11_begin_89 : decode cX11_begin 89 = .ok (.iconst 0, 1) := by decide +kernel
theorem dX11_begin_90 : decode cX11_begin 90 = .ok (.putfield 122, 3) := by decide +kernel
theorem dX11_begin_93 : decode cX11_begin 93 = .ok (.aload_n 0, 1) := by decide +kernel
theorem dX11_begin_94 : decode cX11_begin 94 = .ok (.iconst 0, 1) := by decide +kernel
theorem dX11_begin_95 : decode cX11_begin 95 = .ok (.putfield 106, 3) := by decide +kernel
theorem dX11_begin_98 : decode cX11_begin 98 = .ok (.iconst 0, 1) := by decide +kernel
theorem dX11_begin_99 : decode cX11_begin 99 = .ok (.ireturn, 1) := by decide +kernel
theorem dX11_away_0 : decode cX11_away 0 = .ok (.iload_n 0, 1) := by decide +kernel
theorem dX11_away_1 : decode cX11_away 1 = .ok (.ifCond .ge 8, 3) := by decide +kernel
theorem dX11_away_4 : decode cX11_away 4 = .ok (.iload_n 0, 1) := by decide +kernel
theorem dX11_away_5 : decode cX11_away 5 = .ok (.ineg, 1) := by decide +kernel
theorem dX11_away_6 : decode cX11_away 6 = .ok (.goto 4, 3) := by decide +kernel
theorem dX11_away_9 : decode cX11_away 9 = .ok (.iload_n 0, 1) := by decide +kernel
theorem dX11_away_10 : decode cX11_away 10 = .ok (.ireturn, 1) := by decide +kernel
theorem dX11_floor_0 : decode cX11_floor 0 = .ok (.iload_n 0, 1) := by decide +kernel
theorem dX11_floor_1 : decode cX11_floor 1 = .ok (.iload_n 1, 1) := by decide +kernel
theorem dX11_floor_2 : decode cX11_floor 2 = .ok (.idiv, 1) := by decide +kernel
theorem dX11_floor_3 : decode cX11_floor 3 = .ok (.istore_n 2, 1) := by decide +kernel
theorem dX11_floor_4 : decode cX11_floor 4 = .ok (.iload_n 2, 1) := by decide +kernel
theorem dX11_floor_5 : decode cX11_floor 5 = .ok (.iload_n 1, 1) := by decide +kernel
theorem dX11_floor_6 : decode cX11_floor 6 = .ok (.imul, 1) := by decide +kernel
theorem dX11_floor_7 : decode cX11_floor 7 = .ok (.iload_n 0, 1) := by decide +kernel
theorem dX11_floor_8 : decode cX11_floor 8 = .ok (.if_icmp .le 9, 3) := by decide +kernel
theorem dX11_floor_11 : decode cX11_floor 11 = .ok (.iload_n 2, 1) := by decide +kernel
theorem dX11_floor_12 : decode cX11_floor 12 = .ok (.iconst 1, 1) := by decide +kernel
theorem dX11_floor_13 : decode cX11_floor 13 = .ok (.isub, 1) := by decide +kernel
theorem dX11_floor_14 : decode cX11_floor 14 = .ok (.goto 4, 3) := by decide +kernel
theorem dX11_floor_17 : decode cX11_floor 17 = .ok (.iload_n 2, 1) := by decide +kernel
theorem dX11_floor_18 : decode cX11_floor 18 = .ok (.ireturn, 1) := by decide +kernel
theorem dX11_number_0 : decode cX11_number 0 = .ok (.aload_n 0, 1) := by decide +kernel
theorem dX11_number_1 : decode cX11_number 1 = .ok (.getfield 72, 3) := by decide +kernel
theorem dX11_number_4 : decode cX11_number 4 = .ok (.sipush 400, 3) := by decide +kernel
theorem dX11_number_7 : decode cX11_number 7 = .ok (.aload_n 0, 1) := by decide +kernel
theorem dX11_number_8 : decode cX11_number 8 = .ok (.getfield 125, 3) := by decide +kernel
theorem dX11_number_11 : decode cX11_number 11 = .ok (.imul, 1) := by decide +kernel
theorem dX11_number_12 : decode cX11_number 12 = .ok (.aload_n 0, 1) := by decide +kernel
theorem dX11_number_13 : decode cX11_number 13 = .ok (.getfield 128, 3) := by decide +kernel
theorem dX11_number_16 : decode cX11_number 16 = .ok (.iadd, 1) := by decide +kernel
theorem dX11_number_17 : decode cX11_number 17 = .ok (.iload_n 1, 1) := by decide +kernel
theorem dX11_number_18 : decode cX11_number 18 = .ok (.iadd, 1) := by decide +kernel
theorem dX11_number_19 : decode cX11_number 19 = .ok (.laload, 1) := by decide +kernel
theorem dX11_number_20 : decode cX11_number 20 = .ok (.l2i, 1) := by decide +kernel
theorem dX11_number_21 : decode cX11_number 21 = .ok (.ireturn, 1) := by decide +kernel
theorem dX11_isLong_0 : decode cX11_isLong 0 = .ok (.aload_n 0, 1) := by decide +kernel
theorem dX11_isLong_1 : decode cX11_isLong 1 = .ok (.getfield 128, 3) := by decide +kernel
theorem dX11_isLong_4 : decode cX11_isLong 4 = .ok (.iload_n 1, 1) := by decide +kernel
theorem dX11_isLong_5 : decode cX11_isLong 5 = .ok (.iadd, 1) := by decide +kernel
theorem dX11_isLong_6 : decode cX11_isLong 6 = .ok (.aload_n 0, 1) := by decide +kernel
theorem dX11_isLong_7 : decode cX11_isLong 7 = .ok (.getfield 131, 3) := by decide +kernel
theorem dX11_isLong_10 : decode cX11_isLong 10 = .ok (.if_icmp .ge 7, 3) := by decide +kernel
theorem dX11_isLong_13 : decode cX11_isLong 13 = .ok (.iconst 1, 1) := by decide +kernel
theorem dX11_isLong_14 : decode cX11_isLong 14 = .ok (.goto 4, 3) := by decide +kernel
theorem dX11_isLong_17 : decode cX11_isLong 17 = .ok (.iconst 0, 1) := by decide +kernel
theorem dX11_isLong_18 : decode cX11_isLong 18 = .ok (.ireturn, 1) := by decide +kernel
set_option maxRecDepth 20000 in
theorem ggX11_standsAt_X11_number : GoodIn wsX11_standsAt wsX11_number := goodIn_r _ [12, 13, 14, 7, 18, 19, 20, 21, 22, 23, 24, 25, 26, 27, 28, 29, 30, 31, 32, 33, 34, 35, 36, 37, 38, 39, 40, 41, 42, 43, 44, 45, 46, 47, 48, 49, 50, 51, 52, 53, 54, 55, 56, 57, 58, 59, 60, 61, 62, 63, 64, 65, 66, 67, 68, 69, 70, 71, 72, 73, 74, 75, 76, 77, 78, 79] (by decide +kernel) (by decide +kernel)
set_option maxRecDepth 20000 in
theorem gX11_standsAt_X11_number : GoodIn wsX11_standsAt (wsV RX11 140 RX11 yX11_number wsX11_number) := goodIn_app (goodIn_of _ (by decide +kernel)) ggX11_standsAt_X11_number
set_option maxRecDepth 20000 in
theorem ggX11_standsAt_X11_in : GoodIn wsX11_standsAt wsX11_in := goodIn_r _ [17] (by decide +kernel) (by decide +kernel)
set_option maxRecDepth 20000 in
theorem gX11_standsAt_X11_in : GoodIn wsX11_standsAt (va_wsS RX11 147 yX11_in wsX11_in) := goodIn_app (goodIn_of _ (by decide +kernel)) ggX11_standsAt_X11_in
theorem dX11_standsAt_0 : decode cX11_standsAt 0 = .ok (.aload_n 0, 1) := by decide +kernel
theorem dX11_standsAt_1 : decode cX11_standsAt 1 = .ok (.getfield 134, 3) := by decide +kernel
theorem dX11_standsAt_4 : decode cX11_standsAt 4 = .ok (.aload_n 0, 1) := by decide +kernel
theorem dX11_standsAt_5 : decode cX11_standsAt 5 = .ok (.getfield 137, 3) := by decide +kernel
theorem dX11_standsAt_8 : decode cX11_standsAt 8 = .ok (.ifCond .eq 12, 3) := by decide +kernel
theorem dX11_standsAt_11 : decode cX11_standsAt 11 = .ok (.aload_n 0, 1) := by decide +kernel
theorem dX11_standsAt_12 : decode cX11_standsAt 12 = .ok (.iconst 1, 1) := by decide +kernel
theorem dX11_standsAt_13 : decode cX11_standsAt 13 = .ok (.invokevirtual 140, 3) := by decide +kernel
theorem dX11_standsAt_16 : decode cX11_standsAt 16 = .ok (.ineg, 1) := by decide +kernel
theorem dX11_standsAt_17 : decode cX11_standsAt 17 = .ok (.goto 8, 3) := by decide +kernel
theorem dX11_standsAt_20 : decode cX11_standsAt 20 = .ok (.aload_n 0, 1) := by decide +kernel
theorem dX11_standsAt_21 : decode cX11_standsAt 21 = .ok (.iconst 1, 1) := by decide +kernel
theorem dX11_standsAt_22 : decode cX11_standsAt 22 = .ok (.invokevirtual 140, 3) := by decide +kernel
theorem dX11_standsAt_25 : decode cX11_standsAt 25 = .ok (.iadd, 1) := by decide +kernel
theorem dX11_standsAt_26 : decode cX11_standsAt 26 = .ok (.istore_n 1, 1) := by decide +kernel
theorem dX11_standsAt_27 : decode cX11_standsAt 27 = .ok (.aload_n 0, 1) := by decide +kernel
theorem dX11_standsAt_28 : decode cX11_standsAt 28 = .ok (.getfield 144, 3) := by decide +kernel
theorem dX11_standsAt_31 : decode cX11_standsAt 31 = .ok (.aload_n 0, 1) := by decide +kernel
theorem dX11_standsAt_32 : decode cX11_standsAt 32 = .ok (.iconst 2, 1) := by decide +kernel
theorem dX11_standsAt_33 : decode cX11_standsAt 33 = .ok (.invokevirtual 140, 3) := by decide +kernel
theorem dX11_standsAt_36 : decode cX11_standsAt 36 = .ok (.iadd, 1) := by decide +kernel
theorem dX11_standsAt_37 : decode cX11_standsAt 37 = .ok (.istore_n 2, 1) := by decide +kernel
theorem dX11_standsAt_38 : decode cX11_standsAt 38 = .ok (.iload_n 1, 1) := by decide +kernel
theorem dX11_standsAt_39 : decode cX11_standsAt 39 = .ok (.bipush (-12), 2) := by decide +kernel
theorem dX11_standsAt_41 : decode cX11_standsAt 41 = .ok (.bipush 12, 2) := by decide +kernel
theorem dX11_standsAt_43 : decode cX11_standsAt 43 = .ok (.invokestatic 147, 3) := by decide +kernel
theorem dX11_standsAt_46 : decode cX11_standsAt 46 = .ok (.ifCond .eq 23, 3) := by decide +kernel
theorem dX11_standsAt_49 : decode cX11_standsAt 49 = .ok (.iload_n 2, 1) := by decide +kernel
theorem dX11_standsAt_50 : decode cX11_standsAt 50 = .ok (.bipush (-100), 2) := by decide +kernel
theorem dX11_standsAt_52 : decode cX11_standsAt 52 = .ok (.bipush 100, 2) := by decide +kernel
theorem dX11_standsAt_54 : decode cX11_standsAt 54 = .ok (.invokestatic 147, 3) := by decide +kernel
theorem dX11_standsAt_57 : decode cX11_standsAt 57 = .ok (.ifCond .eq 12, 3) := by decide +kernel
theorem dX11_standsAt_60 : decode cX11_standsAt 60 = .ok (.aload_n 0, 1) := by decide +kernel
theorem dX11_standsAt_61 : decode cX11_standsAt 61 = .ok (.getfield 151, 3) := by decide +kernel
theorem dX11_standsAt_64 : decode cX11_standsAt 64 = .ok (.bipush 24, 2) := by decide +kernel
theorem dX11_standsAt_66 : decode cX11_standsAt 66 = .ok (.if_icmp .ne 5, 3) := by decide +kernel
theorem dX11_standsAt_69 : decode cX11_standsAt 69 = .ok (.iconst 0, 1) := by decide +kernel
theorem dX11_standsAt_70 : decode cX11_standsAt 70 = .ok (.ireturn, 1) := by decide +kernel
theorem dX11_standsAt_71 : decode cX11_standsAt 71 = .ok (.aload_n 0, 1) := by decide +kernel
theorem dX11_standsAt_72 : decode cX11_standsAt 72 = .ok (.getfield 76, 3) := by decide +kernel
theorem dX11_standsAt_75 : decode cX11_standsAt 75 = .ok (.aload_n 0, 1) := by decide +kernel
theorem dX11_standsAt_76 : decode cX11_standsAt 76 = .ok (.getfield 151, 3) := by decide +kernel
theorem dX11_standsAt_79 : decode cX11_standsAt 79 = .ok (.iload_n 1, 1) := by decide +kernel
theorem dX11_standsAt_80 : decode cX11_standsAt 80 = .ok (.iastore, 1) := by decide +kernel
theorem dX11_standsAt_81 : decode cX11_standsAt 81 = .ok (.aload_n 0, 1) := by decide +kernel
theorem dX11_standsAt_82 : decode cX11_standsAt 82 = .ok (.getfield 79, 3) := by decide +kernel
theorem dX11_standsAt_85 : decode cX11_standsAt 85 = .ok (.aload_n 0, 1) := by decide +kernel
theorem dX11_standsAt_86 : decode cX11_standsAt 86 = .ok (.getfield 151, 3) := by decide +kernel
theorem dX11_standsAt_89 : decode cX11_standsAt 89 = .ok (.iload_n 2, 1) := by decide +kernel
theorem dX11_standsAt_90 : decode cX11_standsAt 90 = .ok (.iastore, 1) := by decide +kernel
theorem dX11_standsAt_91 : decode cX11_standsAt 91 = .ok (.aload_n 0, 1) := by decide +kernel
theorem dX11_standsAt_92 : decode cX11_standsAt 92 = .ok (.dup, 1) := by decide +kernel
theorem dX11_standsAt_93 : decode cX11_standsAt 93 = .ok (.getfield 151, 3) := by decide +kernel
theorem dX11_standsAt_96 : decode cX11_standsAt 96 = .ok (.iconst 1, 1) := by decide +kernel
theorem dX11_standsAt_97 : decode cX11_standsAt 97 = .ok (.iadd, 1) := by decide +kernel
theorem dX11_standsAt_98 : decode cX11_standsAt 98 = .ok (.putfield 151, 3) := by decide +kernel
theorem dX11_standsAt_101 : decode cX11_standsAt 101 = .ok (.aload_n 0, 1) := by decide +kernel
theorem dX11_standsAt_102 : decode cX11_standsAt 102 = .ok (.dup, 1) := by decide +kernel
theorem dX11_standsAt_103 : decode cX11_standsAt 103 = .ok (.getfield 128, 3) := by decide +kernel
theorem dX11_standsAt_106 : decode cX11_standsAt 106 = .ok (.iconst 3, 1) := by decide +kernel
theorem dX11_standsAt_107 : decode cX11_standsAt 107 = .ok (.iadd, 1) := by decide +kernel
theorem dX11_standsAt_108 : decode cX11_standsAt 108 = .ok (.putfield 128, 3) := by decide +kernel
theorem dX11_standsAt_111 : decode cX11_standsAt 111 = .ok (.iconst 1, 1) := by decide +kernel
theorem dX11_standsAt_112 : decode cX11_standsAt 112 = .ok (.ireturn, 1) := by decide +kernel
set_option maxRecDepth 20000 in
theorem ggX11_movesTo_X11_number : GoodIn wsX11_movesTo wsX11_number := goodIn_r _ [9, 10, 11, 4, 15, 16, 17, 18, 19, 20, 21, 22, 23, 24, 25, 26, 27, 28, 29, 30, 31, 32, 33, 34, 35, 36, 37, 38, 39, 40, 41, 42, 43, 44, 45, 46, 47, 48, 49, 50, 51, 52, 53, 54, 55, 56, 57, 58, 59, 60, 61, 62, 63, 64, 65, 66, 67, 68, 69, 70, 71, 72, 73, 74, 75, 76] (by decide +kernel) (by decide +kernel)
set_option maxRecDepth 20000 in
theorem gX11_movesTo_X11_number : GoodIn wsX11_movesTo (wsV RX11 140 RX11 yX11_number wsX11_number) := goodIn_app (goodIn_of _ (by decide +kernel)) ggX11_movesTo_X11_number
set_option maxRecDepth 20000 in
theorem ggX11_movesTo_X11_in : GoodIn wsX11_movesTo wsX11_in := goodIn_r _ [14] (by decide +kernel) (by decide +kernel)
set_option maxRecDepth 20000 in
theorem gX11_movesTo_X11_in : GoodIn wsX11_movesTo (va_wsS RX11 147 yX11_in wsX11_in) := goodIn_app (goodIn_of _ (by decide +kernel)) ggX11_movesTo_X11_in
theorem dX11_movesTo_0 : decode cX11_movesTo 0 = .ok (.aload_n 0, 1) := by decide +kernel
theorem dX11_movesTo_1 : decode cX11_movesTo 1 = .ok (.getfield 134, 3) := by decide +kernel
theorem dX11_movesTo_4 : decode cX11_movesTo 4 = .ok (.aload_n 0, 1) := by decide +kernel
theorem dX11_movesTo_5 : decode cX11_movesTo 5 = .ok (.getfield 137, 3) := by decide +kernel
theorem dX11_movesTo_8 : decode cX11_movesTo 8 = .ok (.ifCond .eq 12, 3) := by decide +kernel
theorem dX11_movesTo_11 : decode cX11_movesTo 11 = .ok (.aload_n 0, 1) := by decide +kernel
theorem dX11_movesTo_12 : decode cX11_movesTo 12 = .ok (.iconst 1, 1) := by decide +kernel
theorem dX11_movesTo_13 : decode cX11_movesTo 13 = .ok (.invokevirtual 140, 3) := by decide +kernel
theorem dX11_movesTo_16 : decode cX11_movesTo 16 = .ok (.ineg, 1) := by decide +kernel
theorem dX11_movesTo_17 : decode cX11_movesTo 17 = .ok (.goto 8, 3) := by decide +kernel
theorem dX11_movesTo_20 : decode cX11_movesTo 20 = .ok (.aload_n 0, 1) := by decide +kernel
theorem dX11_movesTo_21 : decode cX11_movesTo 21 = .ok (.iconst 1, 1) := by decide +kernel
theorem dX11_movesTo_22 : decode cX11_movesTo 22 = .ok (.invokevirtual 140, 3) := by decide +kernel
theorem dX11_movesTo_25 : decode cX11_movesTo 25 = .ok (.iadd, 1) := by decide +kernel
theorem dX11_movesTo_26 : decode cX11_movesTo 26 = .ok (.istore_n 1, 1) := by decide +kernel
theorem dX11_movesTo_27 : decode cX11_movesTo 27 = .ok (.aload_n 0, 1) := by decide +kernel
theorem dX11_movesTo_28 : decode cX11_movesTo 28 = .ok (.getfield 144, 3) := by decide +kernel
theorem dX11_movesTo_31 : decode cX11_movesTo 31 = .ok (.aload_n 0, 1) := by decide +kernel
theorem dX11_movesTo_32 : decode cX11_movesTo 32 = .ok (.iconst 2, 1) := by decide +kernel
theorem dX11_movesTo_33 : decode cX11_movesTo 33 = .ok (.invokevirtual 140, 3) := by decide +kernel
theorem dX11_movesTo_36 : decode cX11_movesTo 36 = .ok (.iadd, 1) := by decide +kernel
theorem dX11_movesTo_37 : decode cX11_movesTo 37 = .ok (.istore_n 2, 1) := by decide +kernel
theorem dX11_movesTo_38 : decode cX11_movesTo 38 = .ok (.iload_n 1, 1) := by decide +kernel
theorem dX11_movesTo_39 : decode cX11_movesTo 39 = .ok (.bipush (-100), 2) := by decide +kernel
theorem dX11_movesTo_41 : decode cX11_movesTo 41 = .ok (.bipush 100, 2) := by decide +kernel
theorem dX11_movesTo_43 : decode cX11_movesTo 43 = .ok (.invokestatic 147, 3) := by decide +kernel
theorem dX11_movesTo_46 : decode cX11_movesTo 46 = .ok (.ifCond .eq 14, 3) := by decide +kernel
theorem dX11_movesTo_49 : decode cX11_movesTo 49 = .ok (.iload_n 2, 1) := by decide +kernel
theorem dX11_movesTo_50 : decode cX11_movesTo 50 = .ok (.bipush (-100), 2) := by decide +kernel
theorem dX11_movesTo_52 : decode cX11_movesTo 52 = .ok (.bipush 100, 2) := by decide +kernel
theorem dX11_movesTo_54 : decode cX11_movesTo 54 = .ok (.invokestatic 147, 3) := by decide +kernel
theorem dX11_movesTo_57 : decode cX11_movesTo 57 = .ok (.ifCond .ne 5, 3) := by decide +kernel
theorem dX11_movesTo_60 : decode cX11_movesTo 60 = .ok (.iconst 0, 1) := by decide +kernel
theorem dX11_movesTo_61 : decode cX11_movesTo 61 = .ok (.ireturn, 1) := by decide +kernel
theorem dX11_movesTo_62 : decode cX11_movesTo 62 = .ok (.aload_n 0, 1) := by decide +kernel
theorem dX11_movesTo_63 : decode cX11_movesTo 63 = .ok (.iload_n 1, 1) := by decide +kernel
theorem dX11_movesTo_64 : decode cX11_movesTo 64 = .ok (.putfield 134, 3) := by decide +kernel
theorem dX11_movesTo_67 : decode cX11_movesTo 67 = .ok (.aload_n 0, 1) := by decide +kernel
theorem dX11_movesTo_68 : decode cX11_movesTo 68 = .ok (.iload_n 2, 1) := by decide +kernel
theorem dX11_movesTo_69 : decode cX11_movesTo 69 = .ok (.putfield 144, 3) := by decide +kernel
theorem dX11_movesTo_72 : decode cX11_movesTo 72 = .ok (.aload_n 0, 1) := by decide +kernel
theorem dX11_movesTo_73 : decode cX11_movesTo 73 = .ok (.dup, 1) := by decide +kernel
theorem dX11_movesTo_74 : decode cX11_movesTo 74 = .ok (.getfield 128, 3) := by decide +kernel
theorem dX11_movesTo_77 : decode cX11_movesTo 77 = .ok (.iconst 3, 1) := by decide +kernel
theorem dX11_movesTo_78 : decode cX11_movesTo 78 = .ok (.iadd, 1) := by decide +kernel
theorem dX11_movesTo_79 : decode cX11_movesTo 79 = .ok (.putfield 128, 3) := by decide +kernel
theorem dX11_movesTo_82 : decode cX11_movesTo 82 = .ok (.iconst 1, 1) := by decide +kernel
theorem dX11_movesTo_83 : decode cX11_movesTo 83 = .ok (.ireturn, 1) := by decide +kernel
set_option maxRecDepth 20000 in
theorem ggX11_loops_X11_number : GoodIn wsX11_loops wsX11_number := goodIn_r _ [9, 10, 11, 3, 15, 16, 17, 18, 19, 20, 21, 22, 23, 24, 25, 26, 27, 28, 29, 30, 31, 32, 33, 34, 35, 36, 37, 38, 39, 40, 41, 42, 43, 44, 45, 46, 47, 48, 49, 50, 51, 52, 53, 54, 55, 56, 57, 58, 59, 60, 61, 62, 63, 64, 65, 66, 67, 68, 69, 70, 71, 72, 73, 74, 75, 76] (by decide +kernel) (by decide +kernel)
set_option maxRecDepth 20000 in
theorem gX11_loops_X11_number : GoodIn wsX11_loops (wsV RX11 140 RX11 yX11_number wsX11_number) := goodIn_app (goodIn_of _ (by decide +kernel)) ggX11_loops_X11_number
set_option maxRecDepth 20000 in
theorem ggX11_loops_X11_in : GoodIn wsX11_loops wsX11_in := goodIn_r _ [14] (by decide +kernel) (by decide +kernel)
set_option maxRecDepth 20000 in
theorem gX11_loops_X11_in : GoodIn wsX11_loops (va_wsS RX11 147 yX11_in wsX11_in) := goodIn_app (goodIn_of _ (by decide +kernel)) ggX11_loops_X11_in
theorem dX11_loops_0 : decode cX11_loops 0 = .ok (.aload_n 0, 1) := by decide +kernel
theorem dX11_loops_1 : decode cX11_loops 1 = .ok (.iconst 1, 1) := by decide +kernel
theorem dX11_loops_2 : decode cX11_loops 2 = .ok (.invokevirtual 140, 3) := by decide +kernel
theorem dX11_loops_5 : decode cX11_loops 5 = .ok (.iconst 1, 1) := by decide +kernel
theorem dX11_loops_6 : decode cX11_loops 6 = .ok (.bipush 9, 2) := by decide +kernel
theorem dX11_loops_8 : decode cX11_loops 8 = .ok (.invokestatic 147, 3) := by decide +kernel
theorem dX11_loops_11 : decode cX11_loops 11 = .ok (.ifCond .eq 11, 3) := by decide +kernel
theorem dX11_loops_14 : decode cX11_loops 14 = .ok (.aload_n 0, 1) := by decide +kernel
theorem dX11_loops_15 : decode cX11_loops 15 = .ok (.getfield 154, 3) := by decide +kernel
theorem dX11_loops_18 : decode cX11_loops 18 = .ok (.iconst 3, 1) := by decide +kernel
theorem dX11_loops_19 : decode cX11_loops 19 = .ok (.if_icmp .ne 5, 3) := by decide +kernel
theorem dX11_loops_22 : decode cX11_loops 22 = .ok (.iconst 0, 1) := by decide +kernel
theorem dX11_loops_23 : decode cX11_loops 23 = .ok (.ireturn, 1) := by decide +kernel
theorem dX11_loops_24 : decode cX11_loops 24 = .ok (.aload_n 0, 1) := by decide +kernel
theorem dX11_loops_25 : decode cX11_loops 25 = .ok (.getfield 82, 3) := by decide +kernel
theorem dX11_loops_28 : decode cX11_loops 28 = .ok (.aload_n 0, 1) := by decide +kernel
theorem dX11_loops_29 : decode cX11_loops 29 = .ok (.getfield 154, 3) := by decide +kernel
theorem dX11_loops_32 : decode cX11_loops 32 = .ok (.aload_n 0, 1) := by decide +kernel
theorem dX11_loops_33 : decode cX11_loops 33 = .ok (.getfield 128, 3) := by decide +kernel
theorem dX11_loops_36 : decode cX11_loops 36 = .ok (.iconst 2, 1) := by decide +kernel
theorem dX11_loops_37 : decode cX11_loops 37 = .ok (.iadd, 1) := by decide +kernel
theorem dX11_loops_38 : decode cX11_loops 38 = .ok (.iastore, 1) := by decide +kernel
theorem dX11_loops_39 : decode cX11_loops 39 = .ok (.aload_n 0, 1) := by decide +kernel
theorem dX11_loops_40 : decode cX11_loops 40 = .ok (.getfield 85, 3) := by decide +kernel
theorem dX11_loops_43 : decode cX11_loops 43 = .ok (.aload_n 0, 1) := by decide +kernel
theorem dX11_loops_44 : decode cX11_loops 44 = .ok (.getfield 154, 3) := by decide +kernel
theorem dX11_loops_47 : decode cX11_loops 47 = .ok (.aload_n 0, 1) := by decide +kernel
theorem dX11_loops_48 : decode cX11_loops 48 = .ok (.iconst 1, 1) := by decide +kernel
theorem dX11_loops_49 : decode cX11_loops 49 = .ok (.invokevirtual 140, 3) := by decide +kernel
theorem dX11_loops_52 : decode cX11_loops 52 = .ok (.iconst 1, 1) := by decide +kernel
theorem dX11_loops_53 : decode cX11_loops 53 = .ok (.isub, 1) := by decide +kernel
theorem dX11_loops_54 : decode cX11_loops 54 = .ok (.iastore, 1) := by decide +kernel
theorem dX11_loops_55 : decode cX11_loops 55 = .ok (.aload_n 0, 1) := by decide +kernel
theorem dX11_loops_56 : decode cX11_loops 56 = .ok (.dup, 1) := by decide +kernel
theorem dX11_loops_57 : decode cX11_loops 57 = .ok (.getfield 154, 3) := by decide +kernel
theorem dX11_loops_60 : decode cX11_loops 60 = .ok (.iconst 1, 1) := by decide +kernel
theorem dX11_loops_61 : decode cX11_loops 61 = .ok (.iadd, 1) := by decide +kernel
theorem dX11_loops_62 : decode cX11_loops 62 = .ok (.putfield 154, 3) := by decide +kernel
theorem dX11_loops_65 : decode cX11_loops 65 = .ok (.aload_n 0, 1) := by decide +kernel
theorem dX11_loops_66 : decode cX11_loops 66 = .ok (.dup, 1) := by decide +kernel
theorem dX11_loops_67 : decode cX11_loops 67 = .ok (.getfield 128, 3) := by decide +kernel
theorem dX11_loops_70 : decode cX11_loops 70 = .ok (.iconst 2, 1) := by decide +kernel
theorem dX11_loops_71 : decode cX11_loops 71 = .ok (.iadd, 1) := by decide +kernel
theorem dX11_loops_72 : decode cX11_loops 72 = .ok (.putfield 128, 3) := by decide +kernel
theorem dX11_loops_75 : decode cX11_loops 75 = .ok (.iconst 1, 1) := by decide +kernel
theorem dX11_loops_76 : decode cX11_loops 76 = .ok (.ireturn, 1) := by decide +kernel
theorem dX11_goesRound_0 : decode cX11_goesRound 0 = .ok (.aload_n 0, 1) := by decide +kernel
theorem dX11_goesRound_1 : decode cX11_goesRound 1 = .ok (.getfield 154, 3) := by decide +kernel
theorem dX11_goesRound_4 : decode cX11_goesRound 4 = .ok (.ifCond .ne 5, 3) := by decide +kernel
theorem dX11_goesRound_7 : decode cX11_goesRound 7 = .ok (.iconst 0, 1) := by decide +kernel
theorem dX11_goesRound_8 : decode cX11_goesRound 8 = .ok (.ireturn, 1) := by decide +kernel
theorem dX11_goesRound_9 : decode cX11_goesRound 9 = .ok (.aload_n 0, 1) := by decide +kernel
theorem dX11_goesRound_10 : decode cX11_goesRound 10 = .ok (.getfield 85, 3) := by decide +kernel
theorem dX11_goesRound_13 : decode cX11_goesRound 13 = .ok (.aload_n 0, 1) := by decide +kernel
theorem dX11_goesRound_14 : decode cX11_goesRound 14 = .ok (.getfield 154, 3) := by decide +kernel
theorem dX11_goesRound_17 : decode cX11_goesRound 17 = .ok (.iconst 1, 1) := by decide +kernel
theorem dX11_goesRound_18 : decode cX11_goesRound 18 = .ok (.isub, 1) := by decide +kernel
theorem dX11_goesRound_19 : decode cX11_goesRound 19 = .ok (.iaload, 1) := by decide +kernel
theorem dX11_goesRound_20 : decode cX11_goesRound 20 = .ok (.ifCond .le 36, 3) := by decide +kernel
theorem dX11_goesRound_23 : decode cX11_goesRound 23 = .ok (.aload_n 0, 1) := by decide +kernel
theorem dX11_goesRound_24 : decode cX11_goesRound 24 = .ok (.getfield 85, 3) := by decide +kernel
theorem dX11_goesRound_27 : decode cX11_goesRound 27 = .ok (.aload_n 0, 1) := by decide +kernel
theorem dX11_goesRound_28 : decode cX11_goesRound 28 = .ok (.getfield 154, 3) := by decide +kernel
theorem dX11_goesRound_31 : decode cX11_goesRound 31 = .ok (.iconst 1, 1) := by decide +kernel
theorem dX11_goesRound_32 : decode cX11_goesRound 32 = .ok (.isub, 1) := by decide +kernel
theorem dX11_goesRound_33 : decode cX11_goesRound 33 = .ok (.dup2, 1) := by decide +kernel
theorem dX11_goesRound_34 : decode cX11_goesRound 34 = .ok (.iaload, 1) := by decide +kernel
theorem dX11_goesRound_35 : decode cX11_goesRound 35 = .ok (.iconst 1, 1) := by decide +kernel
theorem dX11_goesRound_36 : decode cX11_goesRound 36 = .ok (.isub, 1) := by decide +kernel
theorem dX11_goesRound_37 : decode cX11_goesRound 37 = .ok (.iastore, 1) := by decide +kernel
theorem dX11_goesRound_38 : decode cX11_goesRound 38 = .ok (.aload_n 0, 1) := by decide +kernel
theorem dX11_goesRound_39 : decode cX11_goesRound 39 = .ok (.aload_n 0, 1) := by decide +kernel
theorem dX11_goesRound_40 : decode cX11_goesRound 40 = .ok (.getfield 82, 3) := by decide +kernel
theorem dX11_goesRound_43 : decode cX11_goesRound 43 = .ok (.aload_n 0, 1) := by decide +kernel
theorem dX11_goesRound_44 : decode cX11_goesRound 44 = .ok (.getfield 154, 3) := by decide +kernel
theorem dX11_goesRound_47 : decode cX11_goesRound 47 = .ok (.iconst 1, 1) := by decide +kernel
theorem dX11_goesRound_48 : decode cX11_goesRound 48 = .ok (.isub, 1) := by decide +kernel
theorem dX11_goesRound_49 : decode cX11_goesRound 49 = .ok (.iaload, 1) := by decide +kernel
theorem dX11_goesRound_50 : decode cX11_goesRound 50 = .ok (.putfield 128, 3) := by decide +kernel
theorem dX11_goesRound_53 : decode cX11_goesRound 53 = .ok (.goto 23, 3) := by decide +kernel
theorem dX11_goesRound_56 : decode cX11_goesRound 56 = .ok (.aload_n 0, 1) := by decide +kernel
theorem dX11_goesRound_57 : decode cX11_goesRound 57 = .ok (.dup, 1) := by decide +kernel
theorem dX11_goesRound_58 : decode cX11_goesRound 58 = .ok (.getfield 154, 3) := by decide +kernel
theorem dX11_goesRound_61 : decode cX11_goesRound 61 = .ok (.iconst 1, 1) := by decide +kernel
theorem dX11_goesRound_62 : decode cX11_goesRound 62 = .ok (.isub, 1) := by decide +kernel
theorem dX11_goesRound_63 : decode cX11_goesRound 63 = .ok (.putfield 154, 3) := by decide +kernel
theorem dX11_goesRound_66 : decode cX11_goesRound 66 = .ok (.aload_n 0, 1) := by decide +kernel
theorem dX11_goesRound_67 : decode cX11_goesRound 67 = .ok (.dup, 1) := by decide +kernel
theorem dX11_goesRound_68 : decode cX11_goesRound 68 = .ok (.getfield 128, 3) := by decide +kernel
theorem dX11_goesRound_71 : decode cX11_goesRound 71 = .ok (.iconst 1, 1) := by decide +kernel
theorem dX11_goesRound_72 : decode cX11_goesRound 72 = .ok (.iadd, 1) := by decide +kernel
theorem dX11_goesRound_73 : decode cX11_goesRound 73 = .ok (.putfield 128, 3) := by decide +kernel
theorem dX11_goesRound_76 : decode cX11_goesRound 76 = .ok (.iconst 1, 1) := by decide +kernel
theorem dX11_goesRound_77 : decode cX11_goesRound 77 = .ok (.ireturn, 1) := by decide +kernel
set_option maxRecDepth 20000 in
theorem ggX11_does_X11_number : GoodIn wsX11_does wsX11_number := goodIn_r _ [12, 13, 14, 6, 45, 46, 47, 48, 49, 50, 51, 52, 53, 54, 55, 56, 57, 58, 59, 60, 61, 62, 63, 64, 65, 66, 67, 68, 69, 70, 71, 72, 73, 74, 75, 76, 77, 78, 79, 80, 81, 82, 83, 84, 85, 86, 87, 88, 89, 90, 91, 92, 93, 94, 95, 96, 97, 98, 99, 100, 101, 102, 103, 104, 105, 106] (by decide +kernel) (by decide +kernel)
set_option maxRecDepth 20000 in
theorem gX11_does_X11_number : GoodIn wsX11_does (wsV RX11 140 RX11 yX11_number wsX11_number) := goodIn_app (goodIn_of _ (by decide +kernel)) ggX11_does_X11_number
set_option maxRecDepth 20000 in
theorem ggX11_does_X11_isLong : GoodIn wsX11_does wsX11_isLong := goodIn_r _ [18, 6, 19, 45, 46, 47, 48, 49, 50, 51, 52, 53, 54, 55, 56, 57, 58, 59, 60, 61, 62, 63, 64, 65, 66, 67, 68, 69, 70, 71, 72, 73, 74, 75, 76, 77, 78, 79, 80, 81, 82, 83, 84, 85, 86, 87, 88, 89, 90, 91, 92, 93, 94, 95, 96, 97, 98, 99, 100, 101, 102, 103, 104, 105, 106] (by decide +kernel) (by decide +kernel)
set_option maxRecDepth 20000 in
theorem gX11_does_X11_isLong : GoodIn wsX11_does (wsV RX11 163 RX11 yX11_isLong wsX11_isLong) := goodIn_app (goodIn_of _ (by decide +kernel)) ggX11_does_X11_isLong
set_option maxRecDepth 20000 in
theorem ggX11_does_X11_standsAt : GoodIn wsX11_does wsX11_standsAt := goodIn_r _ [23, 24, 5, 25, 2, 26, 27, 6, 8, 9, 10, 11, 12, 13, 14, 28, 29, 30, 45, 46, 47, 48, 49, 50, 51, 52, 53, 54, 55, 56, 57, 58, 59, 60, 61, 62, 63, 64, 65, 66, 67, 68, 69, 70, 71, 72, 73, 74, 75, 76, 77, 78, 79, 80, 81, 82, 83, 84, 85, 86, 87, 88, 89, 90, 91, 92, 93, 94, 95, 96, 97, 98, 99, 100, 101, 102, 103, 104, 105, 106] (by decide +kernel) (by decide +kernel)
set_option maxRecDepth 20000 in
theorem gX11_does_X11_standsAt : GoodIn wsX11_does (wsV RX11 167 RX11 yX11_standsAt wsX11_standsAt) := goodIn_app (goodIn_of _ (by decide +kernel)) ggX11_does_X11_standsAt
set_option maxRecDepth 20000 in
theorem ggX11_does_X11_movesTo : GoodIn wsX11_does wsX11_movesTo := goodIn_r _ [34, 24, 5, 25, 6, 8, 9, 10, 11, 12, 13, 14, 28, 29, 30, 45, 46, 47, 48, 49, 50, 51, 52, 53, 54, 55, 56, 57, 58, 59, 60, 61, 62, 63, 64, 65, 66, 67, 68, 69, 70, 71, 72, 73, 74, 75, 76, 77, 78, 79, 80, 81, 82, 83, 84, 85, 86, 87, 88, 89, 90, 91, 92, 93, 94, 95, 96, 97, 98, 99, 100, 101, 102, 103, 104, 105, 106] (by decide +kernel) (by decide +kernel)
set_option maxRecDepth 20000 in
theorem gX11_does_X11_movesTo : GoodIn wsX11_does (wsV RX11 171 RX11 yX11_movesTo wsX11_movesTo) := goodIn_app (goodIn_of _ (by decide +kernel)) ggX11_does_X11_movesTo
set_option maxRecDepth 20000 in
theorem ggX11_does_X11_loops : GoodIn wsX11_does wsX11_loops := goodIn_r _ [38, 1, 39, 6, 40, 8, 9, 10, 11, 12, 13, 14, 28, 29, 30, 45, 46, 47, 48, 49, 50, 51, 52, 53, 54, 55, 56, 57, 58, 59, 60, 61, 62, 63, 64, 65, 66, 67, 68, 69, 70, 71, 72, 73, 74, 75, 76, 77, 78, 79, 80, 81, 82, 83, 84, 85, 86, 87, 88, 89, 90, 91, 92, 93, 94, 95, 96, 97, 98, 99, 100, 101, 102, 103, 104, 105, 106] (by decide +kernel) (by decide +kernel)
set_option maxRecDepth 20000 in
theorem gX11_does_X11_loops : GoodIn wsX11_does (wsV RX11 174 RX11 yX11_loops wsX11_loops) := goodIn_app (goodIn_of _ (by decide +kernel)) ggX11_does_X11_loops
set_option maxRecDepth 20000 in
theorem ggX11_does_X11_goesRound : GoodIn wsX11_does wsX11_goesRound := goodIn_r _ [44, 1, 40, 39, 6, 45, 46, 47, 48, 49, 50, 51, 52, 53, 54, 55, 56, 57, 58, 59, 60, 61, 62, 63, 64, 65, 66, 67, 68, 69, 70, 71, 72, 73, 74, 75, 76, 77, 78, 79, 80, 81, 82, 83, 84, 85, 86, 87, 88, 89, 90, 91, 92, 93, 94, 95, 96, 97, 98, 99, 100, 101, 102, 103, 104, 105, 106] (by decide +kernel) (by decide +kernel)
set_option maxRecDepth 20000 in
theorem gX11_does_X11_goesRound : GoodIn wsX11_does (wsV RX11 177 RX11 yX11_goesRound wsX11_goesRound) := goodIn_app (goodIn_of _ (by decide +kernel)) ggX11_does_X11_goesRound
set_option maxRecDepth 20000 in
theorem ggX11_does_X11_in : GoodIn wsX11_does wsX11_in := goodIn_r _ [30] (by decide +kernel) (by decide +kernel)
set_option maxRecDepth 20000 in
theorem gX11_does_X11_in : GoodIn wsX11_does (va_wsS RX11 147 yX11_in wsX11_in) := goodIn_app (goodIn_of _ (by decide +kernel)) ggX11_does_X11_in
theorem dX11_does_0 : decode cX11_does 0 = .ok (.aload_n 0, 1) := by decide +kernel
theorem dX11_does_1 : decode cX11_does 1 = .ok (.iconst 0, 1) := by decide +kernel
theorem dX11_does_2 : decode cX11_does 2 = .ok (.invokevirtual 140, 3) := by decide +kernel
theorem dX11_does_5 : decode cX11_does 5 = .ok (.tableswitch 225 0 6 #[43, 78, 99, 120, 148, 169, 174], 43) := by decide +kernel
theorem dX11_does_48 : decode cX11_does 48 = .ok (.aload_n 0, 1) := by decide +kernel
theorem dX11_does_49 : decode cX11_does 49 = .ok (.aload_n 0, 1) := by decide +kernel
theorem dX11_does_50 : decode cX11_does 50 = .ok (.getfield 154, 3) := by decide +kernel
theorem dX11_does_53 : decode cX11_does 53 = .ok (.ifCond .ne 21, 3) := by decide +kernel
theorem dX11_does_56 : decode cX11_does 56 = .ok (.aload_n 0, 1) := by decide +kernel
theorem dX11_does_57 : decode cX11_does 57 = .ok (.getfield 151, 3) := by decide +kernel
theorem dX11_does_60 : decode cX11_does 60 = .ok (.ifCond .le 14, 3) := by decide +kernel
theorem dX11_does_63 : decode cX11_does 63 = .ok (.aload_n 0, 1) := by decide +kernel
theorem dX11_does_64 : decode cX11_does 64 = .ok (.getfield 157, 3) := by decide +kernel
theorem dX11_does_67 : decode cX11_does 67 = .ok (.ifCond .eq 7, 3) := by decide +kernel
theorem dX11_does_70 : decode cX11_does 70 = .ok (.iconst 1, 1) := by decide +kernel
theorem dX11_does_71 : decode cX11_does 71 = .ok (.goto 4, 3) := by decide +kernel
theorem dX11_does_74 : decode cX11_does 74 = .ok (.iconst 0, 1) := by decide +kernel
theorem dX11_does_75 : decode cX11_does 75 = .ok (.putfield 160, 3) := by decide +kernel
theorem dX11_does_78 : decode cX11_does 78 = .ok (.aload_n 0, 1) := by decide +kernel
theorem dX11_does_79 : decode cX11_does 79 = .ok (.getfield 160, 3) := by decide +kernel
theorem dX11_does_82 : decode cX11_does 82 = .ok (.ireturn, 1) := by decide +kernel
theorem dX11_does_83 : decode cX11_does 83 = .ok (.aload_n 0, 1) := by decide +kernel
theorem dX11_does_84 : decode cX11_does 84 = .ok (.iconst 2, 1) := by decide +kernel
theorem dX11_does_85 : decode cX11_does 85 = .ok (.invokevirtual 163, 3) := by decide +kernel
theorem dX11_does_88 : decode cX11_does 88 = .ok (.ifCond .eq 14, 3) := by decide +kernel
theorem dX11_does_91 : decode cX11_does 91 = .ok (.aload_n 0, 1) := by decide +kernel
theorem dX11_does_92 : decode cX11_does 92 = .ok (.invokevirtual 167, 3) := by decide +kernel
theorem dX11_does_95 : decode cX11_does 95 = .ok (.ifCond .eq 7, 3) := by decide +kernel
theorem dX11_does_98 : decode cX11_does 98 = .ok (.iconst 1, 1) := by decide +kernel
theorem dX11_does_99 : decode cX11_does 99 = .ok (.goto 4, 3) := by decide +kernel
theorem dX11_does_102 : decode cX11_does 102 = .ok (.iconst 0, 1) := by decide +kernel
theorem dX11_does_103 : decode cX11_does 103 = .ok (.ireturn, 1) := by decide +kernel
theorem dX11_does_104 : decode cX11_does 104 = .ok (.aload_n 0, 1) := by decide +kernel
theorem dX11_does_105 : decode cX11_does 105 = .ok (.iconst 2, 1) := by decide +kernel
theorem dX11_does_106 : decode cX11_does 106 = .ok (.invokevirtual 163, 3) := by decide +kernel
theorem dX11_does_109 : decode cX11_does 109 = .ok (.ifCond .eq 14, 3) := by decide +kernel
theorem dX11_does_112 : decode cX11_does 112 = .ok (.aload_n 0, 1) := by decide +kernel
theorem dX11_does_113 : decode cX11_does 113 = .ok (.invokevirtual 171, 3) := by decide +kernel
theorem dX11_does_116 : decode cX11_does 116 = .ok (.ifCond .eq 7, 3) := by decide +kernel
theorem dX11_does_119 : decode cX11_does 119 = .ok (.iconst 1, 1) := by decide +kernel
theorem dX11_does_120 : decode cX11_does 120 = .ok (.goto 4, 3) := by decide +kernel
theorem dX11_does_123 : decode cX11_does 123 = .ok (.iconst 0, 1) := by decide +kernel
theorem dX11_does_124 : decode cX11_does 124 = .ok (.ireturn, 1) := by decide +kernel
theorem dX11_does_125 : decode cX11_does 125 = .ok (.aload_n 0, 1) := by decide +kernel
theorem dX11_does_126 : decode cX11_does 126 = .ok (.aload_n 0, 1) := by decide +kernel
theorem dX11_does_127 : decode cX11_does 127 = .ok (.getfield 137, 3) := by decide +kernel
theorem dX11_does_130 : decode cX11_does 130 = .ok (.ifCond .ne 7, 3) := by decide +kernel
theorem dX11_does_133 : decode cX11_does 133 = .ok (.iconst 1, 1) := by decide +kernel
theorem dX11_does_134 : decode cX11_does 134 = .ok (.goto 4, 3) := by decide +kernel
theorem dX11_does_137 : decode cX11_does 137 = .ok (.iconst 0, 1) := by decide +kernel
theorem dX11_does_138 : decode cX11_does 138 = .ok (.putfield 137, 3) := by decide +kernel
theorem dX11_does_141 : decode cX11_does 141 = .ok (.aload_n 0, 1) := by decide +kernel
theorem dX11_does_142 : decode cX11_does 142 = .ok (.dup, 1) := by decide +kernel
theorem dX11_does_143 : decode cX11_does 143 = .ok (.getfield 128, 3) := by decide +kernel
theorem dX11_does_146 : decode cX11_does 146 = .ok (.iconst 1, 1) := by decide +kernel
theorem dX11_does_147 : decode cX11_does 147 = .ok (.iadd, 1) := by decide +kernel
theorem dX11_does_148 : decode cX11_does 148 = .ok (.putfield 128, 3) := by decide +kernel
theorem dX11_does_151 : decode cX11_does 151 = .ok (.iconst 1, 1) := by decide +kernel
theorem dX11_does_152 : decode cX11_does 152 = .ok (.ireturn, 1) := by decide +kernel
theorem dX11_does_153 : decode cX11_does 153 = .ok (.aload_n 0, 1) := by decide +kernel
theorem dX11_does_154 : decode cX11_does 154 = .ok (.iconst 1, 1) := by decide +kernel
theorem dX11_does_155 : decode cX11_does 155 = .ok (.invokevirtual 163, 3) := by decide +kernel
theorem dX11_does_158 : decode cX11_does 158 = .ok (.ifCond .eq 14, 3) := by decide +kernel
theorem dX11_does_161 : decode cX11_does 161 = .ok (.aload_n 0, 1) := by decide +kernel
theorem dX11_does_162 : decode cX11_does 162 = .ok (.invokevirtual 174, 3) := by decide +kernel
theorem dX11_does_165 : decode cX11_does 165 = .ok (.ifCond .eq 7, 3) := by decide +kernel
theorem dX11_does_168 : decode cX11_does 168 = .ok (.iconst 1, 1) := by decide +kernel
theorem dX11_does_169 : decode cX11_does 169 = .ok (.goto 4, 3) := by decide +kernel
theorem dX11_does_172 : decode cX11_does 172 = .ok (.iconst 0, 1) := by decide +kernel
theorem dX11_does_173 : decode cX11_does 173 = .ok (.ireturn, 1) := by decide +kernel
theorem dX11_does_174 : decode cX11_does 174 = .ok (.aload_n 0, 1) := by decide +kernel
theorem dX11_does_175 : decode cX11_does 175 = .ok (.invokevirtual 177, 3) := by decide +kernel
theorem dX11_does_178 : decode cX11_does 178 = .ok (.ireturn, 1) := by decide +kernel
theorem dX11_does_179 : decode cX11_does 179 = .ok (.aload_n 0, 1) := by decide +kernel
theorem dX11_does_180 : decode cX11_does 180 = .ok (.iconst 1, 1) := by decide +kernel
theorem dX11_does_181 : decode cX11_does 181 = .ok (.invokevirtual 163, 3) := by decide +kernel
theorem dX11_does_184 : decode cX11_does 184 = .ok (.ifCond .eq 18, 3) := by decide +kernel
theorem dX11_does_187 : decode cX11_does 187 = .ok (.aload_n 0, 1) := by decide +kernel
theorem dX11_does_188 : decode cX11_does 188 = .ok (.iconst 1, 1) := by decide +kernel
theorem dX11_does_189 : decode cX11_does 189 = .ok (.invokevirtual 140, 3) := by decide +kernel
theorem dX11_does_192 : decode cX11_does 192 = .ok (.bipush (-100), 2) := by decide +kernel
theorem dX11_does_194 : decode cX11_does 194 = .ok (.bipush 100, 2) := by decide +kernel
theorem dX11_does_196 : decode cX11_does 196 = .ok (.invokestatic 147, 3) := by decide +kernel
theorem dX11_does_199 : decode cX11_does 199 = .ok (.ifCond .ne 5, 3) := by decide +kernel
theorem dX11_does_202 : decode cX11_does 202 = .ok (.iconst 0, 1) := by decide +kernel
theorem dX11_does_203 : decode cX11_does 203 = .ok (.ireturn, 1) := by decide +kernel
theorem dX11_does_204 : decode cX11_does 204 = .ok (.aload_n 0, 1) := by decide +kernel
theorem dX11_does_205 : decode cX11_does 205 = .ok (.aload_n 0, 1) := by decide +kernel
theorem dX11_does_206 : decode cX11_does 206 = .ok (.iconst 1, 1) := by decide +kernel
theorem dX11_does_207 : decode cX11_does 207 = .ok (.invokevirtual 140, 3) := by decide +kernel
theorem dX11_does_210 : decode cX11_does 210 = .ok (.putfield 180, 3) := by decide +kernel
theorem dX11_does_213 : decode cX11_does 213 = .ok (.aload_n 0, 1) := by decide +kernel
theorem dX11_does_214 : decode cX11_does 214 = .ok (.iconst 1, 1) := by decide +kernel
theorem dX11_does_215 : decode cX11_does 215 = .ok (.putfield 157, 3) := by decide +kernel
theorem dX11_does_218 : decode cX11_does 218 = .ok (.aload_n 0, 1) := by decide +kernel
theorem dX11_does_219 : decode cX11_does 219 = .ok (.dup, 1) := by decide +kernel
theorem dX11_does_220 : decode cX11_does 220 = .ok (.getfield 128, 3) := by decide +kernel
theorem dX11_does_223 : decode cX11_does 223 = .ok (.iconst 2, 1) := by decide +kernel
theorem dX11_does_224 : decode cX11_does 224 = .ok (.iadd, 1) := by decide +kernel
theorem dX11_does_225 : decode cX11_does 225 = .ok (.putfield 128, 3) := by decide +kernel
theorem dX11_does_228 : decode cX11_does 228 = .ok (.iconst 1, 1) := by decide +kernel
theorem dX11_does_229 : decode cX11_does 229 = .ok (.ireturn, 1) := by decide +kernel
theorem dX11_does_230 : decode cX11_does 230 = .ok (.iconst 0, 1) := by decide +kernel
theorem dX11_does_231 : decode cX11_does 231 = .ok (.ireturn, 1) := by decide +kernel
set_option maxRecDepth 20000 in
theorem ggX11_read_X11_isTape : GoodIn wsX11_read wsX11_isTape := goodIn_r _ [23, 24, 25, 22, 26] (by decide +kernel) (by decide +kernel)
set_option maxRecDepth 20000 in
theorem gX11_read_X11_isTape : GoodIn wsX11_read (va_wsS RX11 183 yX11_isTape wsX11_isTape) := goodIn_app (goodIn_of _ (by decide +kernel)) ggX11_read_X11_isTape
set_option maxRecDepth 20000 in
theorem ggX11_read_X11_refuse : GoodIn wsX11_read wsX11_refuse := goodIn_r _ [30, 31, 63, 64, 65, 66, 67, 68, 69, 70, 71, 72, 73, 74, 75, 76, 77, 78, 79, 80, 81, 82, 83, 84, 85, 86, 87, 88, 89, 90, 91, 92, 93, 94, 95, 96, 97, 98, 99, 100, 101, 102, 103, 104, 105, 106, 107, 108, 109, 110, 111, 112, 113, 114, 115, 116, 117, 118, 119, 120, 121, 122, 123, 124] (by decide +kernel) (by decide +kernel)
set_option maxRecDepth 20000 in
theorem gX11_read_X11_refuse : GoodIn wsX11_read (wsV RX11 186 RX11 yX11_refuse wsX11_refuse) := goodIn_app (goodIn_of _ (by decide +kernel)) ggX11_read_X11_refuse
set_option maxRecDepth 20000 in
theorem ggX11_read_X11_does : GoodIn wsX11_read wsX11_does := goodIn_r _ [35, 11, 6, 10, 12, 9, 5, 14, 36, 37, 38, 22, 39, 40, 2, 41, 42, 43, 44, 4, 45, 46, 47, 48, 7, 8, 17, 19, 24, 25, 26, 49, 50, 51, 52, 53, 54, 55, 56, 57, 58, 59, 60, 61, 62, 63, 64, 65, 66, 67, 68, 69, 70, 71, 72, 73, 74, 75, 76, 77, 78, 79, 80, 81, 82, 83, 84, 85, 86, 87, 88, 89, 90, 91, 92, 93, 94, 95, 96, 97, 98, 99, 100, 101, 102, 103, 104, 105, 106, 107, 108, 109, 110, 111, 112, 113, 114, 115, 116, 117, 118, 119, 120, 121, 122, 123, 124] (by decide +kernel) (by decide +kernel)
set_option maxRecDepth 20000 in
theorem gX11_read_X11_does : GoodIn wsX11_read (wsV RX11 189 RX11 yX11_does wsX11_does) := goodIn_app (goodIn_of _ (by decide +kernel)) ggX11_read_X11_does
theorem dX11_read_0 : decode cX11_read 0 = .ok (.iload_n 1, 1) := by decide +kernel
theorem dX11_read_1 : decode cX11_read 1 = .ok (.invokestatic 183, 3) := by decide +kernel
theorem dX11_read_4 : decode cX11_read 4 = .ok (.ifCond .ne 5, 3) := by decide +kernel
theorem dX11_read_7 : decode cX11_read 7 = .ok (.iconst (-1), 1) := by decide +kernel
theorem dX11_read_8 : decode cX11_read 8 = .ok (.ireturn, 1) := by decide +kernel
theorem dX11_read_9 : decode cX11_read 9 = .ok (.aload_n 0, 1) := by decide +kernel
theorem dX11_read_10 : decode cX11_read 10 = .ok (.getfield 66, 3) := by decide +kernel
theorem dX11_read_13 : decode cX11_read 13 = .ok (.iload_n 1, 1) := by decide +kernel
theorem dX11_read_14 : decode cX11_read 14 = .ok (.iaload, 1) := by decide +kernel
theorem dX11_read_15 : decode cX11_read 15 = .ok (.ifCond .ne 10, 3) := by decide +kernel
theorem dX11_read_18 : decode cX11_read 18 = .ok (.aload_n 0, 1) := by decide +kernel
theorem dX11_read_19 : decode cX11_read 19 = .ok (.bipush (-11), 2) := by decide +kernel
theorem dX11_read_21 : decode cX11_read 21 = .ok (.invokevirtual 186, 3) := by decide +kernel
theorem dX11_read_24 : decode cX11_read 24 = .ok (.ireturn, 1) := by decide +kernel
theorem dX11_read_25 : decode cX11_read 25 = .ok (.aload_n 0, 1) := by decide +kernel
theorem dX11_read_26 : decode cX11_read 26 = .ok (.getfield 66, 3) := by decide +kernel
theorem dX11_read_29 : decode cX11_read 29 = .ok (.iload_n 1, 1) := by decide +kernel
theorem dX11_read_30 : decode cX11_read 30 = .ok (.iaload, 1) := by decide +kernel
theorem dX11_read_31 : decode cX11_read 31 = .ok (.iconst 1, 1) := by decide +kernel
theorem dX11_read_32 : decode cX11_read 32 = .ok (.if_icmp .eq 10, 3) := by decide +kernel
theorem dX11_read_35 : decode cX11_read 35 = .ok (.aload_n 0, 1) := by decide +kernel
theorem dX11_read_36 : decode cX11_read 36 = .ok (.bipush (-12), 2) := by decide +kernel
theorem dX11_read_38 : decode cX11_read 38 = .ok (.invokevirtual 186, 3) := by decide +kernel
theorem dX11_read_41 : decode cX11_read 41 = .ok (.ireturn, 1) := by decide +kernel
theorem dX11_read_42 : decode cX11_read 42 = .ok (.aload_n 0, 1) := by decide +kernel
theorem dX11_read_43 : decode cX11_read 43 = .ok (.iload_n 1, 1) := by decide +kernel
theorem dX11_read_44 : decode cX11_read 44 = .ok (.putfield 125, 3) := by decide +kernel
theorem dX11_read_47 : decode cX11_read 47 = .ok (.aload_n 0, 1) := by decide +kernel
theorem dX11_read_48 : decode cX11_read 48 = .ok (.aload_n 0, 1) := by decide +kernel
theorem dX11_read_49 : decode cX11_read 49 = .ok (.getfield 69, 3) := by decide +kernel
theorem dX11_read_52 : decode cX11_read 52 = .ok (.iload_n 1, 1) := by decide +kernel
theorem dX11_read_53 : decode cX11_read 53 = .ok (.iaload, 1) := by decide +kernel
theorem dX11_read_54 : decode cX11_read 54 = .ok (.putfield 131, 3) := by decide +kernel
theorem dX11_read_57 : decode cX11_read 57 = .ok (.aload_n 0, 1) := by decide +kernel
theorem dX11_read_58 : decode cX11_read 58 = .ok (.iconst 0, 1) := by decide +kernel
theorem dX11_read_59 : decode cX11_read 59 = .ok (.putfield 128, 3) := by decide +kernel
theorem dX11_read_62 : decode cX11_read 62 = .ok (.aload_n 0, 1) := by decide +kernel
theorem dX11_read_63 : decode cX11_read 63 = .ok (.iconst 0, 1) := by decide +kernel
theorem dX11_read_64 : decode cX11_read 64 = .ok (.putfield 151, 3) := by decide +kernel
theorem dX11_read_67 : decode cX11_read 67 = .ok (.aload_n 0, 1) := by decide +kernel
theorem dX11_read_68 : decode cX11_read 68 = .ok (.iconst 0, 1) := by decide +kernel
theorem dX11_read_69 : decode cX11_read 69 = .ok (.putfield 134, 3) := by decide +kernel
theorem dX11_read_72 : decode cX11_read 72 = .ok (.aload_n 0, 1) := by decide +kernel
theorem dX11_read_73 : decode cX11_read 73 = .ok (.iconst 0, 1) := by decide +kernel
theorem dX11_read_74 : decode cX11_read 74 = .ok (.putfield 144, 3) := by decide +kernel
theorem dX11_read_77 : decode cX11_read 77 = .ok (.aload_n 0, 1) := by decide +kernel
theorem dX11_read_78 : decode cX11_read 78 = .ok (.iconst 0, 1) := by decide +kernel
theorem dX11_read_79 : decode cX11_read 79 = .ok (.putfield 137, 3) := by decide +kernel
theorem dX11_read_82 : decode cX11_read 82 = .ok (.aload_n 0, 1) := by decide +kernel
theorem dX11_read_83 : decode cX11_read 83 = .ok (.iconst 0, 1) := by decide +kernel
theorem dX11_read_84 : decode cX11_read 84 = .ok (.putfield 157, 3) := by decide +kernel
theorem dX11_read_87 : decode cX11_read 87 = .ok (.aload_n 0, 1) := by decide +kernel
theorem dX11_read_88 : decode cX11_read 88 = .ok (.iconst 0, 1) := by decide +kernel
theorem dX11_read_89 : decode cX11_read 89 = .ok (.putfield 154, 3) := by decide +kernel
theorem dX11_read_92 : decode cX11_read 92 = .ok (.aload_n 0, 1) := by decide +kernel
theorem dX11_read_93 : decode cX11_read 93 = .ok (.iconst 0, 1) := by decide +kernel
theorem dX11_read_94 : decode cX11_read 94 = .ok (.putfield 160, 3) := by decide +kernel
theorem dX11_read_97 : decode cX11_read 97 = .ok (.aload_n 0, 1) := by decide +kernel
theorem dX11_read_98 : decode cX11_read 98 = .ok (.getfield 160, 3) := by decide +kernel
theorem dX11_read_101 : decode cX11_read 101 = .ok (.ifCond .ne 29, 3) := by decide +kernel
theorem dX11_read_104 : decode cX11_read 104 = .ok (.aload_n 0, 1) := by decide +kernel
theorem dX11_read_105 : decode cX11_read 105 = .ok (.getfield 128, 3) := by decide +kernel
theorem dX11_read_108 : decode cX11_read 108 = .ok (.aload_n 0, 1) := by decide +kernel
theorem dX11_read_109 : decode cX11_read 109 = .ok (.getfield 131, 3) := by decide +kernel
theorem dX11_read_112 : decode cX11_read 112 = .ok (.if_icmp .eq 10, 3) := by decide +kernel
theorem dX11_read_115 : decode cX11_read 115 = .ok (.aload_n 0, 1) := by decide +kernel
theorem dX11_read_116 : decode cX11_read 116 = .ok (.invokevirtual 189, 3) := by decide +kernel
theorem dX11_read_119 : decode cX11_read 119 = .ok (.ifCond .ne (-22), 3) := by decide +kernel
theorem dX11_read_122 : decode cX11_read 122 = .ok (.bipush (-100), 2) := by decide +kernel
theorem dX11_read_124 : decode cX11_read 124 = .ok (.aload_n 0, 1) := by decide +kernel
theorem dX11_read_125 : decode cX11_read 125 = .ok (.getfield 128, 3) := by decide +kernel
theorem dX11_read_128 : decode cX11_read 128 = .ok (.isub, 1) := by decide +kernel
theorem dX11_read_129 : decode cX11_read 129 = .ok (.ireturn, 1) := by decide +kernel
theorem dX11_read_130 : decode cX11_read 130 = .ok (.aload_n 0, 1) := by decide +kernel
theorem dX11_read_131 : decode cX11_read 131 = .ok (.aload_n 0, 1) := by decide +kernel
theorem dX11_read_132 : decode cX11_read 132 = .ok (.getfield 151, 3) := by decide +kernel
theorem dX11_read_135 : decode cX11_read 135 = .ok (.putfield 109, 3) := by decide +kernel
theorem dX11_read_138 : decode cX11_read 138 = .ok (.aload_n 0, 1) := by decide +kernel
theorem dX11_read_139 : decode cX11_read 139 = .ok (.aload_n 0, 1) := by decide +kernel
theorem dX11_read_140 : decode cX11_read 140 = .ok (.getfield 180, 3) := by decide +kernel
theorem dX11_read_143 : decode cX11_read 143 = .ok (.putfield 192, 3) := by decide +kernel
theorem dX11_read_146 : decode cX11_read 146 = .ok (.iconst 0, 1) := by decide +kernel
theorem dX11_read_147 : decode cX11_read 147 = .ok (.istore_n 2, 1) := by decide +kernel
theorem dX11_read_148 : decode cX11_read 148 = .ok (.iload_n 2, 1) := by decide +kernel
theorem dX11_read_149 : decode cX11_read 149 = .ok (.aload_n 0, 1) := by decide +kernel
theorem dX11_read_150 : decode cX11_read 150 = .ok (.getfield 109, 3) := by decide +kernel
theorem dX11_read_153 : decode cX11_read 153 = .ok (.if_icmp .ge 33, 3) := by decide +kernel
theorem dX11_read_156 : decode cX11_read 156 = .ok (.aload_n 0, 1) := by decide +kernel
theorem dX11_read_157 : decode cX11_read 157 = .ok (.getfield 7, 3) := by decide +kernel
theorem dX11_read_160 : decode cX11_read 160 = .ok (.iload_n 2, 1) := by decide +kernel
theorem dX11_read_161 : decode cX11_read 161 = .ok (.aload_n 0, 1) := by decide +kernel
theorem dX11_read_162 : decode cX11_read 162 = .ok (.getfield 76, 3) := by decide +kernel
theorem dX11_read_165 : decode cX11_read 165 = .ok (.iload_n 2, 1) := by decide +kernel
theorem dX11_read_166 : decode cX11_read 166 = .ok (.iaload, 1) := by decide +kernel
theorem dX11_read_167 : decode cX11_read 167 = .ok (.iastore, 1) := by decide +kernel
theorem dX11_read_168 : decode cX11_read 168 = .ok (.aload_n 0, 1) := by decide +kernel
theorem dX11_read_169 : decode cX11_read 169 = .ok (.getfield 13, 3) := by decide +kernel
theorem dX11_read_172 : decode cX11_read 172 = .ok (.iload_n 2, 1) := by decide +kernel
theorem dX11_read_173 : decode cX11_read 173 = .ok (.aload_n 0, 1) := by decide +kernel
theorem dX11_read_174 : decode cX11_read 174 = .ok (.getfield 79, 3) := by decide +kernel
theorem dX11_read_177 : decode cX11_read 177 = .ok (.iload_n 2, 1) := by decide +kernel
theorem dX11_read_178 : decode cX11_read 178 = .ok (.iaload, 1) := by decide +kernel
theorem dX11_read_179 : decode cX11_read 179 = .ok (.iastore, 1) := by decide +kernel
theorem dX11_read_180 : decode cX11_read 180 = .ok (.iinc 2 1, 3) := by decide +kernel
theorem dX11_read_183 : decode cX11_read 183 = .ok (.goto (-35), 3) := by decide +kernel
theorem dX11_read_186 : decode cX11_read 186 = .ok (.aload_n 0, 1) := by decide +kernel
theorem dX11_read_187 : decode cX11_read 187 = .ok (.getfield 109, 3) := by decide +kernel
theorem dX11_read_190 : decode cX11_read 190 = .ok (.ireturn, 1) := by decide +kernel
set_option maxRecDepth 20000 in
theorem ggX11_point_X11_in : GoodIn wsX11_point wsX11_in := goodIn_r _ [8] (by decide +kernel) (by decide +kernel)
set_option maxRecDepth 20000 in
theorem gX11_point_X11_in : GoodIn wsX11_point (va_wsS RX11 147 yX11_in wsX11_in) := goodIn_app (goodIn_of _ (by decide +kernel)) ggX11_point_X11_in
theorem dX11_point_0 : decode cX11_point 0 = .ok (.aload_n 0, 1) := by decide +kernel
theorem dX11_point_1 : decode cX11_point 1 = .ok (.iload_n 2, 1) := by decide +kernel
theorem dX11_point_2 : decode cX11_point 2 = .ok (.iconst 0, 1) := by decide +kernel
theorem dX11_point_3 : decode cX11_point 3 = .ok (.iconst 1, 1) := by decide +kernel
theorem dX11_point_4 : decode cX11_point 4 = .ok (.invokestatic 147, 3) := by decide +kernel
theorem dX11_point_7 : decode cX11_point 7 = .ok (.ifCond .ne 7, 3) := by decide +kernel
theorem dX11_point_10 : decode cX11_point 10 = .ok (.iconst 1, 1) := by decide +kernel
theorem dX11_point_11 : decode cX11_point 11 = .ok (.goto 22, 3) := by decide +kernel
theorem dX11_point_14 : decode cX11_point 14 = .ok (.iload_n 1, 1) := by decide +kernel
theorem dX11_point_15 : decode cX11_point 15 = .ok (.iconst 0, 1) := by decide +kernel
theorem dX11_point_16 : decode cX11_point 16 = .ok (.aload_n 0, 1) := by decide +kernel
theorem dX11_point_17 : decode cX11_point 17 = .ok (.getfield 109, 3) := by decide +kernel
theorem dX11_point_20 : decode cX11_point 20 = .ok (.iconst 1, 1) := by decide +kernel
theorem dX11_point_21 : decode cX11_point 21 = .ok (.isub, 1) := by decide +kernel
theorem dX11_point_22 : decode cX11_point 22 = .ok (.invokestatic 147, 3) := by decide +kernel
theorem dX11_point_25 : decode cX11_point 25 = .ok (.ifCond .ne 7, 3) := by decide +kernel
theorem dX11_point_28 : decode cX11_point 28 = .ok (.iconst 2, 1) := by decide +kernel
theorem dX11_point_29 : decode cX11_point 29 = .ok (.goto 4, 3) := by decide +kernel
theorem dX11_point_32 : decode cX11_point 32 = .ok (.iconst 0, 1) := by decide +kernel
theorem dX11_point_33 : decode cX11_point 33 = .ok (.putfield 103, 3) := by decide +kernel
theorem dX11_point_36 : decode cX11_point 36 = .ok (.aload_n 0, 1) := by decide +kernel
theorem dX11_point_37 : decode cX11_point 37 = .ok (.getfield 103, 3) := by decide +kernel
theorem dX11_point_40 : decode cX11_point 40 = .ok (.ifCond .eq 7, 3) := by decide +kernel
theorem dX11_point_43 : decode cX11_point 43 = .ok (.iconst 0, 1) := by decide +kernel
theorem dX11_point_44 : decode cX11_point 44 = .ok (.goto 22, 3) := by decide +kernel
theorem dX11_point_47 : decode cX11_point 47 = .ok (.iload_n 2, 1) := by decide +kernel
theorem dX11_point_48 : decode cX11_point 48 = .ok (.ifCond .ne 12, 3) := by decide +kernel
theorem dX11_point_51 : decode cX11_point 51 = .ok (.aload_n 0, 1) := by decide +kernel
theorem dX11_point_52 : decode cX11_point 52 = .ok (.getfield 7, 3) := by decide +kernel
theorem dX11_point_55 : decode cX11_point 55 = .ok (.iload_n 1, 1) := by decide +kernel
theorem dX11_point_56 : decode cX11_point 56 = .ok (.iaload, 1) := by decide +kernel
theorem dX11_point_57 : decode cX11_point 57 = .ok (.goto 9, 3) := by decide +kernel
theorem dX11_point_60 : decode cX11_point 60 = .ok (.aload_n 0, 1) := by decide +kernel
theorem dX11_point_61 : decode cX11_point 61 = .ok (.getfield 13, 3) := by decide +kernel
theorem dX11_point_64 : decode cX11_point 64 = .ok (.iload_n 1, 1) := by decide +kernel
theorem dX11_point_65 : decode cX11_point 65 = .ok (.iaload, 1) := by decide +kernel
theorem dX11_point_66 : decode cX11_point 66 = .ok (.ireturn, 1) := by decide +kernel
theorem dX11_advance_0 : decode cX11_advance 0 = .ok (.aload_n 0, 1) := by decide +kernel
theorem dX11_advance_1 : decode cX11_advance 1 = .ok (.aload_n 0, 1) := by decide +kernel
theorem dX11_advance_2 : decode cX11_advance 2 = .ok (.getfield 109, 3) := by decide +kernel
theorem dX11_advance_5 : decode cX11_advance 5 = .ok (.ifCond .ne 7, 3) := by decide +kernel
theorem dX11_advance_8 : decode cX11_advance 8 = .ok (.iconst 1, 1) := by decide +kernel
theorem dX11_advance_9 : decode cX11_advance 9 = .ok (.goto 4, 3) := by decide +kernel
theorem dX11_advance_12 : decode cX11_advance 12 = .ok (.iconst 0, 1) := by decide +kernel
theorem dX11_advance_13 : decode cX11_advance 13 = .ok (.putfield 103, 3) := by decide +kernel
theorem dX11_advance_16 : decode cX11_advance 16 = .ok (.aload_n 0, 1) := by decide +kernel
theorem dX11_advance_17 : decode cX11_advance 17 = .ok (.getfield 103, 3) := by decide +kernel
theorem dX11_advance_20 : decode cX11_advance 20 = .ok (.ifCond .eq 7, 3) := by decide +kernel
theorem dX11_advance_23 : decode cX11_advance 23 = .ok (.iconst 0, 1) := by decide +kernel
theorem dX11_advance_24 : decode cX11_advance 24 = .ok (.goto 7, 3) := by decide +kernel
theorem dX11_advance_27 : decode cX11_advance 27 = .ok (.aload_n 0, 1) := by decide +kernel
theorem dX11_advance_28 : decode cX11_advance 28 = .ok (.getfield 192, 3) := by decide +kernel
theorem dX11_advance_31 : decode cX11_advance 31 = .ok (.ireturn, 1) := by decide +kernel
theorem dX11_toX_0 : decode cX11_toX 0 = .ok (.aload_n 0, 1) := by decide +kernel
theorem dX11_toX_1 : decode cX11_toX 1 = .ok (.getfield 7, 3) := by decide +kernel
theorem dX11_toX_4 : decode cX11_toX 4 = .ok (.iload_n 1, 1) := by decide +kernel
theorem dX11_toX_5 : decode cX11_toX 5 = .ok (.iconst 1, 1) := by decide +kernel
theorem dX11_toX_6 : decode cX11_toX 6 = .ok (.iadd, 1) := by decide +kernel
theorem dX11_toX_7 : decode cX11_toX 7 = .ok (.aload_n 0, 1) := by decide +kernel
theorem dX11_toX_8 : decode cX11_toX 8 = .ok (.getfield 109, 3) := by decide +kernel
theorem dX11_toX_11 : decode cX11_toX 11 = .ok (.irem, 1) := by decide +kernel
theorem dX11_toX_12 : decode cX11_toX 12 = .ok (.iaload, 1) := by decide +kernel
theorem dX11_toX_13 : decode cX11_toX 13 = .ok (.ireturn, 1) := by decide +kernel
theorem dX11_toY_0 : decode cX11_toY 0 = .ok (.iload_n 1, 1) := by decide +kernel
theorem dX11_toY_1 : decode cX11_toY 1 = .ok (.iconst 1, 1) := by decide +kernel
theorem dX11_toY_2 : decode cX11_toY 2 = .ok (.iadd, 1) := by decide +kernel
theorem dX11_toY_3 : decode cX11_toY 3 = .ok (.aload_n 0, 1) := by decide +kernel
theorem dX11_toY_4 : decode cX11_toY 4 = .ok (.getfield 109, 3) := by decide +kernel
theorem dX11_toY_7 : decode cX11_toY 7 = .ok (.if_icmp .ge 14, 3) := by decide +kernel
theorem dX11_toY_10 : decode cX11_toY 10 = .ok (.aload_n 0, 1) := by decide +kernel
theorem dX11_toY_11 : decode cX11_toY 11 = .ok (.getfield 13, 3) := by decide +kernel
theorem dX11_toY_14 : decode cX11_toY 14 = .ok (.iload_n 1, 1) := by decide +kernel
theorem dX11_toY_15 : decode cX11_toY 15 = .ok (.iconst 1, 1) := by decide +kernel
theorem dX11_toY_16 : decode cX11_toY 16 = .ok (.iadd, 1) := by decide +kernel
theorem dX11_toY_17 : decode cX11_toY 17 = .ok (.iaload, 1) := by decide +kernel
theorem dX11_toY_18 : decode cX11_toY 18 = .ok (.goto 14, 3) := by decide +kernel
theorem dX11_toY_21 : decode cX11_toY 21 = .ok (.aload_n 0, 1) := by decide +kernel
theorem dX11_toY_22 : decode cX11_toY 22 = .ok (.getfield 13, 3) := by decide +kernel
theorem dX11_toY_25 : decode cX11_toY 25 = .ok (.iconst 0, 1) := by decide +kernel
theorem dX11_toY_26 : decode cX11_toY 26 = .ok (.iaload, 1) := by decide +kernel
theorem dX11_toY_27 : decode cX11_toY 27 = .ok (.aload_n 0, 1) := by decide +kernel
theorem dX11_toY_28 : decode cX11_toY 28 = .ok (.getfield 192, 3) := by decide +kernel
theorem dX11_toY_31 : decode cX11_toY 31 = .ok (.iadd, 1) := by decide +kernel
theorem dX11_toY_32 : decode cX11_toY 32 = .ok (.ireturn, 1) := by decide +kernel
set_option maxRecDepth 20000 in
theorem ggX11_parts_X11_toX : GoodIn wsX11_parts wsX11_toX := goodIn_r _ [7, 1, 8, 17, 18, 19, 20, 21, 22, 23, 24, 25, 26, 27, 28, 29, 30, 31, 32, 33, 34, 35, 36, 37, 38, 39, 40, 41, 42, 43, 44, 45, 46, 47, 48, 49, 50, 51, 52, 53, 54, 55, 56, 57, 58, 59, 60, 61, 62, 63, 64, 65, 66, 67, 68, 69, 70, 71, 72, 73, 74, 75, 76, 77, 78] (by decide +kernel) (by decide +kernel)
set_option maxRecDepth 20000 in
theorem gX11_parts_X11_toX : GoodIn wsX11_parts (wsV RX11 195 RX11 yX11_toX wsX11_toX) := goodIn_app (goodIn_of _ (by decide +kernel)) ggX11_parts_X11_toX
set_option maxRecDepth 20000 in
theorem ggX11_parts_X11_away : GoodIn wsX11_parts wsX11_away := goodIn_r _ [11] (by decide +kernel) (by decide +kernel)
set_option maxRecDepth 20000 in
theorem gX11_parts_X11_away : GoodIn wsX11_parts (va_wsS RX11 198 yX11_away wsX11_away) := goodIn_app (goodIn_of _ (by decide +kernel)) ggX11_parts_X11_away
set_option maxRecDepth 20000 in
theorem ggX11_parts_X11_toY : GoodIn wsX11_parts wsX11_toY := goodIn_r _ [15, 8, 2, 16, 17, 18, 19, 20, 21, 22, 23, 24, 25, 26, 27, 28, 29, 30, 31, 32, 33, 34, 35, 36, 37, 38, 39, 40, 41, 42, 43, 44, 45, 46, 47, 48, 49, 50, 51, 52, 53, 54, 55, 56, 57, 58, 59, 60, 61, 62, 63, 64, 65, 66, 67, 68, 69, 70, 71, 72, 73, 74, 75, 76, 77, 78] (by decide +kernel) (by decide +kernel)
set_option maxRecDepth 20000 in
theorem gX11_parts_X11_toY : GoodIn wsX11_parts (wsV RX11 201 RX11 yX11_toY wsX11_toY) := goodIn_app (goodIn_of _ (by decide +kernel)) ggX11_parts_X11_toY
theorem dX11_parts_0 : decode cX11_parts 0 = .ok (.iconst 1, 1) := by decide +kernel
theorem dX11_parts_1 : decode cX11_parts 1 = .ok (.istore 4, 2) := by decide +kernel
theorem dX11_parts_3 : decode cX11_parts 3 = .ok (.iload 4, 2) := by decide +kernel
theorem dX11_parts_5 : decode cX11_parts 5 = .ok (.iload_n 2, 1) := by decide +kernel
theorem dX11_parts_6 : decode cX11_parts 6 = .ok (.imul, 1) := by decide +kernel
theorem dX11_parts_7 : decode cX11_parts 7 = .ok (.aload_n 0, 1) := by decide +kernel
theorem dX11_parts_8 : decode cX11_parts 8 = .ok (.iload_n 1, 1) := by decide +kernel
theorem dX11_parts_9 : decode cX11_parts 9 = .ok (.invokevirtual 195, 3) := by decide +kernel
theorem dX11_parts_12 : decode cX11_parts 12 = .ok (.aload_n 0, 1) := by decide +kernel
theorem dX11_parts_13 : decode cX11_parts 13 = .ok (.getfield 7, 3) := by decide +kernel
theorem dX11_parts_16 : decode cX11_parts 16 = .ok (.iload_n 1, 1) := by decide +kernel
theorem dX11_parts_17 : decode cX11_parts 17 = .ok (.iaload, 1) := by decide +kernel
theorem dX11_parts_18 : decode cX11_parts 18 = .ok (.isub, 1) := by decide +kernel
theorem dX11_parts_19 : decode cX11_parts 19 = .ok (.invokestatic 198, 3) := by decide +kernel
theorem dX11_parts_22 : decode cX11_parts 22 = .ok (.if_icmp .lt 25, 3) := by decide +kernel
theorem dX11_parts_25 : decode cX11_parts 25 = .ok (.iload 4, 2) := by decide +kernel
theorem dX11_parts_27 : decode cX11_parts 27 = .ok (.iload_n 3, 1) := by decide +kernel
theorem dX11_parts_28 : decode cX11_parts 28 = .ok (.imul, 1) := by decide +kernel
theorem dX11_parts_29 : decode cX11_parts 29 = .ok (.aload_n 0, 1) := by decide +kernel
theorem dX11_parts_30 : decode cX11_parts 30 = .ok (.iload_n 1, 1) := by decide +kernel
theorem dX11_parts_31 : decode cX11_parts 31 = .ok (.invokevirtual 201, 3) := by decide +kernel
theorem dX11_parts_34 : decode cX11_parts 34 = .ok (.aload_n 0, 1) := by decide +kernel
theorem dX11_parts_35 : decode cX11_parts 35 = .ok (.getfield 13, 3) := by decide +kernel
theorem dX11_parts_38 : decode cX11_parts 38 = .ok (.iload_n 1, 1) := by decide +kernel
theorem dX11_parts_39 : decode cX11_parts 39 = .ok (.iaload, 1) := by decide +kernel
theorem dX11_parts_40 : decode cX11_parts 40 = .ok (.isub, 1) := by decide +kernel
theorem dX11_parts_41 : decode cX11_parts 41 = .ok (.invokestatic 198, 3) := by decide +kernel
theorem dX11_parts_44 : decode cX11_parts 44 = .ok (.if_icmp .ge 9, 3) := by decide +kernel
theorem dX11_parts_47 : decode cX11_parts 47 = .ok (.iinc 4 1, 3) := by decide +kernel
theorem dX11_parts_50 : decode cX11_parts 50 = .ok (.goto (-47), 3) := by decide +kernel
theorem dX11_parts_53 : decode cX11_parts 53 = .ok (.iload 4, 2) := by decide +kernel
theorem dX11_parts_55 : decode cX11_parts 55 = .ok (.ireturn, 1) := by decide +kernel
set_option maxRecDepth 20000 in
theorem ggX11_make_X11_in : GoodIn wsX11_make wsX11_in := goodIn_r _ [10] (by decide +kernel) (by decide +kernel)
set_option maxRecDepth 20000 in
theorem gX11_make_X11_in : GoodIn wsX11_make (va_wsS RX11 147 yX11_in wsX11_in) := goodIn_app (goodIn_of _ (by decide +kernel)) ggX11_make_X11_in
set_option maxRecDepth 20000 in
theorem ggX11_make_X11_parts : GoodIn wsX11_make wsX11_parts := goodIn_r _ [14, 4, 2, 15, 16, 17, 9, 18, 1, 19, 20, 21, 22, 23, 24, 25, 26, 30, 31, 32, 33, 34, 35, 36, 37, 38, 39, 40, 41, 42, 43, 44, 45, 46, 47, 48, 49, 50, 51, 52, 53, 54, 55, 56, 57, 58, 59, 60, 61, 62, 63, 64, 65, 66, 67, 68, 69, 70, 71, 72, 73, 74, 75, 76, 77, 78, 79, 80, 81, 82, 83, 84, 85, 86, 87, 88, 89, 90, 91] (by decide +kernel) (by decide +kernel)
set_option maxRecDepth 20000 in
theorem gX11_make_X11_parts : GoodIn wsX11_make (wsV RX11 204 RX11 yX11_parts wsX11_parts) := goodIn_app (goodIn_of _ (by decide +kernel)) ggX11_make_X11_parts
set_option maxRecDepth 20000 in
theorem ggX11_make_X11_toY : GoodIn wsX11_make wsX11_toY := goodIn_r _ [25, 1, 2, 26, 30, 31, 32, 33, 34, 35, 36, 37, 38, 39, 40, 41, 42, 43, 44, 45, 46, 47, 48, 49, 50, 51, 52, 53, 54, 55, 56, 57, 58, 59, 60, 61, 62, 63, 64, 65, 66, 67, 68, 69, 70, 71, 72, 73, 74, 75, 76, 77, 78, 79, 80, 81, 82, 83, 84, 85, 86, 87, 88, 89, 90, 91] (by decide +kernel) (by decide +kernel)
set_option maxRecDepth 20000 in
theorem gX11_make_X11_toY : GoodIn wsX11_make (wsV RX11 201 RX11 yX11_toY wsX11_toY) := goodIn_app (goodIn_of _ (by decide +kernel)) ggX11_make_X11_toY
set_option maxRecDepth 20000 in
theorem ggX11_make_X11_floor : GoodIn wsX11_make wsX11_floor := goodIn_r _ [29] (by decide +kernel) (by decide +kernel)
set_option maxRecDepth 20000 in
theorem gX11_make_X11_floor : GoodIn wsX11_make (va_wsS RX11 208 yX11_floor wsX11_floor) := goodIn_app (goodIn_of _ (by decide +kernel)) ggX11_make_X11_floor
set_option maxRecDepth 20000 in
theorem ggX11_make_X11_toX : GoodIn wsX11_make wsX11_toX := goodIn_r _ [18, 4, 1, 30, 31, 32, 33, 34, 35, 36, 37, 38, 39, 40, 41, 42, 43, 44, 45, 46, 47, 48, 49, 50, 51, 52, 53, 54, 55, 56, 57, 58, 59, 60, 61, 62, 63, 64, 65, 66, 67, 68, 69, 70, 71, 72, 73, 74, 75, 76, 77, 78, 79, 80, 81, 82, 83, 84, 85, 86, 87, 88, 89, 90, 91] (by decide +kernel) (by decide +kernel)
set_option maxRecDepth 20000 in
theorem gX11_make_X11_toX : GoodIn wsX11_make (wsV RX11 195 RX11 yX11_toX wsX11_toX) := goodIn_app (goodIn_of _ (by decide +kernel)) ggX11_make_X11_toX
theorem dX11_make_0 : decode cX11_make 0 = .ok (.iload_n 1, 1) := by decide +kernel
theorem dX11_make_1 : decode cX11_make 1 = .ok (.iconst 1, 1) := by decide +kernel
theorem dX11_make_2 : decode cX11_make 2 = .ok (.bipush 12, 2) := by decide +kernel
theorem dX11_make_4 : decode cX11_make 4 = .ok (.invokestatic 147, 3) := by decide +kernel
theorem dX11_make_7 : decode cX11_make 7 = .ok (.ifCond .eq 13, 3) := by decide +kernel
theorem dX11_make_10 : decode cX11_make 10 = .ok (.iload_n 2, 1) := by decide +kernel
theorem dX11_make_11 : decode cX11_make 11 = .ok (.iconst 1, 1) := by decide +kernel
theorem dX11_make_12 : decode cX11_make 12 = .ok (.bipush 12, 2) := by decide +kernel
theorem dX11_make_14 : decode cX11_make 14 = .ok (.invokestatic 147, 3) := by decide +kernel
theorem dX11_make_17 : decode cX11_make 17 = .ok (.ifCond .ne 5, 3) := by decide +kernel
theorem dX11_make_20 : decode cX11_make 20 = .ok (.iconst (-1), 1) := by decide +kernel
theorem dX11_make_21 : decode cX11_make 21 = .ok (.ireturn, 1) := by decide +kernel
theorem dX11_make_22 : decode cX11_make 22 = .ok (.aload_n 0, 1) := by decide +kernel
theorem dX11_make_23 : decode cX11_make 23 = .ok (.getfield 109, 3) := by decide +kernel
theorem dX11_make_26 : decode cX11_make 26 = .ok (.ifCond .ne 6, 3) := by decide +kernel
theorem dX11_make_29 : decode cX11_make 29 = .ok (.bipush (-3), 2) := by decide +kernel
theorem dX11_make_31 : decode cX11_make 31 = .ok (.ireturn, 1) := by decide +kernel
theorem dX11_make_32 : decode cX11_make 32 = .ok (.iconst 0, 1) := by decide +kernel
theorem dX11_make_33 : decode cX11_make 33 = .ok (.istore_n 3, 1) := by decide +kernel
theorem dX11_make_34 : decode cX11_make 34 = .ok (.iconst 0, 1) := by decide +kernel
theorem dX11_make_35 : decode cX11_make 35 = .ok (.istore 4, 2) := by decide +kernel
theorem dX11_make_37 : decode cX11_make 37 = .ok (.iload 4, 2) := by decide +kernel
theorem dX11_make_39 : decode cX11_make 39 = .ok (.aload_n 0, 1) := by decide +kernel
theorem dX11_make_40 : decode cX11_make 40 = .ok (.getfield 109, 3) := by decide +kernel
theorem dX11_make_43 : decode cX11_make 43 = .ok (.if_icmp .ge 20, 3) := by decide +kernel
theorem dX11_make_46 : decode cX11_make 46 = .ok (.iload_n 3, 1) := by decide +kernel
theorem dX11_make_47 : decode cX11_make 47 = .ok (.aload_n 0, 1) := by decide +kernel
theorem dX11_make_48 : decode cX11_make 48 = .ok (.iload 4, 2) := by decide +kernel
theorem dX11_make_50 : decode cX11_make 50 = .ok (.iload_n 1, 1) := by decide +kernel
theorem dX11_make_51 : decode cX11_make 51 = .ok (.iload_n 2, 1) := by decide +kernel
theorem dX11_make_52 : decode cX11_make 52 = .ok (.invokevirtual 204, 3) := by decide +kernel
theorem dX11_make_55 : decode cX11_make 55 = .ok (.iadd, 1) := by decide +kernel
theorem dX11_make_56 : decode cX11_make 56 = .ok (.istore_n 3, 1) := by decide +kernel
theorem dX11_make_57 : decode cX11_make 57 = .ok (.iinc 4 1, 3) := by decide +kernel
theorem dX11_make_60 : decode cX11_make 60 = .ok (.goto (-23), 3) := by decide +kernel
theorem dX11_make_63 : decode cX11_make 63 = .ok (.iload_n 3, 1) := by decide +kernel
theorem dX11_make_64 : decode cX11_make 64 = .ok (.bipush 48, 2) := by decide +kernel
theorem dX11_make_66 : decode cX11_make 66 = .ok (.if_icmp .le 6, 3) := by decide +kernel
theorem dX11_make_69 : decode cX11_make 69 = .ok (.bipush (-2), 2) := by decide +kernel
theorem dX11_make_71 : decode cX11_make 71 = .ok (.ireturn, 1) := by decide +kernel
theorem dX11_make_72 : decode cX11_make 72 = .ok (.sipush 672, 3) := by decide +kernel
theorem dX11_make_75 : decode cX11_make 75 = .ok (.istore 4, 2) := by decide +kernel
theorem dX11_make_77 : decode cX11_make 77 = .ok (.iconst 0, 1) := by decide +kernel
theorem dX11_make_78 : decode cX11_make 78 = .ok (.istore 5, 2) := by decide +kernel
theorem dX11_make_80 : decode cX11_make 80 = .ok (.iload 5, 2) := by decide +kernel
theorem dX11_make_82 : decode cX11_make 82 = .ok (.aload_n 0, 1) := by decide +kernel
theorem dX11_make_83 : decode cX11_make 83 = .ok (.getfield 109, 3) := by decide +kernel
theorem dX11_make_86 : decode cX11_make 86 = .ok (.if_icmp .ge 118, 3) := by decide +kernel
theorem dX11_make_89 : decode cX11_make 89 = .ok (.aload_n 0, 1) := by decide +kernel
theorem dX11_make_90 : decode cX11_make 90 = .ok (.iload 5, 2) := by decide +kernel
theorem dX11_make_92 : decode cX11_make 92 = .ok (.iload_n 1, 1) := by decide +kernel
theorem dX11_make_93 : decode cX11_make 93 = .ok (.iload_n 2, 1) := by decide +kernel
theorem dX11_make_94 : decode cX11_make 94 = .ok (.invokevirtual 204, 3) := by decide +kernel
theorem dX11_make_97 : decode cX11_make 97 = .ok (.istore 6, 2) := by decide +kernel
theorem dX11_make_99 : decode cX11_make 99 = .ok (.iconst 0, 1) := by decide +kernel
theorem dX11_make_100 : decode cX11_make 100 = .ok (.istore 7, 2) := by decide +kernel
theorem dX11_make_102 : decode cX11_make 102 = .ok (.iconst 1, 1) := by decide +kernel
theorem dX11_make_103 : decode cX11_make 103 = .ok (.istore 8, 2) := by decide +kernel
theorem dX11_make_105 : decode cX11_make 105 = .ok (.iload 8, 2) := by decide +kernel
theorem dX11_make_107 : decode cX11_make 107 = .ok (.iload 6, 2) := by decide +kernel
theorem dX11_make_109 : decode cX11_make 109 = .ok (.if_icmp .gt 89, 3) := by decide +kernel
theorem dX11_make_112 : decode cX11_make 112 = .ok (.aload_n 0, 1) := by decide +kernel
theorem dX11_make_113 : decode cX11_make 113 = .ok (.iload 5, 2) := by decide +kernel
theorem dX11_make_115 : decode cX11_make 115 = .ok (.invokevirtual 201, 3) := by decide +kernel
theorem dX11_make_118 : decode cX11_make 118 = .ok (.aload_n 0, 1) := by decide +kernel
theorem dX11_make_119 : decode cX11_make 119 = .ok (.getfield 13, 3) := by decide +kernel
theorem dX11_make_122 : decode cX11_make 122 = .ok (.iload 5, 2) := by decide +kernel
theorem dX11_make_124 : decode cX11_make 124 = .ok (.iaload, 1) := by decide +kernel
theorem dX11_make_125 : decode cX11_make 125 = .ok (.isub, 1) := by decide +kernel
theorem dX11_make_126 : decode cX11_make 126 = .ok (.iload 8, 2) := by decide +kernel
theorem dX11_make_128 : decode cX11_make 128 = .ok (.imul, 1) := by decide +kernel
theorem dX11_make_129 : decode cX11_make 129 = .ok (.iload 6, 2) := by decide +kernel
theorem dX11_make_131 : decode cX11_make 131 = .ok (.invokestatic 208, 3) := by decide +kernel
theorem dX11_make_134 : decode cX11_make 134 = .ok (.istore 9, 2) := by decide +kernel
theorem dX11_make_136 : decode cX11_make 136 = .ok (.aload_n 0, 1) := by decide +kernel
theorem dX11_make_137 : decode cX11_make 137 = .ok (.getfield 19, 3) := by decide +kernel
theorem dX11_make_140 : decode cX11_make 140 = .ok (.iload 4, 2) := by decide +kernel
theorem dX11_make_142 : decode cX11_make 142 = .ok (.aload_n 0, 1) := by decide +kernel
theorem dX11_make_143 : decode cX11_make 143 = .ok (.getfield 7, 3) := by decide +kernel
theorem dX11_make_146 : decode cX11_make 146 = .ok (.iload 5, 2) := by decide +kernel
theorem dX11_make_148 : decode cX11_make 148 = .ok (.iaload, 1) := by decide +kernel
theorem dX11_make_149 : decode cX11_make 149 = .ok (.aload_n 0, 1) := by decide +kernel
theorem dX11_make_150 : decode cX11_make 150 = .ok (.iload 5, 2) := by decide +kernel
theorem dX11_make_152 : decode cX11_make 152 = .ok (.invokevirtual 195, 3) := by decide +kernel
theorem dX11_make_155 : decode cX11_make 155 = .ok (.aload_n 0, 1) := by decide +kernel
theorem dX11_make_156 : decode cX11_make 156 = .ok (.getfield 7, 3) := by decide +kernel
theorem dX11_make_159 : decode cX11_make 159 = .ok (.iload 5, 2) := by decide +kernel
theorem dX11_make_161 : decode cX11_make 161 = .ok (.iaload, 1) := by decide +kernel
theorem dX11_make_162 : decode cX11_make 162 = .ok (.isub, 1) := by decide +kernel
theorem dX11_make_163 : decode cX11_make 163 = .ok (.iload 8, 2) := by decide +kernel
theorem dX11_make_165 : decode cX11_make 165 = .ok (.imul, 1) := by decide +kernel
theorem dX11_make_166 : decode cX11_make 166 = .ok (.iload 6, 2) := by decide +kernel
theorem dX11_make_168 : decode cX11_make 168 = .ok (.invokestatic 208, 3) := by decide +kernel
theorem dX11_make_171 : decode cX11_make 171 = .ok (.iadd, 1) := by decide +kernel
theorem dX11_make_172 : decode cX11_make 172 = .ok (.iastore, 1) := by decide +kernel
theorem dX11_make_173 : decode cX11_make 173 = .ok (.aload_n 0, 1) := by decide +kernel
theorem dX11_make_174 : decode cX11_make 174 = .ok (.getfield 22, 3) := by decide +kernel
theorem dX11_make_177 : decode cX11_make 177 = .ok (.iload 4, 2) := by decide +kernel
theorem dX11_make_179 : decode cX11_make 179 = .ok (.iload 9, 2) := by decide +kernel
theorem dX11_make_181 : decode cX11_make 181 = .ok (.iload 7, 2) := by decide +kernel
theorem dX11_make_183 : decode cX11_make 183 = .ok (.isub, 1) := by decide +kernel
theorem dX11_make_184 : decode cX11_make 184 = .ok (.iastore, 1) := by decide +kernel
theorem dX11_make_185 : decode cX11_make 185 = .ok (.iload 9, 2) := by decide +kernel
theorem dX11_make_187 : decode cX11_make 187 = .ok (.istore 7, 2) := by decide +kernel
theorem dX11_make_189 : decode cX11_make 189 = .ok (.iinc 4 1, 3) := by decide +kernel
theorem dX11_make_192 : decode cX11_make 192 = .ok (.iinc 8 1, 3) := by decide +kernel
theorem dX11_make_195 : decode cX11_make 195 = .ok (.goto (-90), 3) := by decide +kernel
theorem dX11_make_198 : decode cX11_make 198 = .ok (.iinc 5 1, 3) := by decide +kernel
theorem dX11_make_201 : decode cX11_make 201 = .ok (.goto (-121), 3) := by decide +kernel
theorem dX11_make_204 : decode cX11_make 204 = .ok (.aload_n 0, 1) := by decide +kernel
theorem dX11_make_205 : decode cX11_make 205 = .ok (.getfield 16, 3) := by decide +kernel
theorem dX11_make_208 : decode cX11_make 208 = .ok (.bipush 14, 2) := by decide +kernel
theorem dX11_make_210 : decode cX11_make 210 = .ok (.iload_n 3, 1) := by decide +kernel
theorem dX11_make_211 : decode cX11_make 211 = .ok (.iastore, 1) := by decide +kernel
theorem dX11_make_212 : decode cX11_make 212 = .ok (.iload_n 3, 1) := by decide +kernel
theorem dX11_make_213 : decode cX11_make 213 = .ok (.ireturn, 1) := by decide +kernel
theorem dX11_lengthOf_0 : decode cX11_lengthOf 0 = .ok (.iconst 0, 1) := by decide +kernel
theorem dX11_lengthOf_1 : decode cX11_lengthOf 1 = .ok (.istore_n 2, 1) := by decide +kernel
theorem dX11_lengthOf_2 : decode cX11_lengthOf 2 = .ok (.bipush 48, 2) := by decide +kernel
theorem dX11_lengthOf_4 : decode cX11_lengthOf 4 = .ok (.iload_n 1, 1) := by decide +kernel
theorem dX11_lengthOf_5 : decode cX11_lengthOf 5 = .ok (.imul, 1) := by decide +kernel
theorem dX11_lengthOf_6 : decode cX11_lengthOf 6 = .ok (.istore_n 3, 1) := by decide +kernel
theorem dX11_lengthOf_7 : decode cX11_lengthOf 7 = .ok (.iload_n 3, 1) := by decide +kernel
theorem dX11_lengthOf_8 : decode cX11_lengthOf 8 = .ok (.bipush 48, 2) := by decide +kernel
theorem dX11_lengthOf_10 : decode cX11_lengthOf 10 = .ok (.iload_n 1, 1) := by decide +kernel
theorem dX11_lengthOf_11 : decode cX11_lengthOf 11 = .ok (.imul, 1) := by decide +kernel
theorem dX11_lengthOf_12 : decode cX11_lengthOf 12 = .ok (.aload_n 0, 1) := by decide +kernel
theorem dX11_lengthOf_13 : decode cX11_lengthOf 13 = .ok (.getfield 16, 3) := by decide +kernel
theorem dX11_lengthOf_16 : decode cX11_lengthOf 16 = .ok (.iload_n 1, 1) := by decide +kernel
theorem dX11_lengthOf_17 : decode cX11_lengthOf 17 = .ok (.iaload, 1) := by decide +kernel
theorem dX11_lengthOf_18 : decode cX11_lengthOf 18 = .ok (.iadd, 1) := by decide +kernel
theorem dX11_lengthOf_19 : decode cX11_lengthOf 19 = .ok (.if_icmp .ge 18, 3) := by decide +kernel
theorem dX11_lengthOf_22 : decode cX11_lengthOf 22 = .ok (.iload_n 2, 1) := by decide +kernel
theorem dX11_lengthOf_23 : decode cX11_lengthOf 23 = .ok (.aload_n 0, 1) := by decide +kernel
theorem dX11_lengthOf_24 : decode cX11_lengthOf 24 = .ok (.getfield 22, 3) := by decide +kernel
theorem dX11_lengthOf_27 : decode cX11_lengthOf 27 = .ok (.iload_n 3, 1) := by decide +kernel
theorem dX11_lengthOf_28 : decode cX11_lengthOf 28 = .ok (.iaload, 1) := by decide +kernel
theorem dX11_lengthOf_29 : decode cX11_lengthOf 29 = .ok (.iadd, 1) := by decide +kernel
theorem dX11_lengthOf_30 : decode cX11_lengthOf 30 = .ok (.istore_n 2, 1) := by decide +kernel
theorem dX11_lengthOf_31 : decode cX11_lengthOf 31 = .ok (.iinc 3 1, 3) := by decide +kernel
theorem dX11_lengthOf_34 : decode cX11_lengthOf 34 = .ok (.goto (-27), 3) := by decide +kernel
theorem dX11_lengthOf_37 : decode cX11_lengthOf 37 = .ok (.iload_n 2, 1) := by decide +kernel
theorem dX11_lengthOf_38 : decode cX11_lengthOf 38 = .ok (.ireturn, 1) := by decide +kernel
set_option maxRecDepth 20000 in
theorem ggX11_steepOf_X11_away : GoodIn wsX11_steepOf wsX11_away := goodIn_r _ [6] (by decide +kernel) (by decide +kernel)
set_option maxRecDepth 20000 in
theorem gX11_steepOf_X11_away : GoodIn wsX11_steepOf (va_wsS RX11 198 yX11_away wsX11_away) := goodIn_app (goodIn_of _ (by decide +kernel)) ggX11_steepOf_X11_away
theorem dX11_steepOf_0 : decode cX11_steepOf 0 = .ok (.iconst 0, 1) := by decide +kernel
theorem dX11_steepOf_1 : decode cX11_steepOf 1 = .ok (.istore_n 2, 1) := by decide +kernel
theorem dX11_steepOf_2 : decode cX11_steepOf 2 = .ok (.aload_n 0, 1) := by decide +kernel
theorem dX11_steepOf_3 : decode cX11_steepOf 3 = .ok (.getfield 19, 3) := by decide +kernel
theorem dX11_steepOf_6 : decode cX11_steepOf 6 = .ok (.bipush 48, 2) := by decide +kernel
theorem dX11_steepOf_8 : decode cX11_steepOf 8 = .ok (.iload_n 1, 1) := by decide +kernel
theorem dX11_steepOf_9 : decode cX11_steepOf 9 = .ok (.imul, 1) := by decide +kernel
theorem dX11_steepOf_10 : decode cX11_steepOf 10 = .ok (.aload_n 0, 1) := by decide +kernel
theorem dX11_steepOf_11 : decode cX11_steepOf 11 = .ok (.getfield 16, 3) := by decide +kernel
theorem dX11_steepOf_14 : decode cX11_steepOf 14 = .ok (.iload_n 1, 1) := by decide +kernel
theorem dX11_steepOf_15 : decode cX11_steepOf 15 = .ok (.iaload, 1) := by decide +kernel
theorem dX11_steepOf_16 : decode cX11_steepOf 16 = .ok (.iadd, 1) := by decide +kernel
theorem dX11_steepOf_17 : decode cX11_steepOf 17 = .ok (.iconst 1, 1) := by decide +kernel
theorem dX11_steepOf_18 : decode cX11_steepOf 18 = .ok (.isub, 1) := by decide +kernel
theorem dX11_steepOf_19 : decode cX11_steepOf 19 = .ok (.iaload, 1) := by decide +kernel
theorem dX11_steepOf_20 : decode cX11_steepOf 20 = .ok (.istore_n 3, 1) := by decide +kernel
theorem dX11_steepOf_21 : decode cX11_steepOf 21 = .ok (.bipush 48, 2) := by decide +kernel
theorem dX11_steepOf_23 : decode cX11_steepOf 23 = .ok (.iload_n 1, 1) := by decide +kernel
theorem dX11_steepOf_24 : decode cX11_steepOf 24 = .ok (.imul, 1) := by decide +kernel
theorem dX11_steepOf_25 : decode cX11_steepOf 25 = .ok (.istore 4, 2) := by decide +kernel
theorem dX11_steepOf_27 : decode cX11_steepOf 27 = .ok (.iload 4, 2) := by decide +kernel
theorem dX11_steepOf_29 : decode cX11_steepOf 29 = .ok (.bipush 48, 2) := by decide +kernel
theorem dX11_steepOf_31 : decode cX11_steepOf 31 = .ok (.iload_n 1, 1) := by decide +kernel
theorem dX11_steepOf_32 : decode cX11_steepOf 32 = .ok (.imul, 1) := by decide +kernel
theorem dX11_steepOf_33 : decode cX11_steepOf 33 = .ok (.aload_n 0, 1) := by decide +kernel
theorem dX11_steepOf_34 : decode cX11_steepOf 34 = .ok (.getfield 16, 3) := by decide +kernel
theorem dX11_steepOf_37 : decode cX11_steepOf 37 = .ok (.iload_n 1, 1) := by decide +kernel
theorem dX11_steepOf_38 : decode cX11_steepOf 38 = .ok (.iaload, 1) := by decide +kernel
theorem dX11_steepOf_39 : decode cX11_steepOf 39 = .ok (.iadd, 1) := by decide +kernel
theorem dX11_steepOf_40 : decode cX11_steepOf 40 = .ok (.if_icmp .ge 50, 3) := by decide +kernel
theorem dX11_steepOf_43 : decode cX11_steepOf 43 = .ok (.aload_n 0, 1) := by decide +kernel
theorem dX11_steepOf_44 : decode cX11_steepOf 44 = .ok (.getfield 19, 3) := by decide +kernel
theorem dX11_steepOf_47 : decode cX11_steepOf 47 = .ok (.iload 4, 2) := by decide +kernel
theorem dX11_steepOf_49 : decode cX11_steepOf 49 = .ok (.iaload, 1) := by decide +kernel
theorem dX11_steepOf_50 : decode cX11_steepOf 50 = .ok (.iload_n 3, 1) := by decide +kernel
theorem dX11_steepOf_51 : decode cX11_steepOf 51 = .ok (.isub, 1) := by decide +kernel
theorem dX11_steepOf_52 : decode cX11_steepOf 52 = .ok (.invokestatic 198, 3) := by decide +kernel
theorem dX11_steepOf_55 : decode cX11_steepOf 55 = .ok (.iload_n 2, 1) := by decide +kernel
theorem dX11_steepOf_56 : decode cX11_steepOf 56 = .ok (.if_icmp .le 18, 3) := by decide +kernel
theorem dX11_steepOf_59 : decode cX11_steepOf 59 = .ok (.aload_n 0, 1) := by decide +kernel
theorem dX11_steepOf_60 : decode cX11_steepOf 60 = .ok (.getfield 19, 3) := by decide +kernel
theorem dX11_steepOf_63 : decode cX11_steepOf 63 = .ok (.iload 4, 2) := by decide +kernel
theorem dX11_steepOf_65 : decode cX11_steepOf 65 = .ok (.iaload, 1) := by decide +kernel
theorem dX11_steepOf_66 : decode cX11_steepOf 66 = .ok (.iload_n 3, 1) := by decide +kernel
theorem dX11_steepOf_67 : decode cX11_steepOf 67 = .ok (.isub, 1) := by decide +kernel
theorem dX11_steepOf_68 : decode cX11_steepOf 68 = .ok (.invokestatic 198, 3) := by decide +kernel
theorem dX11_steepOf_71 : decode cX11_steepOf 71 = .ok (.goto 4, 3) := by decide +kernel
theorem dX11_steepOf_74 : decode cX11_steepOf 74 = .ok (.iload_n 2, 1) := by decide +kernel
theorem dX11_steepOf_75 : decode cX11_steepOf 75 = .ok (.istore_n 2, 1) := by decide +kernel
theorem dX11_steepOf_76 : decode cX11_steepOf 76 = .ok (.aload_n 0, 1) := by decide +kernel
theorem dX11_steepOf_77 : decode cX11_steepOf 77 = .ok (.getfield 19, 3) := by decide +kernel
theorem dX11_steepOf_80 : decode cX11_steepOf 80 = .ok (.iload 4, 2) := by decide +kernel
theorem dX11_steepOf_82 : decode cX11_steepOf 82 = .ok (.iaload, 1) := by decide +kernel
theorem dX11_steepOf_83 : decode cX11_steepOf 83 = .ok (.istore_n 3, 1) := by decide +kernel
theorem dX11_steepOf_84 : decode cX11_steepOf 84 = .ok (.iinc 4 1, 3) := by decide +kernel
theorem dX11_steepOf_87 : decode cX11_steepOf 87 = .ok (.goto (-60), 3) := by decide +kernel
theorem dX11_steepOf_90 : decode cX11_steepOf 90 = .ok (.iload_n 2, 1) := by decide +kernel
theorem dX11_steepOf_91 : decode cX11_steepOf 91 = .ok (.ireturn, 1) := by decide +kernel
theorem dX11_edge_0 : decode cX11_edge 0 = .ok (.iconst 0, 1) := by decide +kernel
theorem dX11_edge_1 : decode cX11_edge 1 = .ok (.istore_n 3, 1) := by decide +kernel
theorem dX11_edge_2 : decode cX11_edge 2 = .ok (.iconst 0, 1) := by decide +kernel
theorem dX11_edge_3 : decode cX11_edge 3 = .ok (.istore 4, 2) := by decide +kernel
theorem dX11_edge_5 : decode cX11_edge 5 = .ok (.iload 4, 2) := by decide +kernel
theorem dX11_edge_7 : decode cX11_edge 7 = .ok (.aload_n 0, 1) := by decide +kernel
theorem dX11_edge_8 : decode cX11_edge 8 = .ok (.getfield 16, 3) := by decide +kernel
theorem dX11_edge_11 : decode cX11_edge 11 = .ok (.bipush 14, 2) := by decide +kernel
theorem dX11_edge_13 : decode cX11_edge 13 = .ok (.iaload, 1) := by decide +kernel
theorem dX11_edge_14 : decode cX11_edge 14 = .ok (.if_icmp .ge 71, 3) := by decide +kernel
theorem dX11_edge_17 : decode cX11_edge 17 = .ok (.iload_n 1, 1) := by decide +kernel
theorem dX11_edge_18 : decode cX11_edge 18 = .ok (.ifCond .eq 17, 3) := by decide +kernel
theorem dX11_edge_21 : decode cX11_edge 21 = .ok (.aload_n 0, 1) := by decide +kernel
theorem dX11_edge_22 : decode cX11_edge 22 = .ok (.getfield 22, 3) := by decide +kernel
theorem dX11_edge_25 : decode cX11_edge 25 = .ok (.sipush 672, 3) := by decide +kernel
theorem dX11_edge_28 : decode cX11_edge 28 = .ok (.iload 4, 2) := by decide +kernel
theorem dX11_edge_30 : decode cX11_edge 30 = .ok (.iadd, 1) := by decide +kernel
theorem dX11_edge_31 : decode cX11_edge 31 = .ok (.iaload, 1) := by decide +kernel
theorem dX11_edge_32 : decode cX11_edge 32 = .ok (.goto 14, 3) := by decide +kernel
theorem dX11_edge_35 : decode cX11_edge 35 = .ok (.aload_n 0, 1) := by decide +kernel
theorem dX11_edge_36 : decode cX11_edge 36 = .ok (.getfield 19, 3) := by decide +kernel
theorem dX11_edge_39 : decode cX11_edge 39 = .ok (.sipush 672, 3) := by decide +kernel
theorem dX11_edge_42 : decode cX11_edge 42 = .ok (.iload 4, 2) := by decide +kernel
theorem dX11_edge_44 : decode cX11_edge 44 = .ok (.iadd, 1) := by decide +kernel
theorem dX11_edge_45 : decode cX11_edge 45 = .ok (.iaload, 1) := by decide +kernel
theorem dX11_edge_46 : decode cX11_edge 46 = .ok (.istore 5, 2) := by decide +kernel
theorem dX11_edge_48 : decode cX11_edge 48 = .ok (.iload 4, 2) := by decide +kernel
theorem dX11_edge_50 : decode cX11_edge 50 = .ok (.ifCond .eq 22, 3) := by decide +kernel
theorem dX11_edge_53 : decode cX11_edge 53 = .ok (.iload_n 2, 1) := by decide +kernel
theorem dX11_edge_54 : decode cX11_edge 54 = .ok (.ifCond .eq 12, 3) := by decide +kernel
theorem dX11_edge_57 : decode cX11_edge 57 = .ok (.iload 5, 2) := by decide +kernel
theorem dX11_edge_59 : decode cX11_edge 59 = .ok (.iload_n 3, 1) := by decide +kernel
theorem dX11_edge_60 : decode cX11_edge 60 = .ok (.if_icmp .le 17, 3) := by decide +kernel
theorem dX11_edge_63 : decode cX11_edge 63 = .ok (.goto 9, 3) := by decide +kernel
theorem dX11_edge_66 : decode cX11_edge 66 = .ok (.iload 5, 2) := by decide +kernel
theorem dX11_edge_68 : decode cX11_edge 68 = .ok (.iload_n 3, 1) := by decide +kernel
theorem dX11_edge_69 : decode cX11_edge 69 = .ok (.if_icmp .ge 8, 3) := by decide +kernel
theorem dX11_edge_72 : decode cX11_edge 72 = .ok (.iload 5, 2) := by decide +kernel
theorem dX11_edge_74 : decode cX11_edge 74 = .ok (.goto 4, 3) := by decide +kernel
theorem dX11_edge_77 : decode cX11_edge 77 = .ok (.iload_n 3, 1) := by decide +kernel
theorem dX11_edge_78 : decode cX11_edge 78 = .ok (.istore_n 3, 1) := by decide +kernel
theorem dX11_edge_79 : decode cX11_edge 79 = .ok (.iinc 4 1, 3) := by decide +kernel
theorem dX11_edge_82 : decode cX11_edge 82 = .ok (.goto (-77), 3) := by decide +kernel
theorem dX11_edge_85 : decode cX11_edge 85 = .ok (.iload_n 3, 1) := by decide +kernel
theorem dX11_edge_86 : decode cX11_edge 86 = .ok (.ireturn, 1) := by decide +kernel
set_option maxRecDepth 20000 in
theorem ggX11_disc_X11_in : GoodIn wsX11_disc wsX11_in := goodIn_r _ [6] (by decide +kernel) (by decide +kernel)
set_option maxRecDepth 20000 in
theorem gX11_disc_X11_in : GoodIn wsX11_disc (va_wsS RX11 147 yX11_in wsX11_in) := goodIn_app (goodIn_of _ (by decide +kernel)) ggX11_disc_X11_in
set_option maxRecDepth 20000 in
theorem ggX11_disc_X11_lengthOf : GoodIn wsX11_disc wsX11_lengthOf := goodIn_r _ [10, 1, 11, 24, 25, 26, 27, 28, 29, 30, 31, 32, 33, 34, 35, 36, 37, 38, 39, 40, 41, 42, 43, 44, 45, 46, 47, 48, 49, 50, 51, 52, 53, 54, 55, 56, 57, 58, 59, 60, 61, 62, 63, 64, 65, 66, 67, 68, 69, 70, 71, 72, 73, 74, 75, 76, 77, 78, 79, 80, 81, 82, 83, 84, 85] (by decide +kernel) (by decide +kernel)
set_option maxRecDepth 20000 in
theorem gX11_disc_X11_lengthOf : GoodIn wsX11_disc (wsV RX11 212 RX11 yX11_lengthOf wsX11_lengthOf) := goodIn_app (goodIn_of _ (by decide +kernel)) ggX11_disc_X11_lengthOf
set_option maxRecDepth 20000 in
theorem ggX11_disc_X11_steepOf : GoodIn wsX11_disc wsX11_steepOf := goodIn_r _ [15, 16, 1, 17, 18, 5, 19, 24, 25, 26, 27, 28, 29, 30, 31, 32, 33, 34, 35, 36, 37, 38, 39, 40, 41, 42, 43, 44, 45, 46, 47, 48, 49, 50, 51, 52, 53, 54, 55, 56, 57, 58, 59, 60, 61, 62, 63, 64, 65, 66, 67, 68, 69, 70, 71, 72, 73, 74, 75, 76, 77, 78, 79, 80, 81, 82, 83, 84, 85] (by decide +kernel) (by decide +kernel)
set_option maxRecDepth 20000 in
theorem gX11_disc_X11_steepOf : GoodIn wsX11_disc (wsV RX11 215 RX11 yX11_steepOf wsX11_steepOf) := goodIn_app (goodIn_of _ (by decide +kernel)) ggX11_disc_X11_steepOf
set_option maxRecDepth 20000 in
theorem ggX11_disc_X11_edge : GoodIn wsX11_disc wsX11_edge := goodIn_r _ [23, 1, 11, 16, 24, 25, 26, 27, 28, 29, 30, 31, 32, 33, 34, 35, 36, 37, 38, 39, 40, 41, 42, 43, 44, 45, 46, 47, 48, 49, 50, 51, 52, 53, 54, 55, 56, 57, 58, 59, 60, 61, 62, 63, 64, 65, 66, 67, 68, 69, 70, 71, 72, 73, 74, 75, 76, 77, 78, 79, 80, 81, 82, 83, 84, 85] (by decide +kernel) (by decide +kernel)
set_option maxRecDepth 20000 in
theorem gX11_disc_X11_edge : GoodIn wsX11_disc (wsV RX11 218 RX11 yX11_edge wsX11_edge) := goodIn_app (goodIn_of _ (by decide +kernel)) ggX11_disc_X11_edge
theorem dX11_disc_0 : decode cX11_disc 0 = .ok (.aload_n 0, 1) := by decide +kernel
theorem dX11_disc_1 : decode cX11_disc 1 = .ok (.iload_n 1, 1) := by decide +kernel
theorem dX11_disc_2 : decode cX11_disc 2 = .ok (.iconst 0, 1) := by decide +kernel
theorem dX11_disc_3 : decode cX11_disc 3 = .ok (.bipush 6, 2) := by decide +kernel
theorem dX11_disc_5 : decode cX11_disc 5 = .ok (.invokestatic 147, 3) := by decide +kernel
theorem dX11_disc_8 : decode cX11_disc 8 = .ok (.ifCond .ne 7, 3) := by decide +kernel
theorem dX11_disc_11 : decode cX11_disc 11 = .ok (.iconst 1, 1) := by decide +kernel
theorem dX11_disc_12 : decode cX11_disc 12 = .ok (.goto 18, 3) := by decide +kernel
theorem dX11_disc_15 : decode cX11_disc 15 = .ok (.aload_n 0, 1) := by decide +kernel
theorem dX11_disc_16 : decode cX11_disc 16 = .ok (.getfield 16, 3) := by decide +kernel
theorem dX11_disc_19 : decode cX11_disc 19 = .ok (.bipush 14, 2) := by decide +kernel
theorem dX11_disc_21 : decode cX11_disc 21 = .ok (.iaload, 1) := by decide +kernel
theorem dX11_disc_22 : decode cX11_disc 22 = .ok (.ifCond .ne 7, 3) := by decide +kernel
theorem dX11_disc_25 : decode cX11_disc 25 = .ok (.iconst 2, 1) := by decide +kernel
theorem dX11_disc_26 : decode cX11_disc 26 = .ok (.goto 4, 3) := by decide +kernel
theorem dX11_disc_29 : decode cX11_disc 29 = .ok (.iconst 0, 1) := by decide +kernel
theorem dX11_disc_30 : decode cX11_disc 30 = .ok (.putfield 103, 3) := by decide +kernel
theorem dX11_disc_33 : decode cX11_disc 33 = .ok (.aload_n 0, 1) := by decide +kernel
theorem dX11_disc_34 : decode cX11_disc 34 = .ok (.getfield 103, 3) := by decide +kernel
theorem dX11_disc_37 : decode cX11_disc 37 = .ok (.ifCond .eq 5, 3) := by decide +kernel
theorem dX11_disc_40 : decode cX11_disc 40 = .ok (.iconst 0, 1) := by decide +kernel
theorem dX11_disc_41 : decode cX11_disc 41 = .ok (.ireturn, 1) := by decide +kernel
theorem dX11_disc_42 : decode cX11_disc 42 = .ok (.iload_n 1, 1) := by decide +kernel
theorem dX11_disc_43 : decode cX11_disc 43 = .ok (.tableswitch 47 0 2 #[25, 33, 40], 25) := by decide +kernel
theorem dX11_disc_68 : decode cX11_disc 68 = .ok (.aload_n 0, 1) := by decide +kernel
theorem dX11_disc_69 : decode cX11_disc 69 = .ok (.getfield 16, 3) := by decide +kernel
theorem dX11_disc_72 : decode cX11_disc 72 = .ok (.bipush 14, 2) := by decide +kernel
theorem dX11_disc_74 : decode cX11_disc 74 = .ok (.iaload, 1) := by decide +kernel
theorem dX11_disc_75 : decode cX11_disc 75 = .ok (.ireturn, 1) := by decide +kernel
theorem dX11_disc_76 : decode cX11_disc 76 = .ok (.aload_n 0, 1) := by decide +kernel
theorem dX11_disc_77 : decode cX11_disc 77 = .ok (.bipush 14, 2) := by decide +kernel
theorem dX11_disc_79 : decode cX11_disc 79 = .ok (.invokevirtual 212, 3) := by decide +kernel
theorem dX11_disc_82 : decode cX11_disc 82 = .ok (.ireturn, 1) := by decide +kernel
theorem dX11_disc_83 : decode cX11_disc 83 = .ok (.aload_n 0, 1) := by decide +kernel
theorem dX11_disc_84 : decode cX11_disc 84 = .ok (.bipush 14, 2) := by decide +kernel
theorem dX11_disc_86 : decode cX11_disc 86 = .ok (.invokevirtual 215, 3) := by decide +kernel
theorem dX11_disc_89 : decode cX11_disc 89 = .ok (.ireturn, 1) := by decide +kernel
theorem dX11_disc_90 : decode cX11_disc 90 = .ok (.aload_n 0, 1) := by decide +kernel
theorem dX11_disc_91 : decode cX11_disc 91 = .ok (.iload_n 1, 1) := by decide +kernel
theorem dX11_disc_92 : decode cX11_disc 92 = .ok (.iconst 4, 1) := by decide +kernel
theorem dX11_disc_93 : decode cX11_disc 93 = .ok (.if_icmp .le 7, 3) := by decide +kernel
theorem dX11_disc_96 : decode cX11_disc 96 = .ok (.iconst 1, 1) := by decide +kernel
theorem dX11_disc_97 : decode cX11_disc 97 = .ok (.goto 4, 3) := by decide +kernel
theorem dX11_disc_100 : decode cX11_disc 100 = .ok (.iconst 0, 1) := by decide +kernel
theorem dX11_disc_101 : decode cX11_disc 101 = .ok (.iload_n 1, 1) := by decide +kernel
theorem dX11_disc_102 : decode cX11_disc 102 = .ok (.iconst 3, 1) := by decide +kernel
theorem dX11_disc_103 : decode cX11_disc 103 = .ok (.if_icmp .eq 8, 3) := by decide +kernel
theorem dX11_disc_106 : decode cX11_disc 106 = .ok (.iload_n 1, 1) := by decide +kernel
theorem dX11_disc_107 : decode cX11_disc 107 = .ok (.iconst 5, 1) := by decide +kernel
theorem dX11_disc_108 : decode cX11_disc 108 = .ok (.if_icmp .ne 7, 3) := by decide +kernel
theorem dX11_disc_111 : decode cX11_disc 111 = .ok (.iconst 1, 1) := by decide +kernel
theorem dX11_disc_112 : decode cX11_disc 112 = .ok (.goto 4, 3) := by decide +kernel
theorem dX11_disc_115 : decode cX11_disc 115 = .ok (.iconst 0, 1) := by decide +kernel
theorem dX11_disc_116 : decode cX11_disc 116 = .ok (.invokevirtual 218, 3) := by decide +kernel
theorem dX11_disc_119 : decode cX11_disc 119 = .ok (.ireturn, 1) := by decide +kernel
set_option maxRecDepth 20000 in
theorem ggX11_stitch_X11_in : GoodIn wsX11_stitch wsX11_in := goodIn_r _ [8] (by decide +kernel) (by decide +kernel)
set_option maxRecDepth 20000 in
theorem gX11_stitch_X11_in : GoodIn wsX11_stitch (va_wsS RX11 147 yX11_in wsX11_in) := goodIn_app (goodIn_of _ (by decide +kernel)) ggX11_stitch_X11_in
theorem dX11_stitch_0 : decode cX11_stitch 0 = .ok (.aload_n 0, 1) := by decide +kernel
theorem dX11_stitch_1 : decode cX11_stitch 1 = .ok (.iload_n 2, 1) := by decide +kernel
theorem dX11_stitch_2 : decode cX11_stitch 2 = .ok (.iconst 0, 1) := by decide +kernel
theorem dX11_stitch_3 : decode cX11_stitch 3 = .ok (.iconst 1, 1) := by decide +kernel
theorem dX11_stitch_4 : decode cX11_stitch 4 = .ok (.invokestatic 147, 3) := by decide +kernel
theorem dX11_stitch_7 : decode cX11_stitch 7 = .ok (.ifCond .ne 7, 3) := by decide +kernel
theorem dX11_stitch_10 : decode cX11_stitch 10 = .ok (.iconst 1, 1) := by decide +kernel
theorem dX11_stitch_11 : decode cX11_stitch 11 = .ok (.goto 25, 3) := by decide +kernel
theorem dX11_stitch_14 : decode cX11_stitch 14 = .ok (.iload_n 1, 1) := by decide +kernel
theorem dX11_stitch_15 : decode cX11_stitch 15 = .ok (.iconst 0, 1) := by decide +kernel
theorem dX11_stitch_16 : decode cX11_stitch 16 = .ok (.aload_n 0, 1) := by decide +kernel
theorem dX11_stitch_17 : decode cX11_stitch 17 = .ok (.getfield 16, 3) := by decide +kernel
theorem dX11_stitch_20 : decode cX11_stitch 20 = .ok (.bipush 14, 2) := by decide +kernel
theorem dX11_stitch_22 : decode cX11_stitch 22 = .ok (.iaload, 1) := by decide +kernel
theorem dX11_stitch_23 : decode cX11_stitch 23 = .ok (.iconst 1, 1) := by decide +kernel
theorem dX11_stitch_24 : decode cX11_stitch 24 = .ok (.isub, 1) := by decide +kernel
theorem dX11_stitch_25 : decode cX11_stitch 25 = .ok (.invokestatic 147, 3) := by decide +kernel
theorem dX11_stitch_28 : decode cX11_stitch 28 = .ok (.ifCond .ne 7, 3) := by decide +kernel
theorem dX11_stitch_31 : decode cX11_stitch 31 = .ok (.iconst 2, 1) := by decide +kernel
theorem dX11_stitch_32 : decode cX11_stitch 32 = .ok (.goto 4, 3) := by decide +kernel
theorem dX11_stitch_35 : decode cX11_stitch 35 = .ok (.iconst 0, 1) := by decide +kernel
theorem dX11_stitch_36 : decode cX11_stitch 36 = .ok (.putfield 103, 3) := by decide +kernel
theorem dX11_stitch_39 : decode cX11_stitch 39 = .ok (.aload_n 0, 1) := by decide +kernel
theorem dX11_stitch_40 : decode cX11_stitch 40 = .ok (.getfield 103, 3) := by decide +kernel
theorem dX11_stitch_43 : decode cX11_stitch 43 = .ok (.ifCond .eq 7, 3) := by decide +kernel
theorem dX11_stitch_46 : decode cX11_stitch 46 = .ok (.iconst 0, 1) := by decide +kernel
theorem dX11_stitch_47 : decode cX11_stitch 47 = .ok (.goto 30, 3) := by decide +kernel
theorem dX11_stitch_50 : decode cX11_stitch 50 = .ok (.iload_n 2, 1) := by decide +kernel
theorem dX11_stitch_51 : decode cX11_stitch 51 = .ok (.ifCond .ne 16, 3) := by decide +kernel
theorem dX11_stitch_54 : decode cX11_stitch 54 = .ok (.aload_n 0, 1) := by decide +kernel
theorem dX11_stitch_55 : decode cX11_stitch 55 = .ok (.getfield 19, 3) := by decide +kernel
theorem dX11_stitch_58 : decode cX11_stitch 58 = .ok (.sipush 672, 3) := by decide +kernel
theorem dX11_stitch_61 : decode cX11_stitch 61 = .ok (.iload_n 1, 1) := by decide +kernel
theorem dX11_stitch_62 : decode cX11_stitch 62 = .ok (.iadd, 1) := by decide +kernel
theorem dX11_stitch_63 : decode cX11_stitch 63 = .ok (.iaload, 1) := by decide +kernel
theorem dX11_stitch_64 : decode cX11_stitch 64 = .ok (.goto 13, 3) := by decide +kernel
theorem dX11_stitch_67 : decode cX11_stitch 67 = .ok (.aload_n 0, 1) := by decide +kernel
theorem dX11_stitch_68 : decode cX11_stitch 68 = .ok (.getfield 22, 3) := by decide +kernel
theorem dX11_stitch_71 : decode cX11_stitch 71 = .ok (.sipush 672, 3) := by decide +kernel
theorem dX11_stitch_74 : decode cX11_stitch 74 = .ok (.iload_n 1, 1) := by decide +kernel
theorem dX11_stitch_75 : decode cX11_stitch 75 = .ok (.iadd, 1) := by decide +kernel
theorem dX11_stitch_76 : decode cX11_stitch 76 = .ok (.iaload, 1) := by decide +kernel
theorem dX11_stitch_77 : decode cX11_stitch 77 = .ok (.ireturn, 1) := by decide +kernel
set_option maxRecDepth 20000 in
theorem ggX11_file_X11_in : GoodIn wsX11_file wsX11_in := goodIn_r _ [7] (by decide +kernel) (by decide +kernel)
set_option maxRecDepth 20000 in
theorem gX11_file_X11_in : GoodIn wsX11_file (va_wsS RX11 147 yX11_in wsX11_in) := goodIn_app (goodIn_of _ (by decide +kernel)) ggX11_file_X11_in
theorem dX11_file_0 : decode cX11_file 0 = .ok (.iload_n 1, 1) := by decide +kernel
theorem dX11_file_1 : decode cX11_file 1 = .ok (.iconst 0, 1) := by decide +kernel
theorem dX11_file_2 : decode cX11_file 2 = .ok (.aload_n 0, 1) := by decide +kernel
theorem dX11_file_3 : decode cX11_file 3 = .ok (.getfield 16, 3) := by decide +kernel
theorem dX11_file_6 : decode cX11_file 6 = .ok (.bipush 14, 2) := by decide +kernel
theorem dX11_file_8 : decode cX11_file 8 = .ok (.iaload, 1) := by decide +kernel
theorem dX11_file_9 : decode cX11_file 9 = .ok (.iconst 1, 1) := by decide +kernel
theorem dX11_file_10 : decode cX11_file 10 = .ok (.isub, 1) := by decide +kernel
theorem dX11_file_11 : decode cX11_file 11 = .ok (.invokestatic 147, 3) := by decide +kernel
theorem dX11_file_14 : decode cX11_file 14 = .ok (.ifCond .eq 25, 3) := by decide +kernel
theorem dX11_file_17 : decode cX11_file 17 = .ok (.iload_n 2, 1) := by decide +kernel
theorem dX11_file_18 : decode cX11_file 18 = .ok (.bipush (-12), 2) := by decide +kernel
theorem dX11_file_20 : decode cX11_file 20 = .ok (.bipush 12, 2) := by decide +kernel
theorem dX11_file_22 : decode cX11_file 22 = .ok (.invokestatic 147, 3) := by decide +kernel
theorem dX11_file_25 : decode cX11_file 25 = .ok (.ifCond .eq 14, 3) := by decide +kernel
theorem dX11_file_28 : decode cX11_file 28 = .ok (.iload_n 3, 1) := by decide +kernel
theorem dX11_file_29 : decode cX11_file 29 = .ok (.bipush (-12), 2) := by decide +kernel
theorem dX11_file_31 : decode cX11_file 31 = .ok (.bipush 12, 2) := by decide +kernel
theorem dX11_file_33 : decode cX11_file 33 = .ok (.invokestatic 147, 3) := by decide +kernel
theorem dX11_file_36 : decode cX11_file 36 = .ok (.ifCond .ne 5, 3) := by decide +kernel
theorem dX11_file_39 : decode cX11_file 39 = .ok (.iconst (-1), 1) := by decide +kernel
theorem dX11_file_40 : decode cX11_file 40 = .ok (.ireturn, 1) := by decide +kernel
theorem dX11_file_41 : decode cX11_file 41 = .ok (.aload_n 0, 1) := by decide +kernel
theorem dX11_file_42 : decode cX11_file 42 = .ok (.getfield 19, 3) := by decide +kernel
theorem dX11_file_45 : decode cX11_file 45 = .ok (.sipush 672, 3) := by decide +kernel
theorem dX11_file_48 : decode cX11_file 48 = .ok (.iload_n 1, 1) := by decide +kernel
theorem dX11_file_49 : decode cX11_file 49 = .ok (.iadd, 1) := by decide +kernel
theorem dX11_file_50 : decode cX11_file 50 = .ok (.iload_n 2, 1) := by decide +kernel
theorem dX11_file_51 : decode cX11_file 51 = .ok (.iastore, 1) := by decide +kernel
theorem dX11_file_52 : decode cX11_file 52 = .ok (.aload_n 0, 1) := by decide +kernel
theorem dX11_file_53 : decode cX11_file 53 = .ok (.getfield 22, 3) := by decide +kernel
theorem dX11_file_56 : decode cX11_file 56 = .ok (.sipush 672, 3) := by decide +kernel
theorem dX11_file_59 : decode cX11_file 59 = .ok (.iload_n 1, 1) := by decide +kernel
theorem dX11_file_60 : decode cX11_file 60 = .ok (.iadd, 1) := by decide +kernel
theorem dX11_file_61 : decode cX11_file 61 = .ok (.iload_n 3, 1) := by decide +kernel
theorem dX11_file_62 : decode cX11_file 62 = .ok (.iastore, 1) := by decide +kernel
theorem dX11_file_63 : decode cX11_file 63 = .ok (.iconst 1, 1) := by decide +kernel
theorem dX11_file_64 : decode cX11_file 64 = .ok (.ireturn, 1) := by decide +kernel
theorem dX11_makes_0 : decode cX11_makes 0 = .ok (.aload_n 0, 1) := by decide +kernel
theorem dX11_makes_1 : decode cX11_makes 1 = .ok (.getfield 109, 3) := by decide +kernel
theorem dX11_makes_4 : decode cX11_makes 4 = .ok (.ifCond .eq 13, 3) := by decide +kernel
theorem dX11_makes_7 : decode cX11_makes 7 = .ok (.aload_n 0, 1) := by decide +kernel
theorem dX11_makes_8 : decode cX11_makes 8 = .ok (.getfield 16, 3) := by decide +kernel
theorem dX11_makes_11 : decode cX11_makes 11 = .ok (.bipush 14, 2) := by decide +kernel
theorem dX11_makes_13 : decode cX11_makes 13 = .ok (.iaload, 1) := by decide +kernel
theorem dX11_makes_14 : decode cX11_makes 14 = .ok (.ifCond .ne 6, 3) := by decide +kernel
theorem dX11_makes_17 : decode cX11_makes 17 = .ok (.bipush (-3), 2) := by decide +kernel
theorem dX11_makes_19 : decode cX11_makes 19 = .ok (.ireturn, 1) := by decide +kernel
theorem dX11_makes_20 : decode cX11_makes 20 = .ok (.iconst 1, 1) := by decide +kernel
theorem dX11_makes_21 : decode cX11_makes 21 = .ok (.istore_n 1, 1) := by decide +kernel
theorem dX11_makes_22 : decode cX11_makes 22 = .ok (.aload_n 0, 1) := by decide +kernel
theorem dX11_makes_23 : decode cX11_makes 23 = .ok (.getfield 13, 3) := by decide +kernel
theorem dX11_makes_26 : decode cX11_makes 26 = .ok (.iconst 0, 1) := by decide +kernel
theorem dX11_makes_27 : decode cX11_makes 27 = .ok (.iaload, 1) := by decide +kernel
theorem dX11_makes_28 : decode cX11_makes 28 = .ok (.istore_n 2, 1) := by decide +kernel
theorem dX11_makes_29 : decode cX11_makes 29 = .ok (.aload_n 0, 1) := by decide +kernel
theorem dX11_makes_30 : decode cX11_makes 30 = .ok (.getfield 16, 3) := by decide +kernel
theorem dX11_makes_33 : decode cX11_makes 33 = .ok (.bipush 14, 2) := by decide +kernel
theorem dX11_makes_35 : decode cX11_makes 35 = .ok (.iaload, 1) := by decide +kernel
theorem dX11_makes_36 : decode cX11_makes 36 = .ok (.istore_n 3, 1) := by decide +kernel
theorem dX11_makes_37 : decode cX11_makes 37 = .ok (.iconst 0, 1) := by decide +kernel
theorem dX11_makes_38 : decode cX11_makes 38 = .ok (.istore 4, 2) := by decide +kernel
theorem dX11_makes_40 : decode cX11_makes 40 = .ok (.iload 4, 2) := by decide +kernel
theorem dX11_makes_42 : decode cX11_makes 42 = .ok (.iload_n 3, 1) := by decide +kernel
theorem dX11_makes_43 : decode cX11_makes 43 = .ok (.if_icmp .ge 118, 3) := by decide +kernel
theorem dX11_makes_46 : decode cX11_makes 46 = .ok (.sipush 672, 3) := by decide +kernel
theorem dX11_makes_49 : decode cX11_makes 49 = .ok (.iload 4, 2) := by decide +kernel
theorem dX11_makes_51 : decode cX11_makes 51 = .ok (.iadd, 1) := by decide +kernel
theorem dX11_makes_52 : decode cX11_makes 52 = .ok (.istore 5, 2) := by decide +kernel
theorem dX11_makes_54 : decode cX11_makes 54 = .ok (.iload_n 2, 1) := by decide +kernel
theorem dX11_makes_55 : decode cX11_makes 55 = .ok (.aload_n 0, 1) := by decide +kernel
theorem dX11_makes_56 : decode cX11_makes 56 = .ok (.getfield 22, 3) := by decide +kernel
theorem dX11_makes_59 : decode cX11_makes 59 = .ok (.iload 5, 2) := by decide +kernel
theorem dX11_makes_61 : decode cX11_makes 61 = .ok (.iaload, 1) := by decide +kernel
theorem dX11_makes_62 : decode cX11_makes 62 = .ok (.iadd, 1) := by decide +kernel
theorem dX11_makes_63 : decode cX11_makes 63 = .ok (.istore_n 2, 1) := by decide +kernel
theorem dX11_makes_64 : decode cX11_makes 64 = .ok (.iload_n 1, 1) := by decide +kernel
theorem dX11_makes_65 : decode cX11_makes 65 = .ok (.aload_n 0, 1) := by decide +kernel
theorem dX11_makes_66 : decode cX11_makes 66 = .ok (.getfield 109, 3) := by decide +kernel
theorem dX11_makes_69 : decode cX11_makes 69 = .ok (.if_icmp .ge 35, 3) := by decide +kernel
theorem dX11_makes_72 : decode cX11_makes 72 = .ok (.aload_n 0, 1) := by decide +kernel
theorem dX11_makes_73 : decode cX11_makes 73 = .ok (.getfield 19, 3) := by decide +kernel
theorem dX11_makes_76 : decode cX11_makes 76 = .ok (.iload 5, 2) := by decide +kernel
theorem dX11_makes_78 : decode cX11_makes 78 = .ok (.iaload, 1) := by decide +kernel
theorem dX11_makes_79 : decode cX11_makes 79 = .ok (.aload_n 0, 1) := by decide +kernel
theorem dX11_makes_80 : decode cX11_makes 80 = .ok (.getfield 7, 3) := by decide +kernel
theorem dX11_makes_83 : decode cX11_makes 83 = .ok (.iload_n 1, 1) := by decide +kernel
theorem dX11_makes_84 : decode cX11_makes 84 = .ok (.iaload, 1) := by decide +kernel
theorem dX11_makes_85 : decode cX11_makes 85 = .ok (.if_icmp .ne 19, 3) := by decide +kernel
theorem dX11_makes_88 : decode cX11_makes 88 = .ok (.iload_n 2, 1) := by decide +kernel
theorem dX11_makes_89 : decode cX11_makes 89 = .ok (.aload_n 0, 1) := by decide +kernel
theorem dX11_makes_90 : decode cX11_makes 90 = .ok (.getfield 13, 3) := by decide +kernel
theorem dX11_makes_93 : decode cX11_makes 93 = .ok (.iload_n 1, 1) := by decide +kernel
theorem dX11_makes_94 : decode cX11_makes 94 = .ok (.iaload, 1) := by decide +kernel
theorem dX11_makes_95 : decode cX11_makes 95 = .ok (.if_icmp .ne 9, 3) := by decide +kernel
theorem dX11_makes_98 : decode cX11_makes 98 = .ok (.iinc 1 1, 3) := by decide +kernel
theorem dX11_makes_101 : decode cX11_makes 101 = .ok (.goto 54, 3) := by decide +kernel
theorem dX11_makes_104 : decode cX11_makes 104 = .ok (.iload_n 1, 1) := by decide +kernel
theorem dX11_makes_105 : decode cX11_makes 105 = .ok (.aload_n 0, 1) := by decide +kernel
theorem dX11_makes_106 : decode cX11_makes 106 = .ok (.getfield 109, 3) := by decide +kernel
theorem dX11_makes_109 : decode cX11_makes 109 = .ok (.if_icmp .ne 46, 3) := by decide +kernel
theorem dX11_makes_112 : decode cX11_makes 112 = .ok (.iload 4, 2) := by decide +kernel
theorem dX11_makes_114 : decode cX11_makes 114 = .ok (.iload_n 3, 1) := by decide +kernel
theorem dX11_makes_115 : decode cX11_makes 115 = .ok (.iconst 1, 1) := by decide +kernel
theorem dX11_makes_116 : decode cX11_makes 116 = .ok (.isub, 1) := by decide +kernel
theorem dX11_makes_117 : decode cX11_makes 117 = .ok (.if_icmp .ne 38, 3) := by decide +kernel
theorem dX11_makes_120 : decode cX11_makes 120 = .ok (.aload_n 0, 1) := by decide +kernel
theorem dX11_makes_121 : decode cX11_makes 121 = .ok (.getfield 19, 3) := by decide +kernel
theorem dX11_makes_124 : decode cX11_makes 124 = .ok (.iload 5, 2) := by decide +kernel
theorem dX11_makes_126 : decode cX11_makes 126 = .ok (.iaload, 1) := by decide +kernel
theorem dX11_makes_127 : decode cX11_makes 127 = .ok (.aload_n 0, 1) := by decide +kernel
theorem dX11_makes_128 : decode cX11_makes 128 = .ok (.getfield 7, 3) := by decide +kernel
theorem dX11_makes_131 : decode cX11_makes 131 = .ok (.iconst 0, 1) := by decide +kernel
theorem dX11_makes_132 : decode cX11_makes 132 = .ok (.iaload, 1) := by decide +kernel
theorem dX11_makes_133 : decode cX11_makes 133 = .ok (.if_icmp .ne 22, 3) := by decide +kernel
theorem dX11_makes_136 : decode cX11_makes 136 = .ok (.iload_n 2, 1) := by decide +kernel
theorem dX11_makes_137 : decode cX11_makes 137 = .ok (.aload_n 0, 1) := by decide +kernel
theorem dX11_makes_138 : decode cX11_makes 138 = .ok (.getfield 13, 3) := by decide +kernel
theorem dX11_makes_141 : decode cX11_makes 141 = .ok (.iconst 0, 1) := by decide +kernel
theorem dX11_makes_142 : decode cX11_makes 142 = .ok (.iaload, 1) := by decide +kernel
theorem dX11_makes_143 : decode cX11_makes 143 = .ok (.aload_n 0, 1) := by decide +kernel
theorem dX11_makes_144 : decode cX11_makes 144 = .ok (.getfield 192, 3) := by decide +kernel
theorem dX11_makes_147 : decode cX11_makes 147 = .ok (.iadd, 1) := by decide +kernel
theorem dX11_makes_148 : decode cX11_makes 148 = .ok (.if_icmp .ne 7, 3) := by decide +kernel
theorem dX11_makes_151 : decode cX11_makes 151 = .ok (.sipush 9999, 3) := by decide +kernel
theorem dX11_makes_154 : decode cX11_makes 154 = .ok (.ireturn, 1) := by decide +kernel
theorem dX11_makes_155 : decode cX11_makes 155 = .ok (.iinc 4 1, 3) := by decide +kernel
theorem dX11_makes_158 : decode cX11_makes 158 = .ok (.goto (-118), 3) := by decide +kernel
theorem dX11_makes_161 : decode cX11_makes 161 = .ok (.iload_n 1, 1) := by decide +kernel
theorem dX11_makes_162 : decode cX11_makes 162 = .ok (.ireturn, 1) := by decide +kernel
theorem dX11_copies_0 : decode cX11_copies 0 = .ok (.aload_n 0, 1) := by decide +kernel
theorem dX11_copies_1 : decode cX11_copies 1 = .ok (.getfield 16, 3) := by decide +kernel
theorem dX11_copies_4 : decode cX11_copies 4 = .ok (.iload_n 2, 1) := by decide +kernel
theorem dX11_copies_5 : decode cX11_copies 5 = .ok (.aload_n 0, 1) := by decide +kernel
theorem dX11_copies_6 : decode cX11_copies 6 = .ok (.getfield 16, 3) := by decide +kernel
theorem dX11_copies_9 : decode cX11_copies 9 = .ok (.iload_n 1, 1) := by decide +kernel
theorem dX11_copies_10 : decode cX11_copies 10 = .ok (.iaload, 1) := by decide +kernel
theorem dX11_copies_11 : decode cX11_copies 11 = .ok (.iastore, 1) := by decide +kernel
theorem dX11_copies_12 : decode cX11_copies 12 = .ok (.iconst 0, 1) := by decide +kernel
theorem dX11_copies_13 : decode cX11_copies 13 = .ok (.istore_n 3, 1) := by decide +kernel
theorem dX11_copies_14 : decode cX11_copies 14 = .ok (.iload_n 3, 1) := by decide +kernel
theorem dX11_copies_15 : decode cX11_copies 15 = .ok (.aload_n 0, 1) := by decide +kernel
theorem dX11_copies_16 : decode cX11_copies 16 = .ok (.getfield 16, 3) := by decide +kernel
theorem dX11_copies_19 : decode cX11_copies 19 = .ok (.iload_n 1, 1) := by decide +kernel
theorem dX11_copies_20 : decode cX11_copies 20 = .ok (.iaload, 1) := by decide +kernel
theorem dX11_copies_21 : decode cX11_copies 21 = .ok (.if_icmp .ge 53, 3) := by decide +kernel
theorem dX11_copies_24 : decode cX11_copies 24 = .ok (.aload_n 0, 1) := by decide +kernel
theorem dX11_copies_25 : decode cX11_copies 25 = .ok (.getfield 19, 3) := by decide +kernel
theorem dX11_copies_28 : decode cX11_copies 28 = .ok (.bipush 48, 2) := by decide +kernel
theorem dX11_copies_30 : decode cX11_copies 30 = .ok (.iload_n 2, 1) := by decide +kernel
theorem dX11_copies_31 : decode cX11_copies 31 = .ok (.imul, 1) := by decide +kernel
theorem dX11_copies_32 : decode cX11_copies 32 = .ok (.iload_n 3, 1) := by decide +kernel
theorem dX11_copies_33 : decode cX11_copies 33 = .ok (.iadd, 1) := by decide +kernel
theorem dX11_copies_34 : decode cX11_copies 34 = .ok (.aload_n 0, 1) := by decide +kernel
theorem dX11_copies_35 : decode cX11_copies 35 = .ok (.getfield 19, 3) := by decide +kernel
theorem dX11_copies_38 : decode cX11_copies 38 = .ok (.bipush 48, 2) := by decide +kernel
theorem dX11_copies_40 : decode cX11_copies 40 = .ok (.iload_n 1, 1) := by decide +kernel
theorem dX11_copies_41 : decode cX11_copies 41 = .ok (.imul, 1) := by decide +kernel
theorem dX11_copies_42 : decode cX11_copies 42 = .ok (.iload_n 3, 1) := by decide +kernel
theorem dX11_copies_43 : decode cX11_copies 43 = .ok (.iadd, 1) := by decide +kernel
theorem dX11_copies_44 : decode cX11_copies 44 = .ok (.iaload, 1) := by decide +kernel
theorem dX11_copies_45 : decode cX11_copies 45 = .ok (.iastore, 1) := by decide +kernel
theorem dX11_copies_46 : decode cX11_copies 46 = .ok (.aload_n 0, 1) := by decide +kernel
theorem dX11_copies_47 : decode cX11_copies 47 = .ok (.getfield 22, 3) := by decide +kernel
theorem dX11_copies_50 : decode cX11_copies 50 = .ok (.bipush 48, 2) := by decide +kernel
theorem dX11_copies_52 : decode cX11_copies 52 = .ok (.iload_n 2, 1) := by decide +kernel
theorem dX11_copies_53 : decode cX11_copies 53 = .ok (.imul, 1) := by decide +kernel
theorem dX11_copies_54 : decode cX11_copies 54 = .ok (.iload_n 3, 1) := by decide +kernel
theorem dX11_copies_55 : decode cX11_copies 55 = .ok (.iadd, 1) := by decide +kernel
theorem dX11_copies_56 : decode cX11_copies 56 = .ok (.aload_n 0, 1) := by decide +kernel
theorem dX11_copies_57 : decode cX11_copies 57 = .ok (.getfield 22, 3) := by decide +kernel
theorem dX11_copies_60 : decode cX11_copies 60 = .ok (.bipush 48, 2) := by decide +kernel
theorem dX11_copies_62 : decode cX11_copies 62 = .ok (.iload_n 1, 1) := by decide +kernel
theorem dX11_copies_63 : decode cX11_copies 63 = .ok (.imul, 1) := by decide +kernel
theorem dX11_copies_64 : decode cX11_copies 64 = .ok (.iload_n 3, 1) := by decide +kernel
theorem dX11_copies_65 : decode cX11_copies 65 = .ok (.iadd, 1) := by decide +kernel
theorem dX11_copies_66 : decode cX11_copies 66 = .ok (.iaload, 1) := by decide +kernel
theorem dX11_copies_67 : decode cX11_copies 67 = .ok (.iastore, 1) := by decide +kernel
theorem dX11_copies_68 : decode cX11_copies 68 = .ok (.iinc 3 1, 3) := by decide +kernel
theorem dX11_copies_71 : decode cX11_copies 71 = .ok (.goto (-57), 3) := by decide +kernel
theorem dX11_copies_74 : decode cX11_copies 74 = .ok (.return_, 1) := by decide +kernel
set_option maxRecDepth 20000 in
theorem ggX11_lay_X11_in : GoodIn wsX11_lay wsX11_in := goodIn_r _ [5] (by decide +kernel) (by decide +kernel)
set_option maxRecDepth 20000 in
theorem gX11_lay_X11_in : GoodIn wsX11_lay (va_wsS RX11 147 yX11_in wsX11_in) := goodIn_app (goodIn_of _ (by decide +kernel)) ggX11_lay_X11_in
set_option maxRecDepth 20000 in
theorem ggX11_lay_X11_copies : GoodIn wsX11_lay wsX11_copies := goodIn_r _ [9, 1, 10, 11, 12, 13, 14, 15, 16, 17, 18, 19, 20, 21, 22, 23, 24, 25, 26, 27, 28, 29, 30, 31, 32, 33, 34, 35, 36, 37, 38, 39, 40, 41, 42, 43, 44, 45, 46, 47, 48, 49, 50, 51, 52, 53, 54, 55, 56, 57, 58, 59, 60, 61, 62, 63, 64, 65, 66, 67, 68, 69, 70, 71, 72, 73] (by decide +kernel) (by decide +kernel)
set_option maxRecDepth 20000 in
theorem gX11_lay_X11_copies : GoodIn wsX11_lay (wsV RX11 222 RX11 yX11_copies wsX11_copies) := goodIn_app (goodIn_of _ (by decide +kernel)) ggX11_lay_X11_copies
theorem dX11_lay_0 : decode cX11_lay 0 = .ok (.iload_n 1, 1) := by decide +kernel
theorem dX11_lay_1 : decode cX11_lay 1 = .ok (.iconst 0, 1) := by decide +kernel
theorem dX11_lay_2 : decode cX11_lay 2 = .ok (.bipush 7, 2) := by decide +kernel
theorem dX11_lay_4 : decode cX11_lay 4 = .ok (.invokestatic 147, 3) := by decide +kernel
theorem dX11_lay_7 : decode cX11_lay 7 = .ok (.ifCond .ne 5, 3) := by decide +kernel
theorem dX11_lay_10 : decode cX11_lay 10 = .ok (.iconst (-1), 1) := by decide +kernel
theorem dX11_lay_11 : decode cX11_lay 11 = .ok (.ireturn, 1) := by decide +kernel
theorem dX11_lay_12 : decode cX11_lay 12 = .ok (.aload_n 0, 1) := by decide +kernel
theorem dX11_lay_13 : decode cX11_lay 13 = .ok (.getfield 16, 3) := by decide +kernel
theorem dX11_lay_16 : decode cX11_lay 16 = .ok (.bipush 14, 2) := by decide +kernel
theorem dX11_lay_18 : decode cX11_lay 18 = .ok (.iaload, 1) := by decide +kernel
theorem dX11_lay_19 : decode cX11_lay 19 = .ok (.ifCond .ne 6, 3) := by decide +kernel
theorem dX11_lay_22 : decode cX11_lay 22 = .ok (.bipush (-3), 2) := by decide +kernel
theorem dX11_lay_24 : decode cX11_lay 24 = .ok (.ireturn, 1) := by decide +kernel
theorem dX11_lay_25 : decode cX11_lay 25 = .ok (.aload_n 0, 1) := by decide +kernel
theorem dX11_lay_26 : decode cX11_lay 26 = .ok (.bipush 14, 2) := by decide +kernel
theorem dX11_lay_28 : decode cX11_lay 28 = .ok (.iload_n 1, 1) := by decide +kernel
theorem dX11_lay_29 : decode cX11_lay 29 = .ok (.invokevirtual 222, 3) := by decide +kernel
theorem dX11_lay_32 : decode cX11_lay 32 = .ok (.aload_n 0, 1) := by decide +kernel
theorem dX11_lay_33 : decode cX11_lay 33 = .ok (.getfield 16, 3) := by decide +kernel
theorem dX11_lay_36 : decode cX11_lay 36 = .ok (.bipush 14, 2) := by decide +kernel
theorem dX11_lay_38 : decode cX11_lay 38 = .ok (.iaload, 1) := by decide +kernel
theorem dX11_lay_39 : decode cX11_lay 39 = .ok (.ireturn, 1) := by decide +kernel
set_option maxRecDepth 20000 in
theorem ggX11_take_X11_in : GoodIn wsX11_take wsX11_in := goodIn_r _ [5] (by decide +kernel) (by decide +kernel)
set_option maxRecDepth 20000 in
theorem gX11_take_X11_in : GoodIn wsX11_take (va_wsS RX11 147 yX11_in wsX11_in) := goodIn_app (goodIn_of _ (by decide +kernel)) ggX11_take_X11_in
set_option maxRecDepth 20000 in
theorem ggX11_take_X11_copies : GoodIn wsX11_take wsX11_copies := goodIn_r _ [9, 1, 10, 11, 12, 13, 14, 15, 16, 17, 18, 19, 20, 21, 22, 23, 24, 25, 26, 27, 28, 29, 30, 31, 32, 33, 34, 35, 36, 37, 38, 39, 40, 41, 42, 43, 44, 45, 46, 47, 48, 49, 50, 51, 52, 53, 54, 55, 56, 57, 58, 59, 60, 61, 62, 63, 64, 65, 66, 67, 68, 69, 70, 71, 72, 73] (by decide +kernel) (by decide +kernel)
set_option maxRecDepth 20000 in
theorem gX11_take_X11_copies : GoodIn wsX11_take (wsV RX11 222 RX11 yX11_copies wsX11_copies) := goodIn_app (goodIn_of _ (by decide +kernel)) ggX11_take_X11_copies
theorem dX11_take_0 : decode cX11_take 0 = .ok (.iload_n 1, 1) := by decide +kernel
theorem dX11_take_1 : decode cX11_take 1 = .ok (.iconst 0, 1) := by decide +kernel
theorem dX11_take_2 : decode cX11_take 2 = .ok (.bipush 7, 2) := by decide +kernel
theorem dX11_take_4 : decode cX11_take 4 = .ok (.invokestatic 147, 3) := by decide +kernel
theorem dX11_take_7 : decode cX11_take 7 = .ok (.ifCond .ne 5, 3) := by decide +kernel
theorem dX11_take_10 : decode cX11_take 10 = .ok (.iconst (-1), 1) := by decide +kernel
theorem dX11_take_11 : decode cX11_take 11 = .ok (.ireturn, 1) := by decide +kernel
theorem dX11_take_12 : decode cX11_take 12 = .ok (.aload_n 0, 1) := by decide +kernel
theorem dX11_take_13 : decode cX11_take 13 = .ok (.getfield 16, 3) := by decide +kernel
theorem dX11_take_16 : decode cX11_take 16 = .ok (.iload_n 1, 1) := by decide +kernel
theorem dX11_take_17 : decode cX11_take 17 = .ok (.iaload, 1) := by decide +kernel
theorem dX11_take_18 : decode cX11_take 18 = .ok (.ifCond .ne 6, 3) := by decide +kernel
theorem dX11_take_21 : decode cX11_take 21 = .ok (.bipush (-3), 2) := by decide +kernel
theorem dX11_take_23 : decode cX11_take 23 = .ok (.ireturn, 1) := by decide +kernel
theorem dX11_take_24 : decode cX11_take 24 = .ok (.aload_n 0, 1) := by decide +kernel
theorem dX11_take_25 : decode cX11_take 25 = .ok (.iload_n 1, 1) := by decide +kernel
theorem dX11_take_26 : decode cX11_take 26 = .ok (.bipush 14, 2) := by decide +kernel
theorem dX11_take_28 : decode cX11_take 28 = .ok (.invokevirtual 222, 3) := by decide +kernel
theorem dX11_take_31 : decode cX11_take 31 = .ok (.aload_n 0, 1) := by decide +kernel
theorem dX11_take_32 : decode cX11_take 32 = .ok (.getfield 16, 3) := by decide +kernel
theorem dX11_take_35 : decode cX11_take 35 = .ok (.bipush 14, 2) := by decide +kernel
theorem dX11_take_37 : decode cX11_take 37 = .ok (.iaload, 1) := by decide +kernel
theorem dX11_take_38 : decode cX11_take 38 = .ok (.ireturn, 1) := by decide +kernel
set_option maxRecDepth 20000 in
theorem ggX11_turn_X11_in : GoodIn wsX11_turn wsX11_in := goodIn_r _ [9] (by decide +kernel) (by decide +kernel)
set_option maxRecDepth 20000 in
theorem gX11_turn_X11_in : GoodIn wsX11_turn (va_wsS RX11 147 yX11_in wsX11_in) := goodIn_app (goodIn_of _ (by decide +kernel)) ggX11_turn_X11_in
theorem dX11_turn_0 : decode cX11_turn 0 = .ok (.aload_n 0, 1) := by decide +kernel
theorem dX11_turn_1 : decode cX11_turn 1 = .ok (.getfield 16, 3) := by decide +kernel
theorem dX11_turn_4 : decode cX11_turn 4 = .ok (.bipush 14, 2) := by decide +kernel
theorem dX11_turn_6 : decode cX11_turn 6 = .ok (.iaload, 1) := by decide +kernel
theorem dX11_turn_7 : decode cX11_turn 7 = .ok (.istore_n 3, 1) := by decide +kernel
theorem dX11_turn_8 : decode cX11_turn 8 = .ok (.iload_n 1, 1) := by decide +kernel
theorem dX11_turn_9 : decode cX11_turn 9 = .ok (.iconst 0, 1) := by decide +kernel
theorem dX11_turn_10 : decode cX11_turn 10 = .ok (.iload_n 3, 1) := by decide +kernel
theorem dX11_turn_11 : decode cX11_turn 11 = .ok (.iconst 1, 1) := by decide +kernel
theorem dX11_turn_12 : decode cX11_turn 12 = .ok (.isub, 1) := by decide +kernel
theorem dX11_turn_13 : decode cX11_turn 13 = .ok (.invokestatic 147, 3) := by decide +kernel
theorem dX11_turn_16 : decode cX11_turn 16 = .ok (.ifCond .eq 12, 3) := by decide +kernel
theorem dX11_turn_19 : decode cX11_turn 19 = .ok (.iload_n 2, 1) := by decide +kernel
theorem dX11_turn_20 : decode cX11_turn 20 = .ok (.iconst 0, 1) := by decide +kernel
theorem dX11_turn_21 : decode cX11_turn 21 = .ok (.iconst 1, 1) := by decide +kernel
theorem dX11_turn_22 : decode cX11_turn 22 = .ok (.invokestatic 147, 3) := by decide +kernel
theorem dX11_turn_25 : decode cX11_turn 25 = .ok (.ifCond .ne 5, 3) := by decide +kernel
theorem dX11_turn_28 : decode cX11_turn 28 = .ok (.iconst (-1), 1) := by decide +kernel
theorem dX11_turn_29 : decode cX11_turn 29 = .ok (.ireturn, 1) := by decide +kernel
theorem dX11_turn_30 : decode cX11_turn 30 = .ok (.iconst 0, 1) := by decide +kernel
theorem dX11_turn_31 : decode cX11_turn 31 = .ok (.istore 4, 2) := by decide +kernel
theorem dX11_turn_33 : decode cX11_turn 33 = .ok (.iload 4, 2) := by decide +kernel
theorem dX11_turn_35 : decode cX11_turn 35 = .ok (.iload_n 3, 1) := by decide +kernel
theorem dX11_turn_36 : decode cX11_turn 36 = .ok (.if_icmp .ge 68, 3) := by decide +kernel
theorem dX11_turn_39 : decode cX11_turn 39 = .ok (.aload_n 0, 1) := by decide +kernel
theorem dX11_turn_40 : decode cX11_turn 40 = .ok (.getfield 19, 3) := by decide +kernel
theorem dX11_turn_43 : decode cX11_turn 43 = .ok (.sipush 672, 3) := by decide +kernel
theorem dX11_turn_46 : decode cX11_turn 46 = .ok (.iload_n 1, 1) := by decide +kernel
theorem dX11_turn_47 : decode cX11_turn 47 = .ok (.iload 4, 2) := by decide +kernel
theorem dX11_turn_49 : decode cX11_turn 49 = .ok (.iadd, 1) := by decide +kernel
theorem dX11_turn_50 : decode cX11_turn 50 = .ok (.iload_n 3, 1) := by decide +kernel
theorem dX11_turn_51 : decode cX11_turn 51 = .ok (.irem, 1) := by decide +kernel
theorem dX11_turn_52 : decode cX11_turn 52 = .ok (.iadd, 1) := by decide +kernel
theorem dX11_turn_53 : decode cX11_turn 53 = .ok (.iaload, 1) := by decide +kernel
theorem dX11_turn_54 : decode cX11_turn 54 = .ok (.istore 5, 2) := by decide +kernel
theorem dX11_turn_56 : decode cX11_turn 56 = .ok (.aload_n 0, 1) := by decide +kernel
theorem dX11_turn_57 : decode cX11_turn 57 = .ok (.getfield 88, 3) := by decide +kernel
theorem dX11_turn_60 : decode cX11_turn 60 = .ok (.iload 4, 2) := by decide +kernel
theorem dX11_turn_62 : decode cX11_turn 62 = .ok (.iload_n 2, 1) := by decide +kernel
theorem dX11_turn_63 : decode cX11_turn 63 = .ok (.iconst 1, 1) := by decide +kernel
theorem dX11_turn_64 : decode cX11_turn 64 = .ok (.if_icmp .ne 9, 3) := by decide +kernel
theorem dX11_turn_67 : decode cX11_turn 67 = .ok (.iload 5, 2) := by decide +kernel
theorem dX11_turn_69 : decode cX11_turn 69 = .ok (.ineg, 1) := by decide +kernel
theorem dX11_turn_70 : decode cX11_turn 70 = .ok (.goto 5, 3) := by decide +kernel
theorem dX11_turn_73 : decode cX11_turn 73 = .ok (.iload 5, 2) := by decide +kernel
theorem dX11_turn_75 : decode cX11_turn 75 = .ok (.iastore, 1) := by decide +kernel
theorem dX11_turn_76 : decode cX11_turn 76 = .ok (.aload_n 0, 1) := by decide +kernel
theorem dX11_turn_77 : decode cX11_turn 77 = .ok (.getfield 91, 3) := by decide +kernel
theorem dX11_turn_80 : decode cX11_turn 80 = .ok (.iload 4, 2) := by decide +kernel
theorem dX11_turn_82 : decode cX11_turn 82 = .ok (.aload_n 0, 1) := by decide +kernel
theorem dX11_turn_83 : decode cX11_turn 83 = .ok (.getfield 22, 3) := by decide +kernel
theorem dX11_turn_86 : decode cX11_turn 86 = .ok (.sipush 672, 3) := by decide +kernel
theorem dX11_turn_89 : decode cX11_turn 89 = .ok (.iload_n 1, 1) := by decide +kernel
theorem dX11_turn_90 : decode cX11_turn 90 = .ok (.iload 4, 2) := by decide +kernel
theorem dX11_turn_92 : decode cX11_turn 92 = .ok (.iadd, 1) := by decide +kernel
theorem dX11_turn_93 : decode cX11_turn 93 = .ok (.iload_n 3, 1) := by decide +kernel
theorem dX11_turn_94 : decode cX11_turn 94 = .ok (.irem, 1) := by decide +kernel
theorem dX11_turn_95 : decode cX11_turn 95 = .ok (.iadd, 1) := by decide +kernel
theorem dX11_turn_96 : decode cX11_turn 96 = .ok (.iaload, 1) := by decide +kernel
theorem dX11_turn_97 : decode cX11_turn 97 = .ok (.iastore, 1) := by decide +kernel
theorem dX11_turn_98 : decode cX11_turn 98 = .ok (.iinc 4 1, 3) := by decide +kernel
theorem dX11_turn_101 : decode cX11_turn 101 = .ok (.goto (-68), 3) := by decide +kernel
theorem dX11_turn_104 : decode cX11_turn 104 = .ok (.iconst 0, 1) := by decide +kernel
theorem dX11_turn_105 : decode cX11_turn 105 = .ok (.istore 4, 2) := by decide +kernel
theorem dX11_turn_107 : decode cX11_turn 107 = .ok (.iload 4, 2) := by decide +kernel
theorem dX11_turn_109 : decode cX11_turn 109 = .ok (.iload_n 3, 1) := by decide +kernel
theorem dX11_turn_110 : decode cX11_turn 110 = .ok (.if_icmp .ge 45, 3) := by decide +kernel
theorem dX11_turn_113 : decode cX11_turn 113 = .ok (.aload_n 0, 1) := by decide +kernel
theorem dX11_turn_114 : decode cX11_turn 114 = .ok (.getfield 19, 3) := by decide +kernel
theorem dX11_turn_117 : decode cX11_turn 117 = .ok (.sipush 672, 3) := by decide +kernel
theorem dX11_turn_120 : decode cX11_turn 120 = .ok (.iload 4, 2) := by decide +kernel
theorem dX11_turn_122 : decode cX11_turn 122 = .ok (.iadd, 1) := by decide +kernel
theorem dX11_turn_123 : decode cX11_turn 123 = .ok (.aload_n 0, 1) := by decide +kernel
theorem dX11_turn_124 : decode cX11_turn 124 = .ok (.getfield 88, 3) := by decide +kernel
theorem dX11_turn_127 : decode cX11_turn 127 = .ok (.iload 4, 2) := by decide +kernel
theorem dX11_turn_129 : decode cX11_turn 129 = .ok (.iaload, 1) := by decide +kernel
theorem dX11_turn_130 : decode cX11_turn 130 = .ok (.iastore, 1) := by decide +kernel
theorem dX11_turn_131 : decode cX11_turn 131 = .ok (.aload_n 0, 1) := by decide +kernel
theorem dX11_turn_132 : decode cX11_turn 132 = .ok (.getfield 22, 3) := by decide +kernel
theorem dX11_turn_135 : decode cX11_turn 135 = .ok (.sipush 672, 3) := by decide +kernel
theorem dX11_turn_138 : decode cX11_turn 138 = .ok (.iload 4, 2) := by decide +kernel
theorem dX11_turn_140 : decode cX11_turn 140 = .ok (.iadd, 1) := by decide +kernel
theorem dX11_turn_141 : decode cX11_turn 141 = .ok (.aload_n 0, 1) := by decide +kernel
theorem dX11_turn_142 : decode cX11_turn 142 = .ok (.getfield 91, 3) := by decide +kernel
theorem dX11_turn_145 : decode cX11_turn 145 = .ok (.iload 4, 2) := by decide +kernel
theorem dX11_turn_147 : decode cX11_turn 147 = .ok (.iaload, 1) := by decide +kernel
theorem dX11_turn_148 : decode cX11_turn 148 = .ok (.iastore, 1) := by decide +kernel
theorem dX11_turn_149 : decode cX11_turn 149 = .ok (.iinc 4 1, 3) := by decide +kernel
theorem dX11_turn_152 : decode cX11_turn 152 = .ok (.goto (-45), 3) := by decide +kernel
theorem dX11_turn_155 : decode cX11_turn 155 = .ok (.iconst 1, 1) := by decide +kernel
theorem dX11_turn_156 : decode cX11_turn 156 = .ok (.ireturn, 1) := by decide +kernel
set_option maxRecDepth 20000 in
theorem ggX11_side_X11_in : GoodIn wsX11_side wsX11_in := goodIn_r _ [6] (by decide +kernel) (by decide +kernel)
set_option maxRecDepth 20000 in
theorem gX11_side_X11_in : GoodIn wsX11_side (va_wsS RX11 147 yX11_in wsX11_in) := goodIn_app (goodIn_of _ (by decide +kernel)) ggX11_side_X11_in
theorem dX11_side_0 : decode cX11_side 0 = .ok (.iload_n 1, 1) := by decide +kernel
theorem dX11_side_1 : decode cX11_side 1 = .ok (.iconst 1, 1) := by decide +kernel
theorem dX11_side_2 : decode cX11_side 2 = .ok (.sipush 999, 3) := by decide +kernel
theorem dX11_side_5 : decode cX11_side 5 = .ok (.invokestatic 147, 3) := by decide +kernel
theorem dX11_side_8 : decode cX11_side 8 = .ok (.ifCond .ne 5, 3) := by decide +kernel
theorem dX11_side_11 : decode cX11_side 11 = .ok (.iconst (-1), 1) := by decide +kernel
theorem dX11_side_12 : decode cX11_side 12 = .ok (.ireturn, 1) := by decide +kernel
theorem dX11_side_13 : decode cX11_side 13 = .ok (.aload_n 0, 1) := by decide +kernel
theorem dX11_side_14 : decode cX11_side 14 = .ok (.getfield 112, 3) := by decide +kernel
theorem dX11_side_17 : decode cX11_side 17 = .ok (.bipush 8, 2) := by decide +kernel
theorem dX11_side_19 : decode cX11_side 19 = .ok (.if_icmp .ne 6, 3) := by decide +kernel
theorem dX11_side_22 : decode cX11_side 22 = .ok (.bipush (-2), 2) := by decide +kernel
theorem dX11_side_24 : decode cX11_side 24 = .ok (.ireturn, 1) := by decide +kernel
theorem dX11_side_25 : decode cX11_side 25 = .ok (.aload_n 0, 1) := by decide +kernel
theorem dX11_side_26 : decode cX11_side 26 = .ok (.getfield 25, 3) := by decide +kernel
theorem dX11_side_29 : decode cX11_side 29 = .ok (.aload_n 0, 1) := by decide +kernel
theorem dX11_side_30 : decode cX11_side 30 = .ok (.getfield 112, 3) := by decide +kernel
theorem dX11_side_33 : decode cX11_side 33 = .ok (.iload_n 1, 1) := by decide +kernel
theorem dX11_side_34 : decode cX11_side 34 = .ok (.iastore, 1) := by decide +kernel
theorem dX11_side_35 : decode cX11_side 35 = .ok (.aload_n 0, 1) := by decide +kernel
theorem dX11_side_36 : decode cX11_side 36 = .ok (.dup, 1) := by decide +kernel
theorem dX11_side_37 : decode cX11_side 37 = .ok (.getfield 112, 3) := by decide +kernel
theorem dX11_side_40 : decode cX11_side 40 = .ok (.iconst 1, 1) := by decide +kernel
theorem dX11_side_41 : decode cX11_side 41 = .ok (.iadd, 1) := by decide +kernel
theorem dX11_side_42 : decode cX11_side 42 = .ok (.putfield 112, 3) := by decide +kernel
theorem dX11_side_45 : decode cX11_side 45 = .ok (.aload_n 0, 1) := by decide +kernel
theorem dX11_side_46 : decode cX11_side 46 = .ok (.getfield 112, 3) := by decide +kernel
theorem dX11_side_49 : decode cX11_side 49 = .ok (.ireturn, 1) := by decide +kernel
theorem dX11_sideless_0 : decode cX11_sideless 0 = .ok (.aload_n 0, 1) := by decide +kernel
theorem dX11_sideless_1 : decode cX11_sideless 1 = .ok (.getfield 112, 3) := by decide +kernel
theorem dX11_sideless_4 : decode cX11_sideless 4 = .ok (.istore_n 1, 1) := by decide +kernel
theorem dX11_sideless_5 : decode cX11_sideless 5 = .ok (.aload_n 0, 1) := by decide +kernel
theorem dX11_sideless_6 : decode cX11_sideless 6 = .ok (.iconst 0, 1) := by decide +kernel
theorem dX11_sideless_7 : decode cX11_sideless 7 = .ok (.putfield 112, 3) := by decide +kernel
theorem dX11_sideless_10 : decode cX11_sideless 10 = .ok (.iload_n 1, 1) := by decide +kernel
theorem dX11_sideless_11 : decode cX11_sideless 11 = .ok (.ireturn, 1) := by decide +kernel
set_option maxRecDepth 20000 in
theorem ggX11_canHem_X11_lengthOf : GoodIn wsX11_canHem wsX11_lengthOf := goodIn_r _ [6, 1, 7, 8, 9, 10, 11, 12, 13, 14, 15, 16, 17, 18, 19, 20, 21, 22, 23, 24, 25, 26, 27, 28, 29, 30, 31, 32, 33, 34, 35, 36, 37, 38, 39, 40, 41, 42, 43, 44, 45, 46, 47, 48, 49, 50, 51, 52, 53, 54, 55, 56, 57, 58, 59, 60, 61, 62, 63, 64, 65, 66, 67, 68, 69] (by decide +kernel) (by decide +kernel)
set_option maxRecDepth 20000 in
theorem gX11_canHem_X11_lengthOf : GoodIn wsX11_canHem (wsV RX11 212 RX11 yX11_lengthOf wsX11_lengthOf) := goodIn_app (goodIn_of _ (by decide +kernel)) ggX11_canHem_X11_lengthOf
theorem dX11_canHem_0 : decode cX11_canHem 0 = .ok (.aload_n 0, 1) := by decide +kernel
theorem dX11_canHem_1 : decode cX11_canHem 1 = .ok (.getfield 16, 3) := by decide +kernel
theorem dX11_canHem_4 : decode cX11_canHem 4 = .ok (.bipush 14, 2) := by decide +kernel
theorem dX11_canHem_6 : decode cX11_canHem 6 = .ok (.iaload, 1) := by decide +kernel
theorem dX11_canHem_7 : decode cX11_canHem 7 = .ok (.ifCond .le 16, 3) := by decide +kernel
theorem dX11_canHem_10 : decode cX11_canHem 10 = .ok (.aload_n 0, 1) := by decide +kernel
theorem dX11_canHem_11 : decode cX11_canHem 11 = .ok (.bipush 14, 2) := by decide +kernel
theorem dX11_canHem_13 : decode cX11_canHem 13 = .ok (.invokevirtual 212, 3) := by decide +kernel
theorem dX11_canHem_16 : decode cX11_canHem 16 = .ok (.ifCond .le 7, 3) := by decide +kernel
theorem dX11_canHem_19 : decode cX11_canHem 19 = .ok (.iconst 1, 1) := by decide +kernel
theorem dX11_canHem_20 : decode cX11_canHem 20 = .ok (.goto 4, 3) := by decide +kernel
theorem dX11_canHem_23 : decode cX11_canHem 23 = .ok (.iconst 0, 1) := by decide +kernel
theorem dX11_canHem_24 : decode cX11_canHem 24 = .ok (.ireturn, 1) := by decide +kernel
set_option maxRecDepth 20000 in
theorem ggX11_rounds_X11_lengthOf : GoodIn wsX11_rounds wsX11_lengthOf := goodIn_r _ [6, 7, 8, 12, 13, 14, 15, 16, 17, 18, 19, 20, 21, 22, 23, 24, 25, 26, 27, 28, 29, 30, 31, 32, 33, 34, 35, 36, 37, 38, 39, 40, 41, 42, 43, 44, 45, 46, 47, 48, 49, 50, 51, 52, 53, 54, 55, 56, 57, 58, 59, 60, 61, 62, 63, 64, 65, 66, 67, 68, 69, 70, 71, 72, 73] (by decide +kernel) (by decide +kernel)
set_option maxRecDepth 20000 in
theorem gX11_rounds_X11_lengthOf : GoodIn wsX11_rounds (wsV RX11 212 RX11 yX11_lengthOf wsX11_lengthOf) := goodIn_app (goodIn_of _ (by decide +kernel)) ggX11_rounds_X11_lengthOf
set_option maxRecDepth 20000 in
theorem ggX11_rounds_X11_away : GoodIn wsX11_rounds wsX11_away := goodIn_r _ [11] (by decide +kernel) (by decide +kernel)
set_option maxRecDepth 20000 in
theorem gX11_rounds_X11_away : GoodIn wsX11_rounds (va_wsS RX11 198 yX11_away wsX11_away) := goodIn_app (goodIn_of _ (by decide +kernel)) ggX11_rounds_X11_away
theorem dX11_rounds_0 : decode cX11_rounds 0 = .ok (.aload_n 0, 1) := by decide +kernel
theorem dX11_rounds_1 : decode cX11_rounds 1 = .ok (.bipush 14, 2) := by decide +kernel
theorem dX11_rounds_3 : decode cX11_rounds 3 = .ok (.invokevirtual 212, 3) := by decide +kernel
theorem dX11_rounds_6 : decode cX11_rounds 6 = .ok (.istore_n 2, 1) := by decide +kernel
theorem dX11_rounds_7 : decode cX11_rounds 7 = .ok (.iconst 1, 1) := by decide +kernel
theorem dX11_rounds_8 : decode cX11_rounds 8 = .ok (.istore_n 3, 1) := by decide +kernel
theorem dX11_rounds_9 : decode cX11_rounds 9 = .ok (.iconst 2, 1) := by decide +kernel
theorem dX11_rounds_10 : decode cX11_rounds 10 = .ok (.istore 4, 2) := by decide +kernel
theorem dX11_rounds_12 : decode cX11_rounds 12 = .ok (.iload 4, 2) := by decide +kernel
theorem dX11_rounds_14 : decode cX11_rounds 14 = .ok (.aload_n 0, 1) := by decide +kernel
theorem dX11_rounds_15 : decode cX11_rounds 15 = .ok (.getfield 25, 3) := by decide +kernel
theorem dX11_rounds_18 : decode cX11_rounds 18 = .ok (.iload_n 1, 1) := by decide +kernel
theorem dX11_rounds_19 : decode cX11_rounds 19 = .ok (.iaload, 1) := by decide +kernel
theorem dX11_rounds_20 : decode cX11_rounds 20 = .ok (.if_icmp .gt 46, 3) := by decide +kernel
theorem dX11_rounds_23 : decode cX11_rounds 23 = .ok (.aload_n 0, 1) := by decide +kernel
theorem dX11_rounds_24 : decode cX11_rounds 24 = .ok (.getfield 25, 3) := by decide +kernel
theorem dX11_rounds_27 : decode cX11_rounds 27 = .ok (.iload_n 1, 1) := by decide +kernel
theorem dX11_rounds_28 : decode cX11_rounds 28 = .ok (.iaload, 1) := by decide +kernel
theorem dX11_rounds_29 : decode cX11_rounds 29 = .ok (.iload 4, 2) := by decide +kernel
theorem dX11_rounds_31 : decode cX11_rounds 31 = .ok (.iload_n 2, 1) := by decide +kernel
theorem dX11_rounds_32 : decode cX11_rounds 32 = .ok (.imul, 1) := by decide +kernel
theorem dX11_rounds_33 : decode cX11_rounds 33 = .ok (.isub, 1) := by decide +kernel
theorem dX11_rounds_34 : decode cX11_rounds 34 = .ok (.invokestatic 198, 3) := by decide +kernel
theorem dX11_rounds_37 : decode cX11_rounds 37 = .ok (.aload_n 0, 1) := by decide +kernel
theorem dX11_rounds_38 : decode cX11_rounds 38 = .ok (.getfield 25, 3) := by decide +kernel
theorem dX11_rounds_41 : decode cX11_rounds 41 = .ok (.iload_n 1, 1) := by decide +kernel
theorem dX11_rounds_42 : decode cX11_rounds 42 = .ok (.iaload, 1) := by decide +kernel
theorem dX11_rounds_43 : decode cX11_rounds 43 = .ok (.iload_n 3, 1) := by decide +kernel
theorem dX11_rounds_44 : decode cX11_rounds 44 = .ok (.iload_n 2, 1) := by decide +kernel
theorem dX11_rounds_45 : decode cX11_rounds 45 = .ok (.imul, 1) := by decide +kernel
theorem dX11_rounds_46 : decode cX11_rounds 46 = .ok (.isub, 1) := by decide +kernel
theorem dX11_rounds_47 : decode cX11_rounds 47 = .ok (.invokestatic 198, 3) := by decide +kernel
theorem dX11_rounds_50 : decode cX11_rounds 50 = .ok (.if_icmp .ge 8, 3) := by decide +kernel
theorem dX11_rounds_53 : decode cX11_rounds 53 = .ok (.iload 4, 2) := by decide +kernel
theorem dX11_rounds_55 : decode cX11_rounds 55 = .ok (.goto 4, 3) := by decide +kernel
theorem dX11_rounds_58 : decode cX11_rounds 58 = .ok (.iload_n 3, 1) := by decide +kernel
theorem dX11_rounds_59 : decode cX11_rounds 59 = .ok (.istore_n 3, 1) := by decide +kernel
theorem dX11_rounds_60 : decode cX11_rounds 60 = .ok (.iinc 4 1, 3) := by decide +kernel
theorem dX11_rounds_63 : decode cX11_rounds 63 = .ok (.goto (-51), 3) := by decide +kernel
theorem dX11_rounds_66 : decode cX11_rounds 66 = .ok (.iload_n 3, 1) := by decide +kernel
theorem dX11_rounds_67 : decode cX11_rounds 67 = .ok (.ireturn, 1) := by decide +kernel
set_option maxRecDepth 20000 in
theorem ggX11_restOf_X11_rounds : GoodIn wsX11_restOf wsX11_rounds := goodIn_r _ [6, 1, 7, 8, 9, 5, 10, 11, 12, 13, 14, 15, 16, 17, 18, 19, 20, 21, 22, 23, 24, 25, 26, 27, 28, 29, 30, 31, 32, 33, 34, 35, 36, 37, 38, 39, 40, 41, 42, 43, 44, 45, 46, 47, 48, 49, 50, 51, 52, 53, 54, 55, 56, 57, 58, 59, 60, 61, 62, 63, 64, 65, 66, 67, 68, 69, 70, 71, 72, 73, 74, 75, 76, 77] (by decide +kernel) (by decide +kernel)
set_option maxRecDepth 20000 in
theorem gX11_restOf_X11_rounds : GoodIn wsX11_restOf (wsV RX11 226 RX11 yX11_rounds wsX11_rounds) := goodIn_app (goodIn_of _ (by decide +kernel)) ggX11_restOf_X11_rounds
set_option maxRecDepth 20000 in
theorem ggX11_restOf_X11_lengthOf : GoodIn wsX11_restOf wsX11_lengthOf := goodIn_r _ [10, 11, 12, 16, 17, 18, 19, 20, 21, 22, 23, 24, 25, 26, 27, 28, 29, 30, 31, 32, 33, 34, 35, 36, 37, 38, 39, 40, 41, 42, 43, 44, 45, 46, 47, 48, 49, 50, 51, 52, 53, 54, 55, 56, 57, 58, 59, 60, 61, 62, 63, 64, 65, 66, 67, 68, 69, 70, 71, 72, 73, 74, 75, 76, 77] (by decide +kernel) (by decide +kernel)
set_option maxRecDepth 20000 in
theorem gX11_restOf_X11_lengthOf : GoodIn wsX11_restOf (wsV RX11 212 RX11 yX11_lengthOf wsX11_lengthOf) := goodIn_app (goodIn_of _ (by decide +kernel)) ggX11_restOf_X11_lengthOf
theorem dX11_restOf_0 : decode cX11_restOf 0 = .ok (.aload_n 0, 1) := by decide +kernel
theorem dX11_restOf_1 : decode cX11_restOf 1 = .ok (.getfield 25, 3) := by decide +kernel
theorem dX11_restOf_4 : decode cX11_restOf 4 = .ok (.iload_n 1, 1) := by decide +kernel
theorem dX11_restOf_5 : decode cX11_restOf 5 = .ok (.iaload, 1) := by decide +kernel
theorem dX11_restOf_6 : decode cX11_restOf 6 = .ok (.aload_n 0, 1) := by decide +kernel
theorem dX11_restOf_7 : decode cX11_restOf 7 = .ok (.iload_n 1, 1) := by decide +kernel
theorem dX11_restOf_8 : decode cX11_restOf 8 = .ok (.invokevirtual 226, 3) := by decide +kernel
theorem dX11_restOf_11 : decode cX11_restOf 11 = .ok (.aload_n 0, 1) := by decide +kernel
theorem dX11_restOf_12 : decode cX11_restOf 12 = .ok (.bipush 14, 2) := by decide +kernel
theorem dX11_restOf_14 : decode cX11_restOf 14 = .ok (.invokevirtual 212, 3) := by decide +kernel
theorem dX11_restOf_17 : decode cX11_restOf 17 = .ok (.imul, 1) := by decide +kernel
theorem dX11_restOf_18 : decode cX11_restOf 18 = .ok (.isub, 1) := by decide +kernel
theorem dX11_restOf_19 : decode cX11_restOf 19 = .ok (.ireturn, 1) := by decide +kernel
set_option maxRecDepth 20000 in
theorem ggX11_more_X11_floor : GoodIn wsX11_more wsX11_floor := goodIn_r _ [4] (by decide +kernel) (by decide +kernel)
set_option maxRecDepth 20000 in
theorem gX11_more_X11_floor : GoodIn wsX11_more (va_wsS RX11 208 yX11_floor wsX11_floor) := goodIn_app (goodIn_of _ (by decide +kernel)) ggX11_more_X11_floor
theorem dX11_more_0 : decode cX11_more 0 = .ok (.iload_n 1, 1) := by decide +kernel
theorem dX11_more_1 : decode cX11_more 1 = .ok (.iload_n 2, 1) := by decide +kernel
theorem dX11_more_2 : decode cX11_more 2 = .ok (.iconst 1, 1) := by decide +kernel
theorem dX11_more_3 : decode cX11_more 3 = .ok (.iadd, 1) := by decide +kernel
theorem dX11_more_4 : decode cX11_more 4 = .ok (.imul, 1) := by decide +kernel
theorem dX11_more_5 : decode cX11_more 5 = .ok (.iload_n 3, 1) := by decide +kernel
theorem dX11_more_6 : decode cX11_more 6 = .ok (.invokestatic 208, 3) := by decide +kernel
theorem dX11_more_9 : decode cX11_more 9 = .ok (.iload_n 1, 1) := by decide +kernel
theorem dX11_more_10 : decode cX11_more 10 = .ok (.iload_n 2, 1) := by decide +kernel
theorem dX11_more_11 : decode cX11_more 11 = .ok (.imul, 1) := by decide +kernel
theorem dX11_more_12 : decode cX11_more 12 = .ok (.iload_n 3, 1) := by decide +kernel
theorem dX11_more_13 : decode cX11_more 13 = .ok (.invokestatic 208, 3) := by decide +kernel
theorem dX11_more_16 : decode cX11_more 16 = .ok (.isub, 1) := by decide +kernel
theorem dX11_more_17 : decode cX11_more 17 = .ok (.ireturn, 1) := by decide +kernel
set_option maxRecDepth 20000 in
theorem ggX11_looksAt_X11_rounds : GoodIn wsX11_looksAt wsX11_rounds := goodIn_r _ [7, 8, 9, 10, 11, 6, 12, 1, 2, 13, 14, 15, 30, 31, 32, 33, 34, 35, 36, 37, 38, 39, 40, 41, 42, 43, 44, 45, 46, 47, 48, 49, 50, 51, 52, 53, 54, 55, 56, 57, 58, 59, 60, 61, 62, 63, 64, 65, 66, 67, 68, 69, 70, 71, 72, 73, 74, 75, 76, 77, 78, 79, 80, 81, 82, 83, 84, 85, 86, 87, 88, 89, 90, 91] (by decide +kernel) (by decide +kernel)
set_option maxRecDepth 20000 in
theorem gX11_looksAt_X11_rounds : GoodIn wsX11_looksAt (wsV RX11 226 RX11 yX11_rounds wsX11_rounds) := goodIn_app (goodIn_of _ (by decide +kernel)) ggX11_looksAt_X11_rounds
set_option maxRecDepth 20000 in
theorem ggX11_looksAt_X11_restOf : GoodIn wsX11_looksAt wsX11_restOf := goodIn_r _ [19, 8, 3, 4, 5, 6, 7, 9, 10, 11, 12, 1, 2, 13, 14, 15, 30, 31, 32, 33, 34, 35, 36, 37, 38, 39, 40, 41, 42, 43, 44, 45, 46, 47, 48, 49, 50, 51, 52, 53, 54, 55, 56, 57, 58, 59, 60, 61, 62, 63, 64, 65, 66, 67, 68, 69, 70, 71, 72, 73, 74, 75, 76, 77, 78, 79, 80, 81, 82, 83, 84, 85, 86, 87, 88, 89, 90, 91] (by decide +kernel) (by decide +kernel)
set_option maxRecDepth 20000 in
theorem gX11_looksAt_X11_restOf : GoodIn wsX11_looksAt (wsV RX11 229 RX11 yX11_restOf wsX11_restOf) := goodIn_app (goodIn_of _ (by decide +kernel)) ggX11_looksAt_X11_restOf
set_option maxRecDepth 20000 in
theorem ggX11_looksAt_X11_more : GoodIn wsX11_looksAt wsX11_more := goodIn_r _ [23, 24, 25, 6, 26] (by decide +kernel) (by decide +kernel)
set_option maxRecDepth 20000 in
theorem gX11_looksAt_X11_more : GoodIn wsX11_looksAt (wsV RX11 232 RX11 yX11_more wsX11_more) := goodIn_app (goodIn_of _ (by decide +kernel)) ggX11_looksAt_X11_more
set_option maxRecDepth 20000 in
theorem ggX11_looksAt_X11_in : GoodIn wsX11_looksAt wsX11_in := goodIn_r _ [29] (by decide +kernel) (by decide +kernel)
set_option maxRecDepth 20000 in
theorem gX11_looksAt_X11_in : GoodIn wsX11_looksAt (va_wsS RX11 147 yX11_in wsX11_in) := goodIn_app (goodIn_of _ (by decide +kernel)) ggX11_looksAt_X11_in
set_option maxRecDepth 20000 in
theorem ggX11_looksAt_X11_away : GoodIn wsX11_looksAt wsX11_away := goodIn_r _ [15] (by decide +kernel) (by decide +kernel)
set_option maxRecDepth 20000 in
theorem gX11_looksAt_X11_away : GoodIn wsX11_looksAt (va_wsS RX11 198 yX11_away wsX11_away) := goodIn_app (goodIn_of _ (by decide +kernel)) ggX11_looksAt_X11_away
theorem dX11_looksAt_0 : decode cX11_looksAt 0 = .ok (.aload_n 0, 1) := by decide +kernel
theorem dX11_looksAt_1 : decode cX11_looksAt 1 = .ok (.iload_n 1, 1) := by decide +kernel
theorem dX11_looksAt_2 : decode cX11_looksAt 2 = .ok (.invokevirtual 226, 3) := by decide +kernel
theorem dX11_looksAt_5 : decode cX11_looksAt 5 = .ok (.aload_n 0, 1) := by decide +kernel
theorem dX11_looksAt_6 : decode cX11_looksAt 6 = .ok (.getfield 16, 3) := by decide +kernel
theorem dX11_looksAt_9 : decode cX11_looksAt 9 = .ok (.bipush 14, 2) := by decide +kernel
theorem dX11_looksAt_11 : decode cX11_looksAt 11 = .ok (.iaload, 1) := by decide +kernel
theorem dX11_looksAt_12 : decode cX11_looksAt 12 = .ok (.imul, 1) := by decide +kernel
theorem dX11_looksAt_13 : decode cX11_looksAt 13 = .ok (.istore_n 3, 1) := by decide +kernel
theorem dX11_looksAt_14 : decode cX11_looksAt 14 = .ok (.aload_n 0, 1) := by decide +kernel
theorem dX11_looksAt_15 : decode cX11_looksAt 15 = .ok (.iload_n 1, 1) := by decide +kernel
theorem dX11_looksAt_16 : decode cX11_looksAt 16 = .ok (.invokevirtual 229, 3) := by decide +kernel
theorem dX11_looksAt_19 : decode cX11_looksAt 19 = .ok (.istore 4, 2) := by decide +kernel
theorem dX11_looksAt_21 : decode cX11_looksAt 21 = .ok (.iconst 1, 1) := by decide +kernel
theorem dX11_looksAt_22 : decode cX11_looksAt 22 = .ok (.istore 5, 2) := by decide +kernel
theorem dX11_looksAt_24 : decode cX11_looksAt 24 = .ok (.iconst 0, 1) := by decide +kernel
theorem dX11_looksAt_25 : decode cX11_looksAt 25 = .ok (.istore 6, 2) := by decide +kernel
theorem dX11_looksAt_27 : decode cX11_looksAt 27 = .ok (.iconst 0, 1) := by decide +kernel
theorem dX11_looksAt_28 : decode cX11_looksAt 28 = .ok (.istore 7, 2) := by decide +kernel
theorem dX11_looksAt_30 : decode cX11_looksAt 30 = .ok (.iload 7, 2) := by decide +kernel
theorem dX11_looksAt_32 : decode cX11_looksAt 32 = .ok (.iload_n 3, 1) := by decide +kernel
theorem dX11_looksAt_33 : decode cX11_looksAt 33 = .ok (.if_icmp .ge 86, 3) := by decide +kernel
theorem dX11_looksAt_36 : decode cX11_looksAt 36 = .ok (.aload_n 0, 1) := by decide +kernel
theorem dX11_looksAt_37 : decode cX11_looksAt 37 = .ok (.iload 4, 2) := by decide +kernel
theorem dX11_looksAt_39 : decode cX11_looksAt 39 = .ok (.iload 7, 2) := by decide +kernel
theorem dX11_looksAt_41 : decode cX11_looksAt 41 = .ok (.iload_n 3, 1) := by decide +kernel
theorem dX11_looksAt_42 : decode cX11_looksAt 42 = .ok (.invokevirtual 232, 3) := by decide +kernel
theorem dX11_looksAt_45 : decode cX11_looksAt 45 = .ok (.istore 8, 2) := by decide +kernel
theorem dX11_looksAt_47 : decode cX11_looksAt 47 = .ok (.iload 5, 2) := by decide +kernel
theorem dX11_looksAt_49 : decode cX11_looksAt 49 = .ok (.ifCond .eq 39, 3) := by decide +kernel
theorem dX11_looksAt_52 : decode cX11_looksAt 52 = .ok (.aload_n 0, 1) := by decide +kernel
theorem dX11_looksAt_53 : decode cX11_looksAt 53 = .ok (.getfield 22, 3) := by decide +kernel
theorem dX11_looksAt_56 : decode cX11_looksAt 56 = .ok (.sipush 672, 3) := by decide +kernel
theorem dX11_looksAt_59 : decode cX11_looksAt 59 = .ok (.iload 7, 2) := by decide +kernel
theorem dX11_looksAt_61 : decode cX11_looksAt 61 = .ok (.aload_n 0, 1) := by decide +kernel
theorem dX11_looksAt_62 : decode cX11_looksAt 62 = .ok (.getfield 16, 3) := by decide +kernel
theorem dX11_looksAt_65 : decode cX11_looksAt 65 = .ok (.bipush 14, 2) := by decide +kernel
theorem dX11_looksAt_67 : decode cX11_looksAt 67 = .ok (.iaload, 1) := by decide +kernel
theorem dX11_looksAt_68 : decode cX11_looksAt 68 = .ok (.irem, 1) := by decide +kernel
theorem dX11_looksAt_69 : decode cX11_looksAt 69 = .ok (.iadd, 1) := by decide +kernel
theorem dX11_looksAt_70 : decode cX11_looksAt 70 = .ok (.iaload, 1) := by decide +kernel
theorem dX11_looksAt_71 : decode cX11_looksAt 71 = .ok (.iload 8, 2) := by decide +kernel
theorem dX11_looksAt_73 : decode cX11_looksAt 73 = .ok (.iadd, 1) := by decide +kernel
theorem dX11_looksAt_74 : decode cX11_looksAt 74 = .ok (.bipush (-12), 2) := by decide +kernel
theorem dX11_looksAt_76 : decode cX11_looksAt 76 = .ok (.bipush 12, 2) := by decide +kernel
theorem dX11_looksAt_78 : decode cX11_looksAt 78 = .ok (.invokestatic 147, 3) := by decide +kernel
theorem dX11_looksAt_81 : decode cX11_looksAt 81 = .ok (.ifCond .eq 7, 3) := by decide +kernel
theorem dX11_looksAt_84 : decode cX11_looksAt 84 = .ok (.iconst 1, 1) := by decide +kernel
theorem dX11_looksAt_85 : decode cX11_looksAt 85 = .ok (.goto 4, 3) := by decide +kernel
theorem dX11_looksAt_88 : decode cX11_looksAt 88 = .ok (.iconst 0, 1) := by decide +kernel
theorem dX11_looksAt_89 : decode cX11_looksAt 89 = .ok (.istore 5, 2) := by decide +kernel
theorem dX11_looksAt_91 : decode cX11_looksAt 91 = .ok (.iload 8, 2) := by decide +kernel
theorem dX11_looksAt_93 : decode cX11_looksAt 93 = .ok (.invokestatic 198, 3) := by decide +kernel
theorem dX11_looksAt_96 : decode cX11_looksAt 96 = .ok (.iload 6, 2) := by decide +kernel
theorem dX11_looksAt_98 : decode cX11_looksAt 98 = .ok (.if_icmp .le 11, 3) := by decide +kernel
theorem dX11_looksAt_101 : decode cX11_looksAt 101 = .ok (.iload 8, 2) := by decide +kernel
theorem dX11_looksAt_103 : decode cX11_looksAt 103 = .ok (.invokestatic 198, 3) := by decide +kernel
theorem dX11_looksAt_106 : decode cX11_looksAt 106 = .ok (.goto 5, 3) := by decide +kernel
theorem dX11_looksAt_109 : decode cX11_looksAt 109 = .ok (.iload 6, 2) := by decide +kernel
theorem dX11_looksAt_111 : decode cX11_looksAt 111 = .ok (.istore 6, 2) := by decide +kernel
theorem dX11_looksAt_113 : decode cX11_looksAt 113 = .ok (.iinc 7 1, 3) := by decide +kernel
theorem dX11_looksAt_116 : decode cX11_looksAt 116 = .ok (.goto (-86), 3) := by decide +kernel
theorem dX11_looksAt_119 : decode cX11_looksAt 119 = .ok (.iload_n 2, 1) := by decide +kernel
theorem dX11_looksAt_120 : decode cX11_looksAt 120 = .ok (.iconst 4, 1) := by decide +kernel
theorem dX11_looksAt_121 : decode cX11_looksAt 121 = .ok (.if_icmp .ne 8, 3) := by decide +kernel
theorem dX11_looksAt_124 : decode cX11_looksAt 124 = .ok (.iload 6, 2) := by decide +kernel
theorem dX11_looksAt_126 : decode cX11_looksAt 126 = .ok (.goto 13, 3) := by decide +kernel
theorem dX11_looksAt_129 : decode cX11_looksAt 129 = .ok (.iload 5, 2) := by decide +kernel
theorem dX11_looksAt_131 : decode cX11_looksAt 131 = .ok (.ifCond .eq 7, 3) := by decide +kernel
theorem dX11_looksAt_134 : decode cX11_looksAt 134 = .ok (.iconst 1, 1) := by decide +kernel
theorem dX11_looksAt_135 : decode cX11_looksAt 135 = .ok (.goto 4, 3) := by decide +kernel
theorem dX11_looksAt_138 : decode cX11_looksAt 138 = .ok (.iconst 0, 1) := by decide +kernel
theorem dX11_looksAt_139 : decode cX11_looksAt 139 = .ok (.ireturn, 1) := by decide +kernel
set_option maxRecDepth 20000 in
theorem ggX11_hem_X11_in : GoodIn wsX11_hem wsX11_in := goodIn_r _ [7] (by decide +kernel) (by decide +kernel)
set_option maxRecDepth 20000 in
theorem gX11_hem_X11_in : GoodIn wsX11_hem (va_wsS RX11 147 yX11_in wsX11_in) := goodIn_app (goodIn_of _ (by decide +kernel)) ggX11_hem_X11_in
set_option maxRecDepth 20000 in
theorem ggX11_hem_X11_canHem : GoodIn wsX11_hem wsX11_canHem := goodIn_r _ [11, 3, 12, 13, 14, 6, 15, 16, 40, 41, 42, 43, 44, 45, 46, 47, 48, 49, 50, 51, 52, 53, 54, 55, 56, 57, 58, 59, 60, 61, 62, 63, 64, 65, 66, 67, 68, 69, 70, 71, 72, 73, 74, 75, 76, 77, 78, 79, 80, 81, 82, 83, 84, 85, 86, 87, 88, 89, 90, 91, 92, 93, 94, 95, 96, 97, 98, 99, 100, 101] (by decide +kernel) (by decide +kernel)
set_option maxRecDepth 20000 in
theorem gX11_hem_X11_canHem : GoodIn wsX11_hem (wsV RX11 235 RX11 yX11_canHem wsX11_canHem) := goodIn_app (goodIn_of _ (by decide +kernel)) ggX11_hem_X11_canHem
set_option maxRecDepth 20000 in
theorem ggX11_hem_X11_rounds : GoodIn wsX11_hem wsX11_rounds := goodIn_r _ [20, 21, 12, 13, 14, 6, 15, 3, 16, 22, 23, 24, 40, 41, 42, 43, 44, 45, 46, 47, 48, 49, 50, 51, 52, 53, 54, 55, 56, 57, 58, 59, 60, 61, 62, 63, 64, 65, 66, 67, 68, 69, 70, 71, 72, 73, 74, 75, 76, 77, 78, 79, 80, 81, 82, 83, 84, 85, 86, 87, 88, 89, 90, 91, 92, 93, 94, 95, 96, 97, 98, 99, 100, 101] (by decide +kernel) (by decide +kernel)
set_option maxRecDepth 20000 in
theorem gX11_hem_X11_rounds : GoodIn wsX11_hem (wsV RX11 226 RX11 yX11_rounds wsX11_rounds) := goodIn_app (goodIn_of _ (by decide +kernel)) ggX11_hem_X11_rounds
set_option maxRecDepth 20000 in
theorem ggX11_hem_X11_restOf : GoodIn wsX11_hem wsX11_restOf := goodIn_r _ [28, 21, 17, 18, 19, 6, 20, 12, 13, 14, 15, 3, 16, 22, 23, 24, 40, 41, 42, 43, 44, 45, 46, 47, 48, 49, 50, 51, 52, 53, 54, 55, 56, 57, 58, 59, 60, 61, 62, 63, 64, 65, 66, 67, 68, 69, 70, 71, 72, 73, 74, 75, 76, 77, 78, 79, 80, 81, 82, 83, 84, 85, 86, 87, 88, 89, 90, 91, 92, 93, 94, 95, 96, 97, 98, 99, 100, 101] (by decide +kernel) (by decide +kernel)
set_option maxRecDepth 20000 in
theorem gX11_hem_X11_restOf : GoodIn wsX11_hem (wsV RX11 229 RX11 yX11_restOf wsX11_restOf) := goodIn_app (goodIn_of _ (by decide +kernel)) ggX11_hem_X11_restOf
set_option maxRecDepth 20000 in
theorem ggX11_hem_X11_looksAt : GoodIn wsX11_hem wsX11_looksAt := goodIn_r _ [32, 3, 16, 17, 18, 19, 6, 20, 21, 12, 13, 14, 15, 22, 23, 24, 25, 26, 27, 28, 33, 34, 35, 36, 37, 38, 39, 4, 5, 7, 40, 41, 42, 43, 44, 45, 46, 47, 48, 49, 50, 51, 52, 53, 54, 55, 56, 57, 58, 59, 60, 61, 62, 63, 64, 65, 66, 67, 68, 69, 70, 71, 72, 73, 74, 75, 76, 77, 78, 79, 80, 81, 82, 83, 84, 85, 86, 87, 88, 89, 90, 91, 92, 93, 94, 95, 96, 97, 98, 99, 100, 101] (by decide +kernel) (by decide +kernel)
set_option maxRecDepth 20000 in
theorem gX11_hem_X11_looksAt : GoodIn wsX11_hem (wsV RX11 238 RX11 yX11_looksAt wsX11_looksAt) := goodIn_app (goodIn_of _ (by decide +kernel)) ggX11_hem_X11_looksAt
theorem dX11_hem_0 : decode cX11_hem 0 = .ok (.aload_n 0, 1) := by decide +kernel
theorem dX11_hem_1 : decode cX11_hem 1 = .ok (.iload_n 2, 1) := by decide +kernel
theorem dX11_hem_2 : decode cX11_hem 2 = .ok (.iconst 0, 1) := by decide +kernel
theorem dX11_hem_3 : decode cX11_hem 3 = .ok (.iconst 4, 1) := by decide +kernel
theorem dX11_hem_4 : decode cX11_hem 4 = .ok (.invokestatic 147, 3) := by decide +kernel
theorem dX11_hem_7 : decode cX11_hem 7 = .ok (.ifCond .ne 7, 3) := by decide +kernel
theorem dX11_hem_10 : decode cX11_hem 10 = .ok (.iconst 1, 1) := by decide +kernel
theorem dX11_hem_11 : decode cX11_hem 11 = .ok (.goto 29, 3) := by decide +kernel
theorem dX11_hem_14 : decode cX11_hem 14 = .ok (.iload_n 1, 1) := by decide +kernel
theorem dX11_hem_15 : decode cX11_hem 15 = .ok (.iconst 0, 1) := by decide +kernel
theorem dX11_hem_16 : decode cX11_hem 16 = .ok (.aload_n 0, 1) := by decide +kernel
theorem dX11_hem_17 : decode cX11_hem 17 = .ok (.getfield 112, 3) := by decide +kernel
theorem dX11_hem_20 : decode cX11_hem 20 = .ok (.iconst 1, 1) := by decide +kernel
theorem dX11_hem_21 : decode cX11_hem 21 = .ok (.isub, 1) := by decide +kernel
theorem dX11_hem_22 : decode cX11_hem 22 = .ok (.invokestatic 147, 3) := by decide +kernel
theorem dX11_hem_25 : decode cX11_hem 25 = .ok (.ifCond .eq 10, 3) := by decide +kernel
theorem dX11_hem_28 : decode cX11_hem 28 = .ok (.aload_n 0, 1) := by decide +kernel
theorem dX11_hem_29 : decode cX11_hem 29 = .ok (.invokevirtual 235, 3) := by decide +kernel
theorem dX11_hem_32 : decode cX11_hem 32 = .ok (.ifCond .ne 7, 3) := by decide +kernel
theorem dX11_hem_35 : decode cX11_hem 35 = .ok (.iconst 2, 1) := by decide +kernel
theorem dX11_hem_36 : decode cX11_hem 36 = .ok (.goto 4, 3) := by decide +kernel
theorem dX11_hem_39 : decode cX11_hem 39 = .ok (.iconst 0, 1) := by decide +kernel
theorem dX11_hem_40 : decode cX11_hem 40 = .ok (.putfield 103, 3) := by decide +kernel
theorem dX11_hem_43 : decode cX11_hem 43 = .ok (.aload_n 0, 1) := by decide +kernel
theorem dX11_hem_44 : decode cX11_hem 44 = .ok (.getfield 103, 3) := by decide +kernel
theorem dX11_hem_47 : decode cX11_hem 47 = .ok (.ifCond .eq 5, 3) := by decide +kernel
theorem dX11_hem_50 : decode cX11_hem 50 = .ok (.iconst 0, 1) := by decide +kernel
theorem dX11_hem_51 : decode cX11_hem 51 = .ok (.ireturn, 1) := by decide +kernel
theorem dX11_hem_52 : decode cX11_hem 52 = .ok (.iload_n 2, 1) := by decide +kernel
theorem dX11_hem_53 : decode cX11_hem 53 = .ok (.tableswitch 57 0 3 #[31, 37, 57, 43], 31) := by decide +kernel
theorem dX11_hem_84 : decode cX11_hem 84 = .ok (.aload_n 0, 1) := by decide +kernel
theorem dX11_hem_85 : decode cX11_hem 85 = .ok (.iload_n 1, 1) := by decide +kernel
theorem dX11_hem_86 : decode cX11_hem 86 = .ok (.invokevirtual 226, 3) := by decide +kernel
theorem dX11_hem_89 : decode cX11_hem 89 = .ok (.ireturn, 1) := by decide +kernel
theorem dX11_hem_90 : decode cX11_hem 90 = .ok (.aload_n 0, 1) := by decide +kernel
theorem dX11_hem_91 : decode cX11_hem 91 = .ok (.iload_n 1, 1) := by decide +kernel
theorem dX11_hem_92 : decode cX11_hem 92 = .ok (.invokevirtual 229, 3) := by decide +kernel
theorem dX11_hem_95 : decode cX11_hem 95 = .ok (.ireturn, 1) := by decide +kernel
theorem dX11_hem_96 : decode cX11_hem 96 = .ok (.aload_n 0, 1) := by decide +kernel
theorem dX11_hem_97 : decode cX11_hem 97 = .ok (.iload_n 1, 1) := by decide +kernel
theorem dX11_hem_98 : decode cX11_hem 98 = .ok (.invokevirtual 226, 3) := by decide +kernel
theorem dX11_hem_101 : decode cX11_hem 101 = .ok (.aload_n 0, 1) := by decide +kernel
theorem dX11_hem_102 : decode cX11_hem 102 = .ok (.getfield 16, 3) := by decide +kernel
theorem dX11_hem_105 : decode cX11_hem 105 = .ok (.bipush 14, 2) := by decide +kernel
theorem dX11_hem_107 : decode cX11_hem 107 = .ok (.iaload, 1) := by decide +kernel
theorem dX11_hem_108 : decode cX11_hem 108 = .ok (.imul, 1) := by decide +kernel
theorem dX11_hem_109 : decode cX11_hem 109 = .ok (.ireturn, 1) := by decide +kernel
theorem dX11_hem_110 : decode cX11_hem 110 = .ok (.aload_n 0, 1) := by decide +kernel
theorem dX11_hem_111 : decode cX11_hem 111 = .ok (.iload_n 1, 1) := by decide +kernel
theorem dX11_hem_112 : decode cX11_hem 112 = .ok (.iload_n 2, 1) := by decide +kernel
theorem dX11_hem_113 : decode cX11_hem 113 = .ok (.invokevirtual 238, 3) := by decide +kernel
theorem dX11_hem_116 : decode cX11_hem 116 = .ok (.ireturn, 1) := by decide +kernel
set_option maxRecDepth 20000 in
theorem ggX11_fedAt_X11_restOf : GoodIn wsX11_fedAt wsX11_restOf := goodIn_r _ [7, 8, 9, 10, 11, 6, 12, 13, 14, 15, 16, 2, 1, 17, 18, 19, 27, 28, 29, 30, 31, 32, 33, 34, 35, 36, 37, 38, 39, 40, 41, 42, 43, 44, 45, 46, 47, 48, 49, 50, 51, 52, 53, 54, 55, 56, 57, 58, 59, 60, 61, 62, 63, 64, 65, 66, 67, 68, 69, 70, 71, 72, 73, 74, 75, 76, 77, 78, 79, 80, 81, 82, 83, 84, 85, 86, 87, 88] (by decide +kernel) (by decide +kernel)
set_option maxRecDepth 20000 in
theorem gX11_fedAt_X11_restOf : GoodIn wsX11_fedAt (wsV RX11 229 RX11 yX11_restOf wsX11_restOf) := goodIn_app (goodIn_of _ (by decide +kernel)) ggX11_fedAt_X11_restOf
set_option maxRecDepth 20000 in
theorem ggX11_fedAt_X11_rounds : GoodIn wsX11_fedAt wsX11_rounds := goodIn_r _ [12, 8, 13, 14, 15, 6, 16, 2, 1, 17, 18, 19, 27, 28, 29, 30, 31, 32, 33, 34, 35, 36, 37, 38, 39, 40, 41, 42, 43, 44, 45, 46, 47, 48, 49, 50, 51, 52, 53, 54, 55, 56, 57, 58, 59, 60, 61, 62, 63, 64, 65, 66, 67, 68, 69, 70, 71, 72, 73, 74, 75, 76, 77, 78, 79, 80, 81, 82, 83, 84, 85, 86, 87, 88] (by decide +kernel) (by decide +kernel)
set_option maxRecDepth 20000 in
theorem gX11_fedAt_X11_rounds : GoodIn wsX11_fedAt (wsV RX11 226 RX11 yX11_rounds wsX11_rounds) := goodIn_app (goodIn_of _ (by decide +kernel)) ggX11_fedAt_X11_rounds
set_option maxRecDepth 20000 in
theorem ggX11_fedAt_X11_more : GoodIn wsX11_fedAt wsX11_more := goodIn_r _ [23, 24, 25, 6, 26] (by decide +kernel) (by decide +kernel)
set_option maxRecDepth 20000 in
theorem gX11_fedAt_X11_more : GoodIn wsX11_fedAt (wsV RX11 232 RX11 yX11_more wsX11_more) := goodIn_app (goodIn_of _ (by decide +kernel)) ggX11_fedAt_X11_more
theorem dX11_fedAt_0 : decode cX11_fedAt 0 = .ok (.aload_n 0, 1) := by decide +kernel
theorem dX11_fedAt_1 : decode cX11_fedAt 1 = .ok (.getfield 22, 3) := by decide +kernel
theorem dX11_fedAt_4 : decode cX11_fedAt 4 = .ok (.sipush 672, 3) := by decide +kernel
theorem dX11_fedAt_7 : decode cX11_fedAt 7 = .ok (.iload_n 2, 1) := by decide +kernel
theorem dX11_fedAt_8 : decode cX11_fedAt 8 = .ok (.aload_n 0, 1) := by decide +kernel
theorem dX11_fedAt_9 : decode cX11_fedAt 9 = .ok (.getfield 16, 3) := by decide +kernel
theorem dX11_fedAt_12 : decode cX11_fedAt 12 = .ok (.bipush 14, 2) := by decide +kernel
theorem dX11_fedAt_14 : decode cX11_fedAt 14 = .ok (.iaload, 1) := by decide +kernel
theorem dX11_fedAt_15 : decode cX11_fedAt 15 = .ok (.irem, 1) := by decide +kernel
theorem dX11_fedAt_16 : decode cX11_fedAt 16 = .ok (.iadd, 1) := by decide +kernel
theorem dX11_fedAt_17 : decode cX11_fedAt 17 = .ok (.iaload, 1) := by decide +kernel
theorem dX11_fedAt_18 : decode cX11_fedAt 18 = .ok (.aload_n 0, 1) := by decide +kernel
theorem dX11_fedAt_19 : decode cX11_fedAt 19 = .ok (.aload_n 0, 1) := by decide +kernel
theorem dX11_fedAt_20 : decode cX11_fedAt 20 = .ok (.iload_n 1, 1) := by decide +kernel
theorem dX11_fedAt_21 : decode cX11_fedAt 21 = .ok (.invokevirtual 229, 3) := by decide +kernel
theorem dX11_fedAt_24 : decode cX11_fedAt 24 = .ok (.iload_n 2, 1) := by decide +kernel
theorem dX11_fedAt_25 : decode cX11_fedAt 25 = .ok (.aload_n 0, 1) := by decide +kernel
theorem dX11_fedAt_26 : decode cX11_fedAt 26 = .ok (.iload_n 1, 1) := by decide +kernel
theorem dX11_fedAt_27 : decode cX11_fedAt 27 = .ok (.invokevirtual 226, 3) := by decide +kernel
theorem dX11_fedAt_30 : decode cX11_fedAt 30 = .ok (.aload_n 0, 1) := by decide +kernel
theorem dX11_fedAt_31 : decode cX11_fedAt 31 = .ok (.getfield 16, 3) := by decide +kernel
theorem dX11_fedAt_34 : decode cX11_fedAt 34 = .ok (.bipush 14, 2) := by decide +kernel
theorem dX11_fedAt_36 : decode cX11_fedAt 36 = .ok (.iaload, 1) := by decide +kernel
theorem dX11_fedAt_37 : decode cX11_fedAt 37 = .ok (.imul, 1) := by decide +kernel
theorem dX11_fedAt_38 : decode cX11_fedAt 38 = .ok (.invokevirtual 232, 3) := by decide +kernel
theorem dX11_fedAt_41 : decode cX11_fedAt 41 = .ok (.iadd, 1) := by decide +kernel
theorem dX11_fedAt_42 : decode cX11_fedAt 42 = .ok (.ireturn, 1) := by decide +kernel
set_option maxRecDepth 20000 in
theorem ggX11_fed_X11_in : GoodIn wsX11_fed wsX11_in := goodIn_r _ [7] (by decide +kernel) (by decide +kernel)
set_option maxRecDepth 20000 in
theorem gX11_fed_X11_in : GoodIn wsX11_fed (va_wsS RX11 147 yX11_in wsX11_in) := goodIn_app (goodIn_of _ (by decide +kernel)) ggX11_fed_X11_in
set_option maxRecDepth 20000 in
theorem ggX11_fed_X11_canHem : GoodIn wsX11_fed wsX11_canHem := goodIn_r _ [11, 2, 12, 13, 14, 6, 15, 16, 40, 41, 42, 43, 44, 45, 46, 47, 48, 49, 50, 51, 52, 53, 54, 55, 56, 57, 58, 59, 60, 61, 62, 63, 64, 65, 66, 67, 68, 69, 70, 71, 72, 73, 74, 75, 76, 77, 78, 79, 80, 81, 82, 83, 84, 85, 86, 87, 88, 89, 90, 91, 92, 93, 94, 95, 96, 97, 98, 99, 100, 101] (by decide +kernel) (by decide +kernel)
set_option maxRecDepth 20000 in
theorem gX11_fed_X11_canHem : GoodIn wsX11_fed (wsV RX11 235 RX11 yX11_canHem wsX11_canHem) := goodIn_app (goodIn_of _ (by decide +kernel)) ggX11_fed_X11_canHem
set_option maxRecDepth 20000 in
theorem ggX11_fed_X11_rounds : GoodIn wsX11_fed wsX11_rounds := goodIn_r _ [20, 21, 12, 13, 14, 6, 15, 2, 16, 22, 23, 24, 40, 41, 42, 43, 44, 45, 46, 47, 48, 49, 50, 51, 52, 53, 54, 55, 56, 57, 58, 59, 60, 61, 62, 63, 64, 65, 66, 67, 68, 69, 70, 71, 72, 73, 74, 75, 76, 77, 78, 79, 80, 81, 82, 83, 84, 85, 86, 87, 88, 89, 90, 91, 92, 93, 94, 95, 96, 97, 98, 99, 100, 101] (by decide +kernel) (by decide +kernel)
set_option maxRecDepth 20000 in
theorem gX11_fed_X11_rounds : GoodIn wsX11_fed (wsV RX11 226 RX11 yX11_rounds wsX11_rounds) := goodIn_app (goodIn_of _ (by decide +kernel)) ggX11_fed_X11_rounds
set_option maxRecDepth 20000 in
theorem ggX11_fed_X11_fedAt : GoodIn wsX11_fed wsX11_fedAt := goodIn_r _ [28, 16, 2, 29, 30, 31, 6, 32, 21, 17, 18, 19, 20, 12, 13, 14, 15, 22, 23, 24, 33, 34, 35, 36, 37, 38, 39, 40, 41, 42, 43, 44, 45, 46, 47, 48, 49, 50, 51, 52, 53, 54, 55, 56, 57, 58, 59, 60, 61, 62, 63, 64, 65, 66, 67, 68, 69, 70, 71, 72, 73, 74, 75, 76, 77, 78, 79, 80, 81, 82, 83, 84, 85, 86, 87, 88, 89, 90, 91, 92, 93, 94, 95, 96, 97, 98, 99, 100, 101] (by decide +kernel) (by decide +kernel)
set_option maxRecDepth 20000 in
theorem gX11_fed_X11_fedAt : GoodIn wsX11_fed (wsV RX11 241 RX11 yX11_fedAt wsX11_fedAt) := goodIn_app (goodIn_of _ (by decide +kernel)) ggX11_fed_X11_fedAt
theorem dX11_fed_0 : decode cX11_fed 0 = .ok (.iload_n 1, 1) := by decide +kernel
theorem dX11_fed_1 : decode cX11_fed 1 = .ok (.iconst 0, 1) := by decide +kernel
theorem dX11_fed_2 : decode cX11_fed 2 = .ok (.aload_n 0, 1) := by decide +kernel
theorem dX11_fed_3 : decode cX11_fed 3 = .ok (.getfield 112, 3) := by decide +kernel
theorem dX11_fed_6 : decode cX11_fed 6 = .ok (.iconst 1, 1) := by decide +kernel
theorem dX11_fed_7 : decode cX11_fed 7 = .ok (.isub, 1) := by decide +kernel
theorem dX11_fed_8 : decode cX11_fed 8 = .ok (.invokestatic 147, 3) := by decide +kernel
theorem dX11_fed_11 : decode cX11_fed 11 = .ok (.ifCond .eq 37, 3) := by decide +kernel
theorem dX11_fed_14 : decode cX11_fed 14 = .ok (.aload_n 0, 1) := by decide +kernel
theorem dX11_fed_15 : decode cX11_fed 15 = .ok (.invokevirtual 235, 3) := by decide +kernel
theorem dX11_fed_18 : decode cX11_fed 18 = .ok (.ifCond .eq 30, 3) := by decide +kernel
theorem dX11_fed_21 : decode cX11_fed 21 = .ok (.iload_n 2, 1) := by decide +kernel
theorem dX11_fed_22 : decode cX11_fed 22 = .ok (.iconst 0, 1) := by decide +kernel
theorem dX11_fed_23 : decode cX11_fed 23 = .ok (.aload_n 0, 1) := by decide +kernel
theorem dX11_fed_24 : decode cX11_fed 24 = .ok (.iload_n 1, 1) := by decide +kernel
theorem dX11_fed_25 : decode cX11_fed 25 = .ok (.invokevirtual 226, 3) := by decide +kernel
theorem dX11_fed_28 : decode cX11_fed 28 = .ok (.aload_n 0, 1) := by decide +kernel
theorem dX11_fed_29 : decode cX11_fed 29 = .ok (.getfield 16, 3) := by decide +kernel
theorem dX11_fed_32 : decode cX11_fed 32 = .ok (.bipush 14, 2) := by decide +kernel
theorem dX11_fed_34 : decode cX11_fed 34 = .ok (.iaload, 1) := by decide +kernel
theorem dX11_fed_35 : decode cX11_fed 35 = .ok (.imul, 1) := by decide +kernel
theorem dX11_fed_36 : decode cX11_fed 36 = .ok (.iconst 1, 1) := by decide +kernel
theorem dX11_fed_37 : decode cX11_fed 37 = .ok (.isub, 1) := by decide +kernel
theorem dX11_fed_38 : decode cX11_fed 38 = .ok (.invokestatic 147, 3) := by decide +kernel
theorem dX11_fed_41 : decode cX11_fed 41 = .ok (.ifCond .eq 7, 3) := by decide +kernel
theorem dX11_fed_44 : decode cX11_fed 44 = .ok (.iconst 1, 1) := by decide +kernel
theorem dX11_fed_45 : decode cX11_fed 45 = .ok (.goto 4, 3) := by decide +kernel
theorem dX11_fed_48 : decode cX11_fed 48 = .ok (.iconst 0, 1) := by decide +kernel
theorem dX11_fed_49 : decode cX11_fed 49 = .ok (.istore_n 3, 1) := by decide +kernel
theorem dX11_fed_50 : decode cX11_fed 50 = .ok (.aload_n 0, 1) := by decide +kernel
theorem dX11_fed_51 : decode cX11_fed 51 = .ok (.iload_n 3, 1) := by decide +kernel
theorem dX11_fed_52 : decode cX11_fed 52 = .ok (.ifCond .eq 7, 3) := by decide +kernel
theorem dX11_fed_55 : decode cX11_fed 55 = .ok (.iconst 0, 1) := by decide +kernel
theorem dX11_fed_56 : decode cX11_fed 56 = .ok (.goto 4, 3) := by decide +kernel
theorem dX11_fed_59 : decode cX11_fed 59 = .ok (.iconst 1, 1) := by decide +kernel
theorem dX11_fed_60 : decode cX11_fed 60 = .ok (.putfield 103, 3) := by decide +kernel
theorem dX11_fed_63 : decode cX11_fed 63 = .ok (.iload_n 3, 1) := by decide +kernel
theorem dX11_fed_64 : decode cX11_fed 64 = .ok (.ifCond .eq 12, 3) := by decide +kernel
theorem dX11_fed_67 : decode cX11_fed 67 = .ok (.aload_n 0, 1) := by decide +kernel
theorem dX11_fed_68 : decode cX11_fed 68 = .ok (.iload_n 1, 1) := by decide +kernel
theorem dX11_fed_69 : decode cX11_fed 69 = .ok (.iload_n 2, 1) := by decide +kernel
theorem dX11_fed_70 : decode cX11_fed 70 = .ok (.invokevirtual 241, 3) := by decide +kernel
theorem dX11_fed_73 : decode cX11_fed 73 = .ok (.goto 4, 3) := by decide +kernel
theorem dX11_fed_76 : decode cX11_fed 76 = .ok (.iconst 0, 1) := by decide +kernel
theorem dX11_fed_77 : decode cX11_fed 77 = .ok (.ireturn, 1) := by decide +kernel
set_option maxRecDepth 20000 in
theorem ggX11_meets_X11_canHem : GoodIn wsX11_meets wsX11_canHem := goodIn_r _ [6, 7, 8, 9, 10, 5, 11, 12, 39, 40, 41, 42, 43, 44, 45, 46, 47, 48, 49, 50, 51, 52, 53, 54, 55, 56, 57, 58, 59, 60, 61, 62, 63, 64, 65, 66, 67, 68, 69, 70, 71, 72, 73, 74, 75, 76, 77, 78, 79, 80, 81, 82, 83, 84, 85, 86, 87, 88, 89, 90, 91, 92, 93, 94, 95, 96, 97, 98, 99, 100] (by decide +kernel) (by decide +kernel)
set_option maxRecDepth 20000 in
theorem gX11_meets_X11_canHem : GoodIn wsX11_meets (wsV RX11 235 RX11 yX11_canHem wsX11_canHem) := goodIn_app (goodIn_of _ (by decide +kernel)) ggX11_meets_X11_canHem
set_option maxRecDepth 20000 in
theorem ggX11_meets_X11_looksAt : GoodIn wsX11_meets wsX11_looksAt := goodIn_r _ [16, 7, 12, 17, 18, 19, 5, 20, 21, 8, 9, 10, 11, 22, 23, 24, 25, 26, 27, 28, 29, 30, 31, 32, 33, 34, 35, 36, 37, 38, 39, 40, 41, 42, 43, 44, 45, 46, 47, 48, 49, 50, 51, 52, 53, 54, 55, 56, 57, 58, 59, 60, 61, 62, 63, 64, 65, 66, 67, 68, 69, 70, 71, 72, 73, 74, 75, 76, 77, 78, 79, 80, 81, 82, 83, 84, 85, 86, 87, 88, 89, 90, 91, 92, 93, 94, 95, 96, 97, 98, 99, 100] (by decide +kernel) (by decide +kernel)
set_option maxRecDepth 20000 in
theorem gX11_meets_X11_looksAt : GoodIn wsX11_meets (wsV RX11 238 RX11 yX11_looksAt wsX11_looksAt) := goodIn_app (goodIn_of _ (by decide +kernel)) ggX11_meets_X11_looksAt
theorem dX11_meets_0 : decode cX11_meets 0 = .ok (.aload_n 0, 1) := by decide +kernel
theorem dX11_meets_1 : decode cX11_meets 1 = .ok (.getfield 112, 3) := by decide +kernel
theorem dX11_meets_4 : decode cX11_meets 4 = .ok (.ifCond .eq 10, 3) := by decide +kernel
theorem dX11_meets_7 : decode cX11_meets 7 = .ok (.aload_n 0, 1) := by decide +kernel
theorem dX11_meets_8 : decode cX11_meets 8 = .ok (.invokevirtual 235, 3) := by decide +kernel
theorem dX11_meets_11 : decode cX11_meets 11 = .ok (.ifCond .ne 6, 3) := by decide +kernel
theorem dX11_meets_14 : decode cX11_meets 14 = .ok (.bipush (-3), 2) := by decide +kernel
theorem dX11_meets_16 : decode cX11_meets 16 = .ok (.ireturn, 1) := by decide +kernel
theorem dX11_meets_17 : decode cX11_meets 17 = .ok (.iconst 1, 1) := by decide +kernel
theorem dX11_meets_18 : decode cX11_meets 18 = .ok (.istore_n 1, 1) := by decide +kernel
theorem dX11_meets_19 : decode cX11_meets 19 = .ok (.iconst 0, 1) := by decide +kernel
theorem dX11_meets_20 : decode cX11_meets 20 = .ok (.istore_n 2, 1) := by decide +kernel
theorem dX11_meets_21 : decode cX11_meets 21 = .ok (.iload_n 2, 1) := by decide +kernel
theorem dX11_meets_22 : decode cX11_meets 22 = .ok (.aload_n 0, 1) := by decide +kernel
theorem dX11_meets_23 : decode cX11_meets 23 = .ok (.getfield 112, 3) := by decide +kernel
theorem dX11_meets_26 : decode cX11_meets 26 = .ok (.if_icmp .ge 24, 3) := by decide +kernel
theorem dX11_meets_29 : decode cX11_meets 29 = .ok (.aload_n 0, 1) := by decide +kernel
theorem dX11_meets_30 : decode cX11_meets 30 = .ok (.iload_n 2, 1) := by decide +kernel
theorem dX11_meets_31 : decode cX11_meets 31 = .ok (.iconst 2, 1) := by decide +kernel
theorem dX11_meets_32 : decode cX11_meets 32 = .ok (.invokevirtual 238, 3) := by decide +kernel
theorem dX11_meets_35 : decode cX11_meets 35 = .ok (.ifCond .ne 7, 3) := by decide +kernel
theorem dX11_meets_38 : decode cX11_meets 38 = .ok (.iconst 0, 1) := by decide +kernel
theorem dX11_meets_39 : decode cX11_meets 39 = .ok (.goto 4, 3) := by decide +kernel
theorem dX11_meets_42 : decode cX11_meets 42 = .ok (.iload_n 1, 1) := by decide +kernel
theorem dX11_meets_43 : decode cX11_meets 43 = .ok (.istore_n 1, 1) := by decide +kernel
theorem dX11_meets_44 : decode cX11_meets 44 = .ok (.iinc 2 1, 3) := by decide +kernel
theorem dX11_meets_47 : decode cX11_meets 47 = .ok (.goto (-26), 3) := by decide +kernel
theorem dX11_meets_50 : decode cX11_meets 50 = .ok (.iload_n 1, 1) := by decide +kernel
theorem dX11_meets_51 : decode cX11_meets 51 = .ok (.ireturn, 1) := by decide +kernel
set_option maxRecDepth 20000 in
theorem ggX11_feeds_X11_isTape : GoodIn wsX11_feeds wsX11_isTape := goodIn_r _ [7, 8, 9, 6, 10] (by decide +kernel) (by decide +kernel)
set_option maxRecDepth 20000 in
theorem gX11_feeds_X11_isTape : GoodIn wsX11_feeds (va_wsS RX11 183 yX11_isTape wsX11_isTape) := goodIn_app (goodIn_of _ (by decide +kernel)) ggX11_feeds_X11_isTape
set_option maxRecDepth 20000 in
theorem ggX11_feeds_X11_in : GoodIn wsX11_feeds wsX11_in := goodIn_r _ [10] (by decide +kernel) (by decide +kernel)
set_option maxRecDepth 20000 in
theorem gX11_feeds_X11_in : GoodIn wsX11_feeds (va_wsS RX11 147 yX11_in wsX11_in) := goodIn_app (goodIn_of _ (by decide +kernel)) ggX11_feeds_X11_in
set_option maxRecDepth 20000 in
theorem ggX11_feeds_X11_canHem : GoodIn wsX11_feeds wsX11_canHem := goodIn_r _ [14, 2, 15, 16, 17, 6, 18, 19, 49, 50, 51, 52, 53, 54, 55, 56, 57, 58, 59, 60, 61, 62, 63, 64, 65, 66, 67, 68, 69, 70, 71, 72, 73, 74, 75, 76, 77, 78, 79, 80, 81, 82, 83, 84, 85, 86, 87, 88, 89, 90, 91, 92, 93, 94, 95, 96, 97, 98, 99, 100, 101, 102, 103, 104, 105, 106, 107, 108, 109, 110] (by decide +kernel) (by decide +kernel)
set_option maxRecDepth 20000 in
theorem gX11_feeds_X11_canHem : GoodIn wsX11_feeds (wsV RX11 235 RX11 yX11_canHem wsX11_canHem) := goodIn_app (goodIn_of _ (by decide +kernel)) ggX11_feeds_X11_canHem
set_option maxRecDepth 20000 in
theorem ggX11_feeds_X11_rounds : GoodIn wsX11_feeds wsX11_rounds := goodIn_r _ [23, 24, 15, 16, 17, 6, 18, 2, 19, 25, 26, 27, 49, 50, 51, 52, 53, 54, 55, 56, 57, 58, 59, 60, 61, 62, 63, 64, 65, 66, 67, 68, 69, 70, 71, 72, 73, 74, 75, 76, 77, 78, 79, 80, 81, 82, 83, 84, 85, 86, 87, 88, 89, 90, 91, 92, 93, 94, 95, 96, 97, 98, 99, 100, 101, 102, 103, 104, 105, 106, 107, 108, 109, 110] (by decide +kernel) (by decide +kernel)
set_option maxRecDepth 20000 in
theorem gX11_feeds_X11_rounds : GoodIn wsX11_feeds (wsV RX11 226 RX11 yX11_rounds wsX11_rounds) := goodIn_app (goodIn_of _ (by decide +kernel)) ggX11_feeds_X11_rounds
set_option maxRecDepth 20000 in
theorem ggX11_feeds_X11_clears : GoodIn wsX11_feeds wsX11_clears := goodIn_r _ [31, 32, 33, 3, 49, 50, 51, 52, 53, 54, 55, 56, 57, 58, 59, 60, 61, 62, 63, 64, 65, 66, 67, 68, 69, 70, 71, 72, 73, 74, 75, 76, 77, 78, 79, 80, 81, 82, 83, 84, 85, 86, 87, 88, 89, 90, 91, 92, 93, 94, 95, 96, 97, 98, 99, 100, 101, 102, 103, 104, 105, 106, 107, 108, 109, 110] (by decide +kernel) (by decide +kernel)
set_option maxRecDepth 20000 in
theorem gX11_feeds_X11_clears : GoodIn wsX11_feeds (wsV RX11 244 RX11 yX11_clears wsX11_clears) := goodIn_app (goodIn_of _ (by decide +kernel)) ggX11_feeds_X11_clears
set_option maxRecDepth 20000 in
theorem ggX11_feeds_X11_fedAt : GoodIn wsX11_feeds wsX11_fedAt := goodIn_r _ [37, 19, 2, 38, 39, 40, 6, 41, 24, 20, 21, 22, 23, 15, 16, 17, 18, 25, 26, 27, 42, 43, 44, 45, 46, 47, 48, 49, 50, 51, 52, 53, 54, 55, 56, 57, 58, 59, 60, 61, 62, 63, 64, 65, 66, 67, 68, 69, 70, 71, 72, 73, 74, 75, 76, 77, 78, 79, 80, 81, 82, 83, 84, 85, 86, 87, 88, 89, 90, 91, 92, 93, 94, 95, 96, 97, 98, 99, 100, 101, 102, 103, 104, 105, 106, 107, 108, 109, 110] (by decide +kernel) (by decide +kernel)
set_option maxRecDepth 20000 in
theorem gX11_feeds_X11_fedAt : GoodIn wsX11_feeds (wsV RX11 241 RX11 yX11_fedAt wsX11_fedAt) := goodIn_app (goodIn_of _ (by decide +kernel)) ggX11_feeds_X11_fedAt
theorem dX11_feeds_0 : decode cX11_feeds 0 = .ok (.iload_n 1, 1) := by decide +kernel
theorem dX11_feeds_1 : decode cX11_feeds 1 = .ok (.invokestatic 183, 3) := by decide +kernel
theorem dX11_feeds_4 : decode cX11_feeds 4 = .ok (.ifCond .ne 5, 3) := by decide +kernel
theorem dX11_feeds_7 : decode cX11_feeds 7 = .ok (.iconst (-1), 1) := by decide +kernel
theorem dX11_feeds_8 : decode cX11_feeds 8 = .ok (.ireturn, 1) := by decide +kernel
theorem dX11_feeds_9 : decode cX11_feeds 9 = .ok (.iload_n 2, 1) := by decide +kernel
theorem dX11_feeds_10 : decode cX11_feeds 10 = .ok (.iconst 0, 1) := by decide +kernel
theorem dX11_feeds_11 : decode cX11_feeds 11 = .ok (.aload_n 0, 1) := by decide +kernel
theorem dX11_feeds_12 : decode cX11_feeds 12 = .ok (.getfield 112, 3) := by decide +kernel
theorem dX11_feeds_15 : decode cX11_feeds 15 = .ok (.iconst 1, 1) := by decide +kernel
theorem dX11_feeds_16 : decode cX11_feeds 16 = .ok (.isub, 1) := by decide +kernel
theorem dX11_feeds_17 : decode cX11_feeds 17 = .ok (.invokestatic 147, 3) := by decide +kernel
theorem dX11_feeds_20 : decode cX11_feeds 20 = .ok (.ifCond .eq 10, 3) := by decide +kernel
theorem dX11_feeds_23 : decode cX11_feeds 23 = .ok (.aload_n 0, 1) := by decide +kernel
theorem dX11_feeds_24 : decode cX11_feeds 24 = .ok (.invokevirtual 235, 3) := by decide +kernel
theorem dX11_feeds_27 : decode cX11_feeds 27 = .ok (.ifCond .ne 6, 3) := by decide +kernel
theorem dX11_feeds_30 : decode cX11_feeds 30 = .ok (.bipush (-3), 2) := by decide +kernel
theorem dX11_feeds_32 : decode cX11_feeds 32 = .ok (.ireturn, 1) := by decide +kernel
theorem dX11_feeds_33 : decode cX11_feeds 33 = .ok (.aload_n 0, 1) := by decide +kernel
theorem dX11_feeds_34 : decode cX11_feeds 34 = .ok (.iload_n 2, 1) := by decide +kernel
theorem dX11_feeds_35 : decode cX11_feeds 35 = .ok (.invokevirtual 226, 3) := by decide +kernel
theorem dX11_feeds_38 : decode cX11_feeds 38 = .ok (.aload_n 0, 1) := by decide +kernel
theorem dX11_feeds_39 : decode cX11_feeds 39 = .ok (.getfield 16, 3) := by decide +kernel
theorem dX11_feeds_42 : decode cX11_feeds 42 = .ok (.bipush 14, 2) := by decide +kernel
theorem dX11_feeds_44 : decode cX11_feeds 44 = .ok (.iaload, 1) := by decide +kernel
theorem dX11_feeds_45 : decode cX11_feeds 45 = .ok (.imul, 1) := by decide +kernel
theorem dX11_feeds_46 : decode cX11_feeds 46 = .ok (.istore_n 3, 1) := by decide +kernel
theorem dX11_feeds_47 : decode cX11_feeds 47 = .ok (.iload_n 3, 1) := by decide +kernel
theorem dX11_feeds_48 : decode cX11_feeds 48 = .ok (.sipush 400, 3) := by decide +kernel
theorem dX11_feeds_51 : decode cX11_feeds 51 = .ok (.if_icmp .le 6, 3) := by decide +kernel
theorem dX11_feeds_54 : decode cX11_feeds 54 = .ok (.bipush (-2), 2) := by decide +kernel
theorem dX11_feeds_56 : decode cX11_feeds 56 = .ok (.ireturn, 1) := by decide +kernel
theorem dX11_feeds_57 : decode cX11_feeds 57 = .ok (.aload_n 0, 1) := by decide +kernel
theorem dX11_feeds_58 : decode cX11_feeds 58 = .ok (.iload_n 1, 1) := by decide +kernel
theorem dX11_feeds_59 : decode cX11_feeds 59 = .ok (.iconst 2, 1) := by decide +kernel
theorem dX11_feeds_60 : decode cX11_feeds 60 = .ok (.iload_n 3, 1) := by decide +kernel
theorem dX11_feeds_61 : decode cX11_feeds 61 = .ok (.invokevirtual 244, 3) := by decide +kernel
theorem dX11_feeds_64 : decode cX11_feeds 64 = .ok (.iconst 0, 1) := by decide +kernel
theorem dX11_feeds_65 : decode cX11_feeds 65 = .ok (.istore 4, 2) := by decide +kernel
theorem dX11_feeds_67 : decode cX11_feeds 67 = .ok (.iload 4, 2) := by decide +kernel
theorem dX11_feeds_69 : decode cX11_feeds 69 = .ok (.iload_n 3, 1) := by decide +kernel
theorem dX11_feeds_70 : decode cX11_feeds 70 = .ok (.if_icmp .ge 30, 3) := by decide +kernel
theorem dX11_feeds_73 : decode cX11_feeds 73 = .ok (.aload_n 0, 1) := by decide +kernel
theorem dX11_feeds_74 : decode cX11_feeds 74 = .ok (.getfield 72, 3) := by decide +kernel
theorem dX11_feeds_77 : decode cX11_feeds 77 = .ok (.sipush 400, 3) := by decide +kernel
theorem dX11_feeds_80 : decode cX11_feeds 80 = .ok (.iload_n 1, 1) := by decide +kernel
theorem dX11_feeds_81 : decode cX11_feeds 81 = .ok (.imul, 1) := by decide +kernel
theorem dX11_feeds_82 : decode cX11_feeds 82 = .ok (.iload 4, 2) := by decide +kernel
theorem dX11_feeds_84 : decode cX11_feeds 84 = .ok (.iadd, 1) := by decide +kernel
theorem dX11_feeds_85 : decode cX11_feeds 85 = .ok (.aload_n 0, 1) := by decide +kernel
theorem dX11_feeds_86 : decode cX11_feeds 86 = .ok (.iload_n 2, 1) := by decide +kernel
theorem dX11_feeds_87 : decode cX11_feeds 87 = .ok (.iload 4, 2) := by decide +kernel
theorem dX11_feeds_89 : decode cX11_feeds 89 = .ok (.invokevirtual 241, 3) := by decide +kernel
theorem dX11_feeds_92 : decode cX11_feeds 92 = .ok (.i2l, 1) := by decide +kernel
theorem dX11_feeds_93 : decode cX11_feeds 93 = .ok (.lastore, 1) := by decide +kernel
theorem dX11_feeds_94 : decode cX11_feeds 94 = .ok (.iinc 4 1, 3) := by decide +kernel
theorem dX11_feeds_97 : decode cX11_feeds 97 = .ok (.goto (-30), 3) := by decide +kernel
theorem dX11_feeds_100 : decode cX11_feeds 100 = .ok (.iload_n 3, 1) := by decide +kernel
theorem dX11_feeds_101 : decode cX11_feeds 101 = .ok (.ireturn, 1) := by decide +kernel
set_option maxRecDepth 20000 in
theorem ggX11_judge_X11_isTape : GoodIn wsX11_judge wsX11_isTape := goodIn_r _ [11, 12, 13, 10, 14] (by decide +kernel) (by decide +kernel)
set_option maxRecDepth 20000 in
theorem gX11_judge_X11_isTape : GoodIn wsX11_judge (va_wsS RX11 183 yX11_isTape wsX11_isTape) := goodIn_app (goodIn_of _ (by decide +kernel)) ggX11_judge_X11_isTape
set_option maxRecDepth 20000 in
theorem ggX11_judge_X11_in : GoodIn wsX11_judge wsX11_in := goodIn_r _ [14] (by decide +kernel) (by decide +kernel)
set_option maxRecDepth 20000 in
theorem gX11_judge_X11_in : GoodIn wsX11_judge (va_wsS RX11 147 yX11_in wsX11_in) := goodIn_app (goodIn_of _ (by decide +kernel)) ggX11_judge_X11_in
set_option maxRecDepth 20000 in
theorem ggX11_judge_X11_canHem : GoodIn wsX11_judge wsX11_canHem := goodIn_r _ [18, 3, 19, 20, 21, 10, 22, 6, 50, 51, 52, 53, 54, 55, 56, 57, 58, 59, 60, 61, 62, 63, 64, 65, 66, 67, 68, 69, 70, 71, 72, 73, 74, 75, 76, 77, 78, 79, 80, 81, 82, 83, 84, 85, 86, 87, 88, 89, 90, 91, 92, 93, 94, 95, 96, 97, 98, 99, 100, 101, 102, 103, 104, 105, 106, 107, 108, 109, 110, 111] (by decide +kernel) (by decide +kernel)
set_option maxRecDepth 20000 in
theorem gX11_judge_X11_canHem : GoodIn wsX11_judge (wsV RX11 235 RX11 yX11_canHem wsX11_canHem) := goodIn_app (goodIn_of _ (by decide +kernel)) ggX11_judge_X11_canHem
set_option maxRecDepth 20000 in
theorem ggX11_judge_X11_refuse : GoodIn wsX11_judge wsX11_refuse := goodIn_r _ [26, 27, 50, 51, 52, 53, 54, 55, 56, 57, 58, 59, 60, 61, 62, 63, 64, 65, 66, 67, 68, 69, 70, 71, 72, 73, 74, 75, 76, 77, 78, 79, 80, 81, 82, 83, 84, 85, 86, 87, 88, 89, 90, 91, 92, 93, 94, 95, 96, 97, 98, 99, 100, 101, 102, 103, 104, 105, 106, 107, 108, 109, 110, 111] (by decide +kernel) (by decide +kernel)
set_option maxRecDepth 20000 in
theorem gX11_judge_X11_refuse : GoodIn wsX11_judge (wsV RX11 186 RX11 yX11_refuse wsX11_refuse) := goodIn_app (goodIn_of _ (by decide +kernel)) ggX11_judge_X11_refuse
set_option maxRecDepth 20000 in
theorem ggX11_judge_X11_rounds : GoodIn wsX11_judge wsX11_rounds := goodIn_r _ [31, 7, 19, 20, 21, 10, 22, 3, 6, 32, 33, 34, 50, 51, 52, 53, 54, 55, 56, 57, 58, 59, 60, 61, 62, 63, 64, 65, 66, 67, 68, 69, 70, 71, 72, 73, 74, 75, 76, 77, 78, 79, 80, 81, 82, 83, 84, 85, 86, 87, 88, 89, 90, 91, 92, 93, 94, 95, 96, 97, 98, 99, 100, 101, 102, 103, 104, 105, 106, 107, 108, 109, 110, 111] (by decide +kernel) (by decide +kernel)
set_option maxRecDepth 20000 in
theorem gX11_judge_X11_rounds : GoodIn wsX11_judge (wsV RX11 226 RX11 yX11_rounds wsX11_rounds) := goodIn_app (goodIn_of _ (by decide +kernel)) ggX11_judge_X11_rounds
set_option maxRecDepth 20000 in
theorem ggX11_judge_X11_looksAt : GoodIn wsX11_judge wsX11_looksAt := goodIn_r _ [38, 3, 6, 28, 29, 30, 10, 31, 7, 19, 20, 21, 22, 32, 33, 34, 39, 40, 41, 42, 43, 44, 45, 46, 47, 48, 49, 12, 13, 14, 50, 51, 52, 53, 54, 55, 56, 57, 58, 59, 60, 61, 62, 63, 64, 65, 66, 67, 68, 69, 70, 71, 72, 73, 74, 75, 76, 77, 78, 79, 80, 81, 82, 83, 84, 85, 86, 87, 88, 89, 90, 91, 92, 93, 94, 95, 96, 97, 98, 99, 100, 101, 102, 103, 104, 105, 106, 107, 108, 109, 110, 111] (by decide +kernel) (by decide +kernel)
set_option maxRecDepth 20000 in
theorem gX11_judge_X11_looksAt : GoodIn wsX11_judge (wsV RX11 238 RX11 yX11_looksAt wsX11_looksAt) := goodIn_app (goodIn_of _ (by decide +kernel)) ggX11_judge_X11_looksAt
set_option maxRecDepth 20000 in
theorem ggX11_judge_X11_away : GoodIn wsX11_judge wsX11_away := goodIn_r _ [34] (by decide +kernel) (by decide +kernel)
set_option maxRecDepth 20000 in
theorem gX11_judge_X11_away : GoodIn wsX11_judge (va_wsS RX11 198 yX11_away wsX11_away) := goodIn_app (goodIn_of _ (by decide +kernel)) ggX11_judge_X11_away
theorem dX11_judge_0 : decode cX11_judge 0 = .ok (.iload_n 1, 1) := by decide +kernel
theorem dX11_judge_1 : decode cX11_judge 1 = .ok (.invokestatic 183, 3) := by decide +kernel
theorem dX11_judge_4 : decode cX11_judge 4 = .ok (.ifCond .ne 5, 3) := by decide +kernel
theorem dX11_judge_7 : decode cX11_judge 7 = .ok (.iconst (-1), 1) := by decide +kernel
theorem dX11_judge_8 : decode cX11_judge 8 = .ok (.ireturn, 1) := by decide +kernel
theorem dX11_judge_9 : decode cX11_judge 9 = .ok (.iload_n 2, 1) := by decide +kernel
theorem dX11_judge_10 : decode cX11_judge 10 = .ok (.iconst 0, 1) := by decide +kernel
theorem dX11_judge_11 : decode cX11_judge 11 = .ok (.aload_n 0, 1) := by decide +kernel
theorem dX11_judge_12 : decode cX11_judge 12 = .ok (.getfield 112, 3) := by decide +kernel
theorem dX11_judge_15 : decode cX11_judge 15 = .ok (.iconst 1, 1) := by decide +kernel
theorem dX11_judge_16 : decode cX11_judge 16 = .ok (.isub, 1) := by decide +kernel
theorem dX11_judge_17 : decode cX11_judge 17 = .ok (.invokestatic 147, 3) := by decide +kernel
theorem dX11_judge_20 : decode cX11_judge 20 = .ok (.ifCond .eq 10, 3) := by decide +kernel
theorem dX11_judge_23 : decode cX11_judge 23 = .ok (.aload_n 0, 1) := by decide +kernel
theorem dX11_judge_24 : decode cX11_judge 24 = .ok (.invokevirtual 235, 3) := by decide +kernel
theorem dX11_judge_27 : decode cX11_judge 27 = .ok (.ifCond .ne 6, 3) := by decide +kernel
theorem dX11_judge_30 : decode cX11_judge 30 = .ok (.bipush (-3), 2) := by decide +kernel
theorem dX11_judge_32 : decode cX11_judge 32 = .ok (.ireturn, 1) := by decide +kernel
theorem dX11_judge_33 : decode cX11_judge 33 = .ok (.aload_n 0, 1) := by decide +kernel
theorem dX11_judge_34 : decode cX11_judge 34 = .ok (.getfield 66, 3) := by decide +kernel
theorem dX11_judge_37 : decode cX11_judge 37 = .ok (.iload_n 1, 1) := by decide +kernel
theorem dX11_judge_38 : decode cX11_judge 38 = .ok (.iaload, 1) := by decide +kernel
theorem dX11_judge_39 : decode cX11_judge 39 = .ok (.ifCond .ne 10, 3) := by decide +kernel
theorem dX11_judge_42 : decode cX11_judge 42 = .ok (.aload_n 0, 1) := by decide +kernel
theorem dX11_judge_43 : decode cX11_judge 43 = .ok (.bipush (-11), 2) := by decide +kernel
theorem dX11_judge_45 : decode cX11_judge 45 = .ok (.invokevirtual 186, 3) := by decide +kernel
theorem dX11_judge_48 : decode cX11_judge 48 = .ok (.ireturn, 1) := by decide +kernel
theorem dX11_judge_49 : decode cX11_judge 49 = .ok (.aload_n 0, 1) := by decide +kernel
theorem dX11_judge_50 : decode cX11_judge 50 = .ok (.getfield 66, 3) := by decide +kernel
theorem dX11_judge_53 : decode cX11_judge 53 = .ok (.iload_n 1, 1) := by decide +kernel
theorem dX11_judge_54 : decode cX11_judge 54 = .ok (.iaload, 1) := by decide +kernel
theorem dX11_judge_55 : decode cX11_judge 55 = .ok (.iconst 2, 1) := by decide +kernel
theorem dX11_judge_56 : decode cX11_judge 56 = .ok (.if_icmp .eq 10, 3) := by decide +kernel
theorem dX11_judge_59 : decode cX11_judge 59 = .ok (.aload_n 0, 1) := by decide +kernel
theorem dX11_judge_60 : decode cX11_judge 60 = .ok (.bipush (-12), 2) := by decide +kernel
theorem dX11_judge_62 : decode cX11_judge 62 = .ok (.invokevirtual 186, 3) := by decide +kernel
theorem dX11_judge_65 : decode cX11_judge 65 = .ok (.ireturn, 1) := by decide +kernel
theorem dX11_judge_66 : decode cX11_judge 66 = .ok (.aload_n 0, 1) := by decide +kernel
theorem dX11_judge_67 : decode cX11_judge 67 = .ok (.iload_n 2, 1) := by decide +kernel
theorem dX11_judge_68 : decode cX11_judge 68 = .ok (.invokevirtual 226, 3) := by decide +kernel
theorem dX11_judge_71 : decode cX11_judge 71 = .ok (.aload_n 0, 1) := by decide +kernel
theorem dX11_judge_72 : decode cX11_judge 72 = .ok (.getfield 16, 3) := by decide +kernel
theorem dX11_judge_75 : decode cX11_judge 75 = .ok (.bipush 14, 2) := by decide +kernel
theorem dX11_judge_77 : decode cX11_judge 77 = .ok (.iaload, 1) := by decide +kernel
theorem dX11_judge_78 : decode cX11_judge 78 = .ok (.imul, 1) := by decide +kernel
theorem dX11_judge_79 : decode cX11_judge 79 = .ok (.istore_n 3, 1) := by decide +kernel
theorem dX11_judge_80 : decode cX11_judge 80 = .ok (.aload_n 0, 1) := by decide +kernel
theorem dX11_judge_81 : decode cX11_judge 81 = .ok (.iload_n 2, 1) := by decide +kernel
theorem dX11_judge_82 : decode cX11_judge 82 = .ok (.iconst 4, 1) := by decide +kernel
theorem dX11_judge_83 : decode cX11_judge 83 = .ok (.invokevirtual 238, 3) := by decide +kernel
theorem dX11_judge_86 : decode cX11_judge 86 = .ok (.istore 4, 2) := by decide +kernel
theorem dX11_judge_88 : decode cX11_judge 88 = .ok (.iconst 0, 1) := by decide +kernel
theorem dX11_judge_89 : decode cX11_judge 89 = .ok (.istore 5, 2) := by decide +kernel
theorem dX11_judge_91 : decode cX11_judge 91 = .ok (.iconst 0, 1) := by decide +kernel
theorem dX11_judge_92 : decode cX11_judge 92 = .ok (.istore 6, 2) := by decide +kernel
theorem dX11_judge_94 : decode cX11_judge 94 = .ok (.iload 6, 2) := by decide +kernel
theorem dX11_judge_96 : decode cX11_judge 96 = .ok (.iload_n 3, 1) := by decide +kernel
theorem dX11_judge_97 : decode cX11_judge 97 = .ok (.if_icmp .ge 95, 3) := by decide +kernel
theorem dX11_judge_100 : decode cX11_judge 100 = .ok (.iload 6, 2) := by decide +kernel
theorem dX11_judge_102 : decode cX11_judge 102 = .ok (.aload_n 0, 1) := by decide +kernel
theorem dX11_judge_103 : decode cX11_judge 103 = .ok (.getfield 69, 3) := by decide +kernel
theorem dX11_judge_106 : decode cX11_judge 106 = .ok (.iload_n 1, 1) := by decide +kernel
theorem dX11_judge_107 : decode cX11_judge 107 = .ok (.iaload, 1) := by decide +kernel
theorem dX11_judge_108 : decode cX11_judge 108 = .ok (.if_icmp .lt 10, 3) := by decide +kernel
theorem dX11_judge_111 : decode cX11_judge 111 = .ok (.aload_n 0, 1) := by decide +kernel
theorem dX11_judge_112 : decode cX11_judge 112 = .ok (.bipush (-13), 2) := by decide +kernel
theorem dX11_judge_114 : decode cX11_judge 114 = .ok (.invokevirtual 186, 3) := by decide +kernel
theorem dX11_judge_117 : decode cX11_judge 117 = .ok (.ireturn, 1) := by decide +kernel
theorem dX11_judge_118 : decode cX11_judge 118 = .ok (.aload_n 0, 1) := by decide +kernel
theorem dX11_judge_119 : decode cX11_judge 119 = .ok (.getfield 72, 3) := by decide +kernel
theorem dX11_judge_122 : decode cX11_judge 122 = .ok (.sipush 400, 3) := by decide +kernel
theorem dX11_judge_125 : decode cX11_judge 125 = .ok (.iload_n 1, 1) := by decide +kernel
theorem dX11_judge_126 : decode cX11_judge 126 = .ok (.imul, 1) := by decide +kernel
theorem dX11_judge_127 : decode cX11_judge 127 = .ok (.iload 6, 2) := by decide +kernel
theorem dX11_judge_129 : decode cX11_judge 129 = .ok (.iadd, 1) := by decide +kernel
theorem dX11_judge_130 : decode cX11_judge 130 = .ok (.laload, 1) := by decide +kernel
theorem dX11_judge_131 : decode cX11_judge 131 = .ok (.l2i, 1) := by decide +kernel
theorem dX11_judge_132 : decode cX11_judge 132 = .ok (.istore 7, 2) := by decide +kernel
theorem dX11_judge_134 : decode cX11_judge 134 = .ok (.iload 7, 2) := by decide +kernel
theorem dX11_judge_136 : decode cX11_judge 136 = .ok (.bipush (-12), 2) := by decide +kernel
theorem dX11_judge_138 : decode cX11_judge 138 = .ok (.bipush 12, 2) := by decide +kernel
theorem dX11_judge_140 : decode cX11_judge 140 = .ok (.invokestatic 147, 3) := by decide +kernel
theorem dX11_judge_143 : decode cX11_judge 143 = .ok (.ifCond .eq 33, 3) := by decide +kernel
theorem dX11_judge_146 : decode cX11_judge 146 = .ok (.iload 7, 2) := by decide +kernel
theorem dX11_judge_148 : decode cX11_judge 148 = .ok (.aload_n 0, 1) := by decide +kernel
theorem dX11_judge_149 : decode cX11_judge 149 = .ok (.getfield 22, 3) := by decide +kernel
theorem dX11_judge_152 : decode cX11_judge 152 = .ok (.sipush 672, 3) := by decide +kernel
theorem dX11_judge_155 : decode cX11_judge 155 = .ok (.iload 6, 2) := by decide +kernel
theorem dX11_judge_157 : decode cX11_judge 157 = .ok (.aload_n 0, 1) := by decide +kernel
theorem dX11_judge_158 : decode cX11_judge 158 = .ok (.getfield 16, 3) := by decide +kernel
theorem dX11_judge_161 : decode cX11_judge 161 = .ok (.bipush 14, 2) := by decide +kernel
theorem dX11_judge_163 : decode cX11_judge 163 = .ok (.iaload, 1) := by decide +kernel
theorem dX11_judge_164 : decode cX11_judge 164 = .ok (.irem, 1) := by decide +kernel
theorem dX11_judge_165 : decode cX11_judge 165 = .ok (.iadd, 1) := by decide +kernel
theorem dX11_judge_166 : decode cX11_judge 166 = .ok (.iaload, 1) := by decide +kernel
theorem dX11_judge_167 : decode cX11_judge 167 = .ok (.isub, 1) := by decide +kernel
theorem dX11_judge_168 : decode cX11_judge 168 = .ok (.invokestatic 198, 3) := by decide +kernel
theorem dX11_judge_171 : decode cX11_judge 171 = .ok (.iload 4, 2) := by decide +kernel
theorem dX11_judge_173 : decode cX11_judge 173 = .ok (.if_icmp .le 6, 3) := by decide +kernel
theorem dX11_judge_176 : decode cX11_judge 176 = .ok (.iload 6, 2) := by decide +kernel
theorem dX11_judge_178 : decode cX11_judge 178 = .ok (.ireturn, 1) := by decide +kernel
theorem dX11_judge_179 : decode cX11_judge 179 = .ok (.iload 5, 2) := by decide +kernel
theorem dX11_judge_181 : decode cX11_judge 181 = .ok (.iload 7, 2) := by decide +kernel
theorem dX11_judge_183 : decode cX11_judge 183 = .ok (.iadd, 1) := by decide +kernel
theorem dX11_judge_184 : decode cX11_judge 184 = .ok (.istore 5, 2) := by decide +kernel
theorem dX11_judge_186 : decode cX11_judge 186 = .ok (.iinc 6 1, 3) := by decide +kernel
theorem dX11_judge_189 : decode cX11_judge 189 = .ok (.goto (-95), 3) := by decide +kernel
theorem dX11_judge_192 : decode cX11_judge 192 = .ok (.iload 5, 2) := by decide +kernel
theorem dX11_judge_194 : decode cX11_judge 194 = .ok (.aload_n 0, 1) := by decide +kernel
theorem dX11_judge_195 : decode cX11_judge 195 = .ok (.getfield 25, 3) := by decide +kernel
theorem dX11_judge_198 : decode cX11_judge 198 = .ok (.iload_n 2, 1) := by decide +kernel
theorem dX11_judge_199 : decode cX11_judge 199 = .ok (.iaload, 1) := by decide +kernel
theorem dX11_judge_200 : decode cX11_judge 200 = .ok (.if_icmp .ne 9, 3) := by decide +kernel
theorem dX11_judge_203 : decode cX11_judge 203 = .ok (.sipush 9999, 3) := by decide +kernel
theorem dX11_judge_206 : decode cX11_judge 206 = .ok (.goto 4, 3) := by decide +kernel
theorem dX11_judge_209 : decode cX11_judge 209 = .ok (.iload_n 3, 1) := by decide +kernel
theorem dX11_judge_210 : decode cX11_judge 210 = .ok (.ireturn, 1) := by decide +kernel
theorem dX11_lockOf_0 : decode cX11_lockOf 0 = .ok (.aload_n 0, 1) := by decide +kernel
theorem dX11_lockOf_1 : decode cX11_lockOf 1 = .ok (.getfield 28, 3) := by decide +kernel
theorem dX11_lockOf_4 : decode cX11_lockOf 4 = .ok (.iconst 0, 1) := by decide +kernel
theorem dX11_lockOf_5 : decode cX11_lockOf 5 = .ok (.iaload, 1) := by decide +kernel
theorem dX11_lockOf_6 : decode cX11_lockOf 6 = .ok (.aload_n 0, 1) := by decide +kernel
theorem dX11_lockOf_7 : decode cX11_lockOf 7 = .ok (.getfield 28, 3) := by decide +kernel
theorem dX11_lockOf_10 : decode cX11_lockOf 10 = .ok (.iconst 1, 1) := by decide +kernel
theorem dX11_lockOf_11 : decode cX11_lockOf 11 = .ok (.iaload, 1) := by decide +kernel
theorem dX11_lockOf_12 : decode cX11_lockOf 12 = .ok (.iadd, 1) := by decide +kernel
theorem dX11_lockOf_13 : decode cX11_lockOf 13 = .ok (.iload_n 2, 1) := by decide +kernel
theorem dX11_lockOf_14 : decode cX11_lockOf 14 = .ok (.imul, 1) := by decide +kernel
theorem dX11_lockOf_15 : decode cX11_lockOf 15 = .ok (.iload_n 1, 1) := by decide +kernel
theorem dX11_lockOf_16 : decode cX11_lockOf 16 = .ok (.iload_n 2, 1) := by decide +kernel
theorem dX11_lockOf_17 : decode cX11_lockOf 17 = .ok (.iadd, 1) := by decide +kernel
theorem dX11_lockOf_18 : decode cX11_lockOf 18 = .ok (.idiv, 1) := by decide +kernel
theorem dX11_lockOf_19 : decode cX11_lockOf 19 = .ok (.ireturn, 1) := by decide +kernel
theorem dX11_liesIn_0 : decode cX11_liesIn 0 = .ok (.aload_n 0, 1) := by decide +kernel
theorem dX11_liesIn_1 : decode cX11_liesIn 1 = .ok (.getfield 28, 3) := by decide +kernel
theorem dX11_liesIn_4 : decode cX11_liesIn 4 = .ok (.iconst 0, 1) := by decide +kernel
theorem dX11_liesIn_5 : decode cX11_liesIn 5 = .ok (.iaload, 1) := by decide +kernel
theorem dX11_liesIn_6 : decode cX11_liesIn 6 = .ok (.aload_n 0, 1) := by decide +kernel
theorem dX11_liesIn_7 : decode cX11_liesIn 7 = .ok (.getfield 28, 3) := by decide +kernel
theorem dX11_liesIn_10 : decode cX11_liesIn 10 = .ok (.iconst 1, 1) := by decide +kernel
theorem dX11_liesIn_11 : decode cX11_liesIn 11 = .ok (.iaload, 1) := by decide +kernel
theorem dX11_liesIn_12 : decode cX11_liesIn 12 = .ok (.iadd, 1) := by decide +kernel
theorem dX11_liesIn_13 : decode cX11_liesIn 13 = .ok (.istore_n 2, 1) := by decide +kernel
theorem dX11_liesIn_14 : decode cX11_liesIn 14 = .ok (.iload_n 1, 1) := by decide +kernel
theorem dX11_liesIn_15 : decode cX11_liesIn 15 = .ok (.ifCond .le 17, 3) := by decide +kernel
theorem dX11_liesIn_18 : decode cX11_liesIn 18 = .ok (.iload_n 1, 1) := by decide +kernel
theorem dX11_liesIn_19 : decode cX11_liesIn 19 = .ok (.aload_n 0, 1) := by decide +kernel
theorem dX11_liesIn_20 : decode cX11_liesIn 20 = .ok (.getfield 28, 3) := by decide +kernel
theorem dX11_liesIn_23 : decode cX11_liesIn 23 = .ok (.iconst 0, 1) := by decide +kernel
theorem dX11_liesIn_24 : decode cX11_liesIn 24 = .ok (.iaload, 1) := by decide +kernel
theorem dX11_liesIn_25 : decode cX11_liesIn 25 = .ok (.if_icmp .ge 7, 3) := by decide +kernel
theorem dX11_liesIn_28 : decode cX11_liesIn 28 = .ok (.iconst 0, 1) := by decide +kernel
theorem dX11_liesIn_29 : decode cX11_liesIn 29 = .ok (.goto 40, 3) := by decide +kernel
theorem dX11_liesIn_32 : decode cX11_liesIn 32 = .ok (.iload_n 1, 1) := by decide +kernel
theorem dX11_liesIn_33 : decode cX11_liesIn 33 = .ok (.aload_n 0, 1) := by decide +kernel
theorem dX11_liesIn_34 : decode cX11_liesIn 34 = .ok (.getfield 28, 3) := by decide +kernel
theorem dX11_liesIn_37 : decode cX11_liesIn 37 = .ok (.iconst 0, 1) := by decide +kernel
theorem dX11_liesIn_38 : decode cX11_liesIn 38 = .ok (.iaload, 1) := by decide +kernel
theorem dX11_liesIn_39 : decode cX11_liesIn 39 = .ok (.if_icmp .le 12, 3) := by decide +kernel
theorem dX11_liesIn_42 : decode cX11_liesIn 42 = .ok (.iload_n 1, 1) := by decide +kernel
theorem dX11_liesIn_43 : decode cX11_liesIn 43 = .ok (.iload_n 2, 1) := by decide +kernel
theorem dX11_liesIn_44 : decode cX11_liesIn 44 = .ok (.if_icmp .ge 7, 3) := by decide +kernel
theorem dX11_liesIn_47 : decode cX11_liesIn 47 = .ok (.iconst 1, 1) := by decide +kernel
theorem dX11_liesIn_48 : decode cX11_liesIn 48 = .ok (.goto 21, 3) := by decide +kernel
theorem dX11_liesIn_51 : decode cX11_liesIn 51 = .ok (.iload_n 1, 1) := by decide +kernel
theorem dX11_liesIn_52 : decode cX11_liesIn 52 = .ok (.ifCond .ne 7, 3) := by decide +kernel
theorem dX11_liesIn_55 : decode cX11_liesIn 55 = .ok (.iconst 2, 1) := by decide +kernel
theorem dX11_liesIn_56 : decode cX11_liesIn 56 = .ok (.goto 13, 3) := by decide +kernel
theorem dX11_liesIn_59 : decode cX11_liesIn 59 = .ok (.iload_n 1, 1) := by decide +kernel
theorem dX11_liesIn_60 : decode cX11_liesIn 60 = .ok (.iload_n 2, 1) := by decide +kernel
theorem dX11_liesIn_61 : decode cX11_liesIn 61 = .ok (.if_icmp .ne 7, 3) := by decide +kernel
theorem dX11_liesIn_64 : decode cX11_liesIn 64 = .ok (.iconst 3, 1) := by decide +kernel
theorem dX11_liesIn_65 : decode cX11_liesIn 65 = .ok (.goto 4, 3) := by decide +kernel
theorem dX11_liesIn_68 : decode cX11_liesIn 68 = .ok (.iconst 4, 1) := by decide +kernel
theorem dX11_liesIn_69 : decode cX11_liesIn 69 = .ok (.ireturn, 1) := by decide +kernel
set_option maxRecDepth 20000 in
theorem ggX11_cloth_X11_in : GoodIn wsX11_cloth wsX11_in := goodIn_r _ [5] (by decide +kernel) (by decide +kernel)
set_option maxRecDepth 20000 in
theorem gX11_cloth_X11_in : GoodIn wsX11_cloth (va_wsS RX11 147 yX11_in wsX11_in) := goodIn_app (goodIn_of _ (by decide +kernel)) ggX11_cloth_X11_in
theorem dX11_cloth_0 : decode cX11_cloth 0 = .ok (.iload_n 1, 1) := by decide +kernel
theorem dX11_cloth_1 : decode cX11_cloth 1 = .ok (.iconst 0, 1) := by decide +kernel
theorem dX11_cloth_2 : decode cX11_cloth 2 = .ok (.iconst 1, 1) := by decide +kernel
theorem dX11_cloth_3 : decode cX11_cloth 3 = .ok (.invokestatic 147, 3) := by decide +kernel
theorem dX11_cloth_6 : decode cX11_cloth 6 = .ok (.ifCond .eq 13, 3) := by decide +kernel
theorem dX11_cloth_9 : decode cX11_cloth 9 = .ok (.iload_n 2, 1) := by decide +kernel
theorem dX11_cloth_10 : decode cX11_cloth 10 = .ok (.iconst 0, 1) := by decide +kernel
theorem dX11_cloth_11 : decode cX11_cloth 11 = .ok (.bipush 60, 2) := by decide +kernel
theorem dX11_cloth_13 : decode cX11_cloth 13 = .ok (.invokestatic 147, 3) := by decide +kernel
theorem dX11_cloth_16 : decode cX11_cloth 16 = .ok (.ifCond .ne 5, 3) := by decide +kernel
theorem dX11_cloth_19 : decode cX11_cloth 19 = .ok (.iconst (-1), 1) := by decide +kernel
theorem dX11_cloth_20 : decode cX11_cloth 20 = .ok (.ireturn, 1) := by decide +kernel
theorem dX11_cloth_21 : decode cX11_cloth 21 = .ok (.aload_n 0, 1) := by decide +kernel
theorem dX11_cloth_22 : decode cX11_cloth 22 = .ok (.getfield 28, 3) := by decide +kernel
theorem dX11_cloth_25 : decode cX11_cloth 25 = .ok (.iload_n 1, 1) := by decide +kernel
theorem dX11_cloth_26 : decode cX11_cloth 26 = .ok (.iaload, 1) := by decide +kernel
theorem dX11_cloth_27 : decode cX11_cloth 27 = .ok (.istore_n 3, 1) := by decide +kernel
theorem dX11_cloth_28 : decode cX11_cloth 28 = .ok (.aload_n 0, 1) := by decide +kernel
theorem dX11_cloth_29 : decode cX11_cloth 29 = .ok (.getfield 28, 3) := by decide +kernel
theorem dX11_cloth_32 : decode cX11_cloth 32 = .ok (.iload_n 1, 1) := by decide +kernel
theorem dX11_cloth_33 : decode cX11_cloth 33 = .ok (.iload_n 2, 1) := by decide +kernel
theorem dX11_cloth_34 : decode cX11_cloth 34 = .ok (.iastore, 1) := by decide +kernel
theorem dX11_cloth_35 : decode cX11_cloth 35 = .ok (.iload_n 3, 1) := by decide +kernel
theorem dX11_cloth_36 : decode cX11_cloth 36 = .ok (.ireturn, 1) := by decide +kernel
set_option maxRecDepth 20000 in
theorem ggX11_tensions_X11_in : GoodIn wsX11_tensions wsX11_in := goodIn_r _ [6] (by decide +kernel) (by decide +kernel)
set_option maxRecDepth 20000 in
theorem gX11_tensions_X11_in : GoodIn wsX11_tensions (va_wsS RX11 147 yX11_in wsX11_in) := goodIn_app (goodIn_of _ (by decide +kernel)) ggX11_tensions_X11_in
set_option maxRecDepth 20000 in
theorem ggX11_tensions_X11_lockOf : GoodIn wsX11_tensions wsX11_lockOf := goodIn_r _ [10, 11, 12, 13, 14, 15, 16, 17, 18, 19, 20, 21, 22, 23, 24, 25, 26, 27, 28, 29, 30, 31, 32, 33, 34, 35, 36, 37, 38, 39, 40, 41, 42, 43, 44, 45, 46, 47, 48, 49, 50, 51, 52, 53, 54, 55, 56, 57, 58, 59, 60, 61, 62, 63, 64, 65, 66, 67, 68, 69, 70, 71, 72, 73] (by decide +kernel) (by decide +kernel)
set_option maxRecDepth 20000 in
theorem gX11_tensions_X11_lockOf : GoodIn wsX11_tensions (wsV RX11 248 RX11 yX11_lockOf wsX11_lockOf) := goodIn_app (goodIn_of _ (by decide +kernel)) ggX11_tensions_X11_lockOf
theorem dX11_tensions_0 : decode cX11_tensions 0 = .ok (.iload_n 1, 1) := by decide +kernel
theorem dX11_tensions_1 : decode cX11_tensions 1 = .ok (.iconst 1, 1) := by decide +kernel
theorem dX11_tensions_2 : decode cX11_tensions 2 = .ok (.bipush 99, 2) := by decide +kernel
theorem dX11_tensions_4 : decode cX11_tensions 4 = .ok (.invokestatic 147, 3) := by decide +kernel
theorem dX11_tensions_7 : decode cX11_tensions 7 = .ok (.ifCond .eq 13, 3) := by decide +kernel
theorem dX11_tensions_10 : decode cX11_tensions 10 = .ok (.iload_n 2, 1) := by decide +kernel
theorem dX11_tensions_11 : decode cX11_tensions 11 = .ok (.iconst 1, 1) := by decide +kernel
theorem dX11_tensions_12 : decode cX11_tensions 12 = .ok (.bipush 99, 2) := by decide +kernel
theorem dX11_tensions_14 : decode cX11_tensions 14 = .ok (.invokestatic 147, 3) := by decide +kernel
theorem dX11_tensions_17 : decode cX11_tensions 17 = .ok (.ifCond .ne 5, 3) := by decide +kernel
theorem dX11_tensions_20 : decode cX11_tensions 20 = .ok (.iconst (-1), 1) := by decide +kernel
theorem dX11_tensions_21 : decode cX11_tensions 21 = .ok (.ireturn, 1) := by decide +kernel
theorem dX11_tensions_22 : decode cX11_tensions 22 = .ok (.aload_n 0, 1) := by decide +kernel
theorem dX11_tensions_23 : decode cX11_tensions 23 = .ok (.iload_n 1, 1) := by decide +kernel
theorem dX11_tensions_24 : decode cX11_tensions 24 = .ok (.putfield 31, 3) := by decide +kernel
theorem dX11_tensions_27 : decode cX11_tensions 27 = .ok (.aload_n 0, 1) := by decide +kernel
theorem dX11_tensions_28 : decode cX11_tensions 28 = .ok (.iload_n 2, 1) := by decide +kernel
theorem dX11_tensions_29 : decode cX11_tensions 29 = .ok (.putfield 35, 3) := by decide +kernel
theorem dX11_tensions_32 : decode cX11_tensions 32 = .ok (.aload_n 0, 1) := by decide +kernel
theorem dX11_tensions_33 : decode cX11_tensions 33 = .ok (.iload_n 1, 1) := by decide +kernel
theorem dX11_tensions_34 : decode cX11_tensions 34 = .ok (.iload_n 2, 1) := by decide +kernel
theorem dX11_tensions_35 : decode cX11_tensions 35 = .ok (.invokevirtual 248, 3) := by decide +kernel
theorem dX11_tensions_38 : decode cX11_tensions 38 = .ok (.ireturn, 1) := by decide +kernel
set_option maxRecDepth 20000 in
theorem ggX11_lock_X11_lockOf : GoodIn wsX11_lock wsX11_lockOf := goodIn_r _ [7, 8, 13, 14, 15, 16, 17, 18, 19, 20, 21, 22, 23, 24, 25, 26, 27, 28, 29, 30, 31, 32, 33, 34, 35, 36, 37, 38, 39, 40, 41, 42, 43, 44, 45, 46, 47, 48, 49, 50, 51, 52, 53, 54, 55, 56, 57, 58, 59, 60, 61, 62, 63, 64, 65, 66, 67, 68, 69, 70, 71, 72, 73, 74] (by decide +kernel) (by decide +kernel)
set_option maxRecDepth 20000 in
theorem gX11_lock_X11_lockOf : GoodIn wsX11_lock (wsV RX11 248 RX11 yX11_lockOf wsX11_lockOf) := goodIn_app (goodIn_of _ (by decide +kernel)) ggX11_lock_X11_lockOf
set_option maxRecDepth 20000 in
theorem ggX11_lock_X11_liesIn : GoodIn wsX11_lock wsX11_liesIn := goodIn_r _ [12, 8, 13, 14, 15, 16, 17, 18, 19, 20, 21, 22, 23, 24, 25, 26, 27, 28, 29, 30, 31, 32, 33, 34, 35, 36, 37, 38, 39, 40, 41, 42, 43, 44, 45, 46, 47, 48, 49, 50, 51, 52, 53, 54, 55, 56, 57, 58, 59, 60, 61, 62, 63, 64, 65, 66, 67, 68, 69, 70, 71, 72, 73, 74] (by decide +kernel) (by decide +kernel)
set_option maxRecDepth 20000 in
theorem gX11_lock_X11_liesIn : GoodIn wsX11_lock (wsV RX11 251 RX11 yX11_liesIn wsX11_liesIn) := goodIn_app (goodIn_of _ (by decide +kernel)) ggX11_lock_X11_liesIn
theorem dX11_lock_0 : decode cX11_lock 0 = .ok (.aload_n 0, 1) := by decide +kernel
theorem dX11_lock_1 : decode cX11_lock 1 = .ok (.aload_n 0, 1) := by decide +kernel
theorem dX11_lock_2 : decode cX11_lock 2 = .ok (.aload_n 0, 1) := by decide +kernel
theorem dX11_lock_3 : decode cX11_lock 3 = .ok (.getfield 31, 3) := by decide +kernel
theorem dX11_lock_6 : decode cX11_lock 6 = .ok (.aload_n 0, 1) := by decide +kernel
theorem dX11_lock_7 : decode cX11_lock 7 = .ok (.getfield 35, 3) := by decide +kernel
theorem dX11_lock_10 : decode cX11_lock 10 = .ok (.invokevirtual 248, 3) := by decide +kernel
theorem dX11_lock_13 : decode cX11_lock 13 = .ok (.invokevirtual 251, 3) := by decide +kernel
theorem dX11_lock_16 : decode cX11_lock 16 = .ok (.ireturn, 1) := by decide +kernel
set_option maxRecDepth 20000 in
theorem ggX11_tune_X11_in : GoodIn wsX11_tune wsX11_in := goodIn_r _ [4] (by decide +kernel) (by decide +kernel)
set_option maxRecDepth 20000 in
theorem gX11_tune_X11_in : GoodIn wsX11_tune (va_wsS RX11 147 yX11_in wsX11_in) := goodIn_app (goodIn_of _ (by decide +kernel)) ggX11_tune_X11_in
set_option maxRecDepth 20000 in
theorem ggX11_tune_X11_lockOf : GoodIn wsX11_tune wsX11_lockOf := goodIn_r _ [8, 9, 14, 15, 16, 17, 18, 19, 20, 21, 22, 23, 24, 25, 26, 27, 28, 29, 30, 31, 32, 33, 34, 35, 36, 37, 38, 39, 40, 41, 42, 43, 44, 45, 46, 47, 48, 49, 50, 51, 52, 53, 54, 55, 56, 57, 58, 59, 60, 61, 62, 63, 64, 65, 66, 67, 68, 69, 70, 71, 72, 73, 74, 75] (by decide +kernel) (by decide +kernel)
set_option maxRecDepth 20000 in
theorem gX11_tune_X11_lockOf : GoodIn wsX11_tune (wsV RX11 248 RX11 yX11_lockOf wsX11_lockOf) := goodIn_app (goodIn_of _ (by decide +kernel)) ggX11_tune_X11_lockOf
set_option maxRecDepth 20000 in
theorem ggX11_tune_X11_liesIn : GoodIn wsX11_tune wsX11_liesIn := goodIn_r _ [13, 9, 14, 15, 16, 17, 18, 19, 20, 21, 22, 23, 24, 25, 26, 27, 28, 29, 30, 31, 32, 33, 34, 35, 36, 37, 38, 39, 40, 41, 42, 43, 44, 45, 46, 47, 48, 49, 50, 51, 52, 53, 54, 55, 56, 57, 58, 59, 60, 61, 62, 63, 64, 65, 66, 67, 68, 69, 70, 71, 72, 73, 74, 75] (by decide +kernel) (by decide +kernel)
set_option maxRecDepth 20000 in
theorem gX11_tune_X11_liesIn : GoodIn wsX11_tune (wsV RX11 251 RX11 yX11_liesIn wsX11_liesIn) := goodIn_app (goodIn_of _ (by decide +kernel)) ggX11_tune_X11_liesIn
theorem dX11_tune_0 : decode cX11_tune 0 = .ok (.iload_n 1, 1) := by decide +kernel
theorem dX11_tune_1 : decode cX11_tune 1 = .ok (.iconst 0, 1) := by decide +kernel
theorem dX11_tune_2 : decode cX11_tune 2 = .ok (.iconst 1, 1) := by decide +kernel
theorem dX11_tune_3 : decode cX11_tune 3 = .ok (.invokestatic 147, 3) := by decide +kernel
theorem dX11_tune_6 : decode cX11_tune 6 = .ok (.ifCond .ne 5, 3) := by decide +kernel
theorem dX11_tune_9 : decode cX11_tune 9 = .ok (.iconst (-1), 1) := by decide +kernel
theorem dX11_tune_10 : decode cX11_tune 10 = .ok (.ireturn, 1) := by decide +kernel
theorem dX11_tune_11 : decode cX11_tune 11 = .ok (.iconst 2, 1) := by decide +kernel
theorem dX11_tune_12 : decode cX11_tune 12 = .ok (.istore_n 2, 1) := by decide +kernel
theorem dX11_tune_13 : decode cX11_tune 13 = .ok (.iload_n 2, 1) := by decide +kernel
theorem dX11_tune_14 : decode cX11_tune 14 = .ok (.sipush 198, 3) := by decide +kernel
theorem dX11_tune_17 : decode cX11_tune 17 = .ok (.if_icmp .gt 61, 3) := by decide +kernel
theorem dX11_tune_20 : decode cX11_tune 20 = .ok (.iconst 1, 1) := by decide +kernel
theorem dX11_tune_21 : decode cX11_tune 21 = .ok (.istore_n 3, 1) := by decide +kernel
theorem dX11_tune_22 : decode cX11_tune 22 = .ok (.iload_n 3, 1) := by decide +kernel
theorem dX11_tune_23 : decode cX11_tune 23 = .ok (.iload_n 2, 1) := by decide +kernel
theorem dX11_tune_24 : decode cX11_tune 24 = .ok (.if_icmp .ge 48, 3) := by decide +kernel
theorem dX11_tune_27 : decode cX11_tune 27 = .ok (.iload_n 3, 1) := by decide +kernel
theorem dX11_tune_28 : decode cX11_tune 28 = .ok (.bipush 99, 2) := by decide +kernel
theorem dX11_tune_30 : decode cX11_tune 30 = .ok (.if_icmp .gt 42, 3) := by decide +kernel
theorem dX11_tune_33 : decode cX11_tune 33 = .ok (.iload_n 2, 1) := by decide +kernel
theorem dX11_tune_34 : decode cX11_tune 34 = .ok (.iload_n 3, 1) := by decide +kernel
theorem dX11_tune_35 : decode cX11_tune 35 = .ok (.isub, 1) := by decide +kernel
theorem dX11_tune_36 : decode cX11_tune 36 = .ok (.bipush 99, 2) := by decide +kernel
theorem dX11_tune_38 : decode cX11_tune 38 = .ok (.if_icmp .gt 28, 3) := by decide +kernel
theorem dX11_tune_41 : decode cX11_tune 41 = .ok (.aload_n 0, 1) := by decide +kernel
theorem dX11_tune_42 : decode cX11_tune 42 = .ok (.aload_n 0, 1) := by decide +kernel
theorem dX11_tune_43 : decode cX11_tune 43 = .ok (.iload_n 3, 1) := by decide +kernel
theorem dX11_tune_44 : decode cX11_tune 44 = .ok (.iload_n 2, 1) := by decide +kernel
theorem dX11_tune_45 : decode cX11_tune 45 = .ok (.iload_n 3, 1) := by decide +kernel
theorem dX11_tune_46 : decode cX11_tune 46 = .ok (.isub, 1) := by decide +kernel
theorem dX11_tune_47 : decode cX11_tune 47 = .ok (.invokevirtual 248, 3) := by decide +kernel
theorem dX11_tune_50 : decode cX11_tune 50 = .ok (.invokevirtual 251, 3) := by decide +kernel
theorem dX11_tune_53 : decode cX11_tune 53 = .ok (.iload_n 1, 1) := by decide +kernel
theorem dX11_tune_54 : decode cX11_tune 54 = .ok (.if_icmp .ne 12, 3) := by decide +kernel
theorem dX11_tune_57 : decode cX11_tune 57 = .ok (.bipush 100, 2) := by decide +kernel
