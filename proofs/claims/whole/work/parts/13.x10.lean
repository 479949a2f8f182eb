theorem dX10_init_0 : decode cX10_init 0 = .ok (.aload_n 0, 1) := by decide +kernel
theorem dX10_init_1 : decode cX10_init 1 = .ok (.invokespecial 1, 3) := by decide +kernel
theorem dX10_init_4 : decode cX10_init 4 = .ok (.aload_n 0, 1) := by decide +kernel
theorem dX10_init_5 : decode cX10_init 5 = .ok (.bipush 6, 2) := by decide +kernel
theorem dX10_init_7 : decode cX10_init 7 = .ok (.newarray .int, 2) := by decide +kernel
theorem dX10_init_9 : decode cX10_init 9 = .ok (.putfield 7, 3) := by decide +kernel
theorem dX10_init_12 : decode cX10_init 12 = .ok (.aload_n 0, 1) := by decide +kernel
theorem dX10_init_13 : decode cX10_init 13 = .ok (.iconst 4, 1) := by decide +kernel
theorem dX10_init_14 : decode cX10_init 14 = .ok (.newarray .int, 2) := by decide +kernel
theorem dX10_init_16 : decode cX10_init 16 = .ok (.putfield 13, 3) := by decide +kernel
theorem dX10_init_19 : decode cX10_init 19 = .ok (.aload_n 0, 1) := by decide +kernel
theorem dX10_init_20 : decode cX10_init 20 = .ok (.iconst 4, 1) := by decide +kernel
theorem dX10_init_21 : decode cX10_init 21 = .ok (.newarray .int, 2) := by decide +kernel
theorem dX10_init_23 : decode cX10_init 23 = .ok (.putfield 16, 3) := by decide +kernel
theorem dX10_init_26 : decode cX10_init 26 = .ok (.aload_n 0, 1) := by decide +kernel
theorem dX10_init_27 : decode cX10_init 27 = .ok (.iconst 4, 1) := by decide +kernel
theorem dX10_init_28 : decode cX10_init 28 = .ok (.newarray .int, 2) := by decide +kernel
theorem dX10_init_30 : decode cX10_init 30 = .ok (.putfield 19, 3) := by decide +kernel
theorem dX10_init_33 : decode cX10_init 33 = .ok (.aload_n 0, 1) := by decide +kernel
theorem dX10_init_34 : decode cX10_init 34 = .ok (.iconst 4, 1) := by decide +kernel
theorem dX10_init_35 : decode cX10_init 35 = .ok (.newarray .int, 2) := by decide +kernel
theorem dX10_init_37 : decode cX10_init 37 = .ok (.putfield 22, 3) := by decide +kernel
theorem dX10_init_40 : decode cX10_init 40 = .ok (.aload_n 0, 1) := by decide +kernel
theorem dX10_init_41 : decode cX10_init 41 = .ok (.bipush 6, 2) := by decide +kernel
theorem dX10_init_43 : decode cX10_init 43 = .ok (.newarray .int, 2) := by decide +kernel
theorem dX10_init_45 : decode cX10_init 45 = .ok (.putfield 25, 3) := by decide +kernel
theorem dX10_init_48 : decode cX10_init 48 = .ok (.aload_n 0, 1) := by decide +kernel
theorem dX10_init_49 : decode cX10_init 49 = .ok (.iconst 4, 1) := by decide +kernel
theorem dX10_init_50 : decode cX10_init 50 = .ok (.newarray .int, 2) := by decide +kernel
theorem dX10_init_52 : decode cX10_init 52 = .ok (.putfield 28, 3) := by decide +kernel
theorem dX10_init_55 : decode cX10_init 55 = .ok (.aload_n 0, 1) := by decide +kernel
theorem dX10_init_56 : decode cX10_init 56 = .ok (.iconst 4, 1) := by decide +kernel
theorem dX10_init_57 : decode cX10_init 57 = .ok (.newarray .int, 2) := by decide +kernel
theorem dX10_init_59 : decode cX10_init 59 = .ok (.putfield 31, 3) := by decide +kernel
theorem dX10_init_62 : decode cX10_init 62 = .ok (.aload_n 0, 1) := by decide +kernel
theorem dX10_init_63 : decode cX10_init 63 = .ok (.iconst 4, 1) := by decide +kernel
theorem dX10_init_64 : decode cX10_init 64 = .ok (.newarray .int, 2) := by decide +kernel
theorem dX10_init_66 : decode cX10_init 66 = .ok (.putfield 34, 3) := by decide +kernel
theorem dX10_init_69 : decode cX10_init 69 = .ok (.aload_n 0, 1) := by decide +kernel
theorem dX10_init_70 : decode cX10_init 70 = .ok (.bipush 9, 2) := by decide +kernel
theorem dX10_init_72 : decode cX10_init 72 = .ok (.newarray .int, 2) := by decide +kernel
theorem dX10_init_74 : decode cX10_init 74 = .ok (.putfield 37, 3) := by decide +kernel
theorem dX10_init_77 : decode cX10_init 77 = .ok (.aload_n 0, 1) := by decide +kernel
theorem dX10_init_78 : decode cX10_init 78 = .ok (.bipush 9, 2) := by decide +kernel
theorem dX10_init_80 : decode cX10_init 80 = .ok (.newarray .int, 2) := by decide +kernel
theorem dX10_init_82 : decode cX10_init 82 = .ok (.putfield 40, 3) := by decide +kernel
theorem dX10_init_85 : decode cX10_init 85 = .ok (.aload_n 0, 1) := by decide +kernel
theorem dX10_init_86 : decode cX10_init 86 = .ok (.bipush 9, 2) := by decide +kernel
theorem dX10_init_88 : decode cX10_init 88 = .ok (.newarray .int, 2) := by decide +kernel
theorem dX10_init_90 : decode cX10_init 90 = .ok (.putfield 43, 3) := by decide +kernel
theorem dX10_init_93 : decode cX10_init 93 = .ok (.aload_n 0, 1) := by decide +kernel
theorem dX10_init_94 : decode cX10_init 94 = .ok (.bipush 96, 2) := by decide +kernel
theorem dX10_init_96 : decode cX10_init 96 = .ok (.newarray .int, 2) := by decide +kernel
theorem dX10_init_98 : decode cX10_init 98 = .ok (.putfield 46, 3) := by decide +kernel
theorem dX10_init_101 : decode cX10_init 101 = .ok (.aload_n 0, 1) := by decide +kernel
theorem dX10_init_102 : decode cX10_init 102 = .ok (.bipush 96, 2) := by decide +kernel
theorem dX10_init_104 : decode cX10_init 104 = .ok (.newarray .int, 2) := by decide +kernel
theorem dX10_init_106 : decode cX10_init 106 = .ok (.putfield 49, 3) := by decide +kernel
theorem dX10_init_109 : decode cX10_init 109 = .ok (.aload_n 0, 1) := by decide +kernel
theorem dX10_init_110 : decode cX10_init 110 = .ok (.bipush 8, 2) := by decide +kernel
theorem dX10_init_112 : decode cX10_init 112 = .ok (.newarray .int, 2) := by decide +kernel
theorem dX10_init_114 : decode cX10_init 114 = .ok (.putfield 52, 3) := by decide +kernel
theorem dX10_init_117 : decode cX10_init 117 = .ok (.aload_n 0, 1) := by decide +kernel
theorem dX10_init_118 : decode cX10_init 118 = .ok (.bipush 8, 2) := by decide +kernel
theorem dX10_init_120 : decode cX10_init 120 = .ok (.newarray .int, 2) := by decide +kernel
theorem dX10_init_122 : decode cX10_init 122 = .ok (.putfield 55, 3) := by decide +kernel
theorem dX10_init_125 : decode cX10_init 125 = .ok (.aload_n 0, 1) := by decide +kernel
theorem dX10_init_126 : decode cX10_init 126 = .ok (.bipush 8, 2) := by decide +kernel
theorem dX10_init_128 : decode cX10_init 128 = .ok (.newarray .int, 2) := by decide +kernel
theorem dX10_init_130 : decode cX10_init 130 = .ok (.putfield 58, 3) := by decide +kernel
theorem dX10_init_133 : decode cX10_init 133 = .ok (.aload_n 0, 1) := by decide +kernel
theorem dX10_init_134 : decode cX10_init 134 = .ok (.bipush 8, 2) := by decide +kernel
theorem dX10_init_136 : decode cX10_init 136 = .ok (.newarray .int, 2) := by decide +kernel
theorem dX10_init_138 : decode cX10_init 138 = .ok (.putfield 61, 3) := by decide +kernel
theorem dX10_init_141 : decode cX10_init 141 = .ok (.aload_n 0, 1) := by decide +kernel
theorem dX10_init_142 : decode cX10_init 142 = .ok (.bipush 8, 2) := by decide +kernel
theorem dX10_init_144 : decode cX10_init 144 = .ok (.newarray .int, 2) := by decide +kernel
theorem dX10_init_146 : decode cX10_init 146 = .ok (.putfield 64, 3) := by decide +kernel
theorem dX10_init_149 : decode cX10_init 149 = .ok (.aload_n 0, 1) := by decide +kernel
theorem dX10_init_150 : decode cX10_init 150 = .ok (.bipush 8, 2) := by decide +kernel
theorem dX10_init_152 : decode cX10_init 152 = .ok (.newarray .int, 2) := by decide +kernel
theorem dX10_init_154 : decode cX10_init 154 = .ok (.putfield 67, 3) := by decide +kernel
theorem dX10_init_157 : decode cX10_init 157 = .ok (.aload_n 0, 1) := by decide +kernel
theorem dX10_init_158 : decode cX10_init 158 = .ok (.iconst 4, 1) := by decide +kernel
theorem dX10_init_159 : decode cX10_init 159 = .ok (.newarray .int, 2) := by decide +kernel
theorem dX10_init_161 : decode cX10_init 161 = .ok (.putfield 70, 3) := by decide +kernel
theorem dX10_init_164 : decode cX10_init 164 = .ok (.aload_n 0, 1) := by decide +kernel
theorem dX10_init_165 : decode cX10_init 165 = .ok (.iconst 4, 1) := by decide +kernel
theorem dX10_init_166 : decode cX10_init 166 = .ok (.newarray .int, 2) := by decide +kernel
theorem dX10_init_168 : decode cX10_init 168 = .ok (.putfield 73, 3) := by decide +kernel
theorem dX10_init_171 : decode cX10_init 171 = .ok (.aload_n 0, 1) := by decide +kernel
theorem dX10_init_172 : decode cX10_init 172 = .ok (.iconst 4, 1) := by decide +kernel
theorem dX10_init_173 : decode cX10_init 173 = .ok (.newarray .int, 2) := by decide +kernel
theorem dX10_init_175 : decode cX10_init 175 = .ok (.putfield 76, 3) := by decide +kernel
theorem dX10_init_178 : decode cX10_init 178 = .ok (.aload_n 0, 1) := by decide +kernel
theorem dX10_init_179 : decode cX10_init 179 = .ok (.sipush 240, 3) := by decide +kernel
theorem dX10_init_182 : decode cX10_init 182 = .ok (.newarray .int, 2) := by decide +kernel
theorem dX10_init_184 : decode cX10_init 184 = .ok (.putfield 79, 3) := by decide +kernel
theorem dX10_init_187 : decode cX10_init 187 = .ok (.aload_n 0, 1) := by decide +kernel
theorem dX10_init_188 : decode cX10_init 188 = .ok (.bipush 60, 2) := by decide +kernel
theorem dX10_init_190 : decode cX10_init 190 = .ok (.newarray .int, 2) := by decide +kernel
theorem dX10_init_192 : decode cX10_init 192 = .ok (.putfield 82, 3) := by decide +kernel
theorem dX10_init_195 : decode cX10_init 195 = .ok (.iconst 0, 1) := by decide +kernel
theorem dX10_init_196 : decode cX10_init 196 = .ok (.istore_n 1, 1) := by decide +kernel
theorem dX10_init_197 : decode cX10_init 197 = .ok (.iload_n 1, 1) := by decide +kernel
theorem dX10_init_198 : decode cX10_init 198 = .ok (.iconst 4, 1) := by decide +kernel
theorem dX10_init_199 : decode cX10_init 199 = .ok (.if_icmp .ge 16, 3) := by decide +kernel
theorem dX10_init_202 : decode cX10_init 202 = .ok (.aload_n 0, 1) := by decide +kernel
theorem dX10_init_203 : decode cX10_init 203 = .ok (.getfield 73, 3) := by decide +kernel
theorem dX10_init_206 : decode cX10_init 206 = .ok (.iload_n 1, 1) := by decide +kernel
theorem dX10_init_207 : decode cX10_init 207 = .ok (.iconst (-1), 1) := by decide +kernel
theorem dX10_init_208 : decode cX10_init 208 = .ok (.iastore, 1) := by decide +kernel
theorem dX10_init_209 : decode cX10_init 209 = .ok (.iinc 1 1, 3) := by decide +kernel
theorem dX10_init_212 : decode cX10_init 212 = .ok (.goto (-15), 3) := by decide +kernel
theorem dX10_init_215 : decode cX10_init 215 = .ok (.aload_n 0, 1) := by decide +kernel
theorem dX10_init_216 : decode cX10_init 216 = .ok (.bipush (-9), 2) := by decide +kernel
theorem dX10_init_218 : decode cX10_init 218 = .ok (.putfield 85, 3) := by decide +kernel
theorem dX10_init_221 : decode cX10_init 221 = .ok (.return_, 1) := by decide +kernel
theorem dX10_in_0 : decode cX10_in 0 = .ok (.lload_n 0, 1) := by decide +kernel
theorem dX10_in_1 : decode cX10_in 1 = .ok (.lload_n 2, 1) := by decide +kernel
theorem dX10_in_2 : decode cX10_in 2 = .ok (.lcmp, 1) := by decide +kernel
theorem dX10_in_3 : decode cX10_in 3 = .ok (.ifCond .lt 14, 3) := by decide +kernel
theorem dX10_in_6 : decode cX10_in 6 = .ok (.lload_n 0, 1) := by decide +kernel
theorem dX10_in_7 : decode cX10_in 7 = .ok (.lload 4, 2) := by decide +kernel
theorem dX10_in_9 : decode cX10_in 9 = .ok (.lcmp, 1) := by decide +kernel
theorem dX10_in_10 : decode cX10_in 10 = .ok (.ifCond .gt 7, 3) := by decide +kernel
theorem dX10_in_13 : decode cX10_in 13 = .ok (.iconst 1, 1) := by decide +kernel
theorem dX10_in_14 : decode cX10_in 14 = .ok (.goto 4, 3) := by decide +kernel
theorem dX10_in_17 : decode cX10_in 17 = .ok (.iconst 0, 1) := by decide +kernel
theorem dX10_in_18 : decode cX10_in 18 = .ok (.ireturn, 1) := by decide +kernel
theorem dX10_lost_0 : decode cX10_lost 0 = .ok (.ldc2_w 89, 3) := by decide +kernel
theorem dX10_lost_3 : decode cX10_lost 3 = .ok (.lreturn, 1) := by decide +kernel
theorem dX10_told_0 : decode cX10_told 0 = .ok (.lload_n 0, 1) := by decide +kernel
theorem dX10_told_1 : decode cX10_told 1 = .ok (.lstore 5, 2) := by decide +kernel
theorem dX10_told_3 : decode cX10_told 3 = .ok (.lload_n 2, 1) := by decide +kernel
theorem dX10_told_4 : decode cX10_told 4 = .ok (.lstore 7, 2) := by decide +kernel
theorem dX10_told_6 : decode cX10_told 6 = .ok (.lload 7, 2) := by decide +kernel
theorem dX10_told_8 : decode cX10_told 8 = .ok (.lconst 0, 1) := by decide +kernel
theorem dX10_told_9 : decode cX10_told 9 = .ok (.lcmp, 1) := by decide +kernel
theorem dX10_told_10 : decode cX10_told 10 = .ok (.ifCond .eq 21, 3) := by decide +kernel
theorem dX10_told_13 : decode cX10_told 13 = .ok (.lload 5, 2) := by decide +kernel
theorem dX10_told_15 : decode cX10_told 15 = .ok (.lload 7, 2) := by decide +kernel
theorem dX10_told_17 : decode cX10_told 17 = .ok (.lrem, 1) := by decide +kernel
theorem dX10_told_18 : decode cX10_told 18 = .ok (.lstore 9, 2) := by decide +kernel
theorem dX10_told_20 : decode cX10_told 20 = .ok (.lload 7, 2) := by decide +kernel
theorem dX10_told_22 : decode cX10_told 22 = .ok (.lstore 5, 2) := by decide +kernel
theorem dX10_told_24 : decode cX10_told 24 = .ok (.lload 9, 2) := by decide +kernel
theorem dX10_told_26 : decode cX10_told 26 = .ok (.lstore 7, 2) := by decide +kernel
theorem dX10_told_28 : decode cX10_told 28 = .ok (.goto (-22), 3) := by decide +kernel
theorem dX10_told_31 : decode cX10_told 31 = .ok (.iload 4, 2) := by decide +kernel
theorem dX10_told_33 : decode cX10_told 33 = .ok (.ifCond .ne 7, 3) := by decide +kernel
theorem dX10_told_36 : decode cX10_told 36 = .ok (.lload_n 0, 1) := by decide +kernel
theorem dX10_told_37 : decode cX10_told 37 = .ok (.goto 4, 3) := by decide +kernel
theorem dX10_told_40 : decode cX10_told 40 = .ok (.lload_n 2, 1) := by decide +kernel
theorem dX10_told_41 : decode cX10_told 41 = .ok (.lload 5, 2) := by decide +kernel
theorem dX10_told_43 : decode cX10_told 43 = .ok (.ldiv, 1) := by decide +kernel
theorem dX10_told_44 : decode cX10_told 44 = .ok (.lreturn, 1) := by decide +kernel
theorem dX10_refused_0 : decode cX10_refused 0 = .ok (.aload_n 0, 1) := by decide +kernel
theorem dX10_refused_1 : decode cX10_refused 1 = .ok (.iconst 0, 1) := by decide +kernel
theorem dX10_refused_2 : decode cX10_refused 2 = .ok (.putfield 91, 3) := by decide +kernel
theorem dX10_refused_5 : decode cX10_refused 5 = .ok (.iload_n 1, 1) := by decide +kernel
theorem dX10_refused_6 : decode cX10_refused 6 = .ok (.ireturn, 1) := by decide +kernel
theorem dX10_failed_0 : decode cX10_failed 0 = .ok (.aload_n 0, 1) := by decide +kernel
theorem dX10_failed_1 : decode cX10_failed 1 = .ok (.iload_n 1, 1) := by decide +kernel
theorem dX10_failed_2 : decode cX10_failed 2 = .ok (.putfield 91, 3) := by decide +kernel
theorem dX10_failed_5 : decode cX10_failed 5 = .ok (.bipush (-10), 2) := by decide +kernel
theorem dX10_failed_7 : decode cX10_failed 7 = .ok (.iload_n 1, 1) := by decide +kernel
theorem dX10_failed_8 : decode cX10_failed 8 = .ok (.isub, 1) := by decide +kernel
theorem dX10_failed_9 : decode cX10_failed 9 = .ok (.ireturn, 1) := by decide +kernel
set_option maxRecDepth 20000 in
theorem ggX10_failedLong_X10_lost : GoodIn wsX10_failedLong wsX10_lost := goodIn_r _ [5, 6] rfl (by decide +kernel)
set_option maxRecDepth 20000 in
theorem gX10_failedLong_X10_lost : GoodIn wsX10_failedLong (va_wsS RX10 94 yX10_lost wsX10_lost) := goodIn_app (goodIn_of _ (by decide +kernel)) ggX10_failedLong_X10_lost
theorem dX10_failedLong_0 : decode cX10_failedLong 0 = .ok (.aload_n 0, 1) := by decide +kernel
theorem dX10_failedLong_1 : decode cX10_failedLong 1 = .ok (.iload_n 1, 1) := by decide +kernel
theorem dX10_failedLong_2 : decode cX10_failedLong 2 = .ok (.putfield 91, 3) := by decide +kernel
theorem dX10_failedLong_5 : decode cX10_failedLong 5 = .ok (.invokestatic 94, 3) := by decide +kernel
theorem dX10_failedLong_8 : decode cX10_failedLong 8 = .ok (.lreturn, 1) := by decide +kernel
set_option maxRecDepth 20000 in
theorem ggX10_noSpot_X10_in : GoodIn wsX10_noSpot wsX10_in := goodIn_r _ [5] rfl (by decide +kernel)
set_option maxRecDepth 20000 in
theorem gX10_noSpot_X10_in : GoodIn wsX10_noSpot (va_wsS RX10 101 yX10_in wsX10_in) := goodIn_app (goodIn_of _ (by decide +kernel)) ggX10_noSpot_X10_in
theorem dX10_noSpot_0 : decode cX10_noSpot 0 = .ok (.iload_n 1, 1) := by decide +kernel
theorem dX10_noSpot_1 : decode cX10_noSpot 1 = .ok (.i2l, 1) := by decide +kernel
theorem dX10_noSpot_2 : decode cX10_noSpot 2 = .ok (.lconst 0, 1) := by decide +kernel
theorem dX10_noSpot_3 : decode cX10_noSpot 3 = .ok (.aload_n 0, 1) := by decide +kernel
theorem dX10_noSpot_4 : decode cX10_noSpot 4 = .ok (.getfield 98, 3) := by decide +kernel
theorem dX10_noSpot_7 : decode cX10_noSpot 7 = .ok (.i2l, 1) := by decide +kernel
theorem dX10_noSpot_8 : decode cX10_noSpot 8 = .ok (.lconst 1, 1) := by decide +kernel
theorem dX10_noSpot_9 : decode cX10_noSpot 9 = .ok (.lsub, 1) := by decide +kernel
theorem dX10_noSpot_10 : decode cX10_noSpot 10 = .ok (.invokestatic 101, 3) := by decide +kernel
theorem dX10_noSpot_13 : decode cX10_noSpot 13 = .ok (.ifCond .ne 7, 3) := by decide +kernel
theorem dX10_noSpot_16 : decode cX10_noSpot 16 = .ok (.iconst 1, 1) := by decide +kernel
theorem dX10_noSpot_17 : decode cX10_noSpot 17 = .ok (.goto 4, 3) := by decide +kernel
theorem dX10_noSpot_20 : decode cX10_noSpot 20 = .ok (.iconst 0, 1) := by decide +kernel
theorem dX10_noSpot_21 : decode cX10_noSpot 21 = .ok (.ireturn, 1) := by decide +kernel
set_option maxRecDepth 20000 in
theorem ggX10_noLamp_X10_in : GoodIn wsX10_noLamp wsX10_in := goodIn_r _ [5] rfl (by decide +kernel)
set_option maxRecDepth 20000 in
theorem gX10_noLamp_X10_in : GoodIn wsX10_noLamp (va_wsS RX10 101 yX10_in wsX10_in) := goodIn_app (goodIn_of _ (by decide +kernel)) ggX10_noLamp_X10_in
theorem dX10_noLamp_0 : decode cX10_noLamp 0 = .ok (.iload_n 1, 1) := by decide +kernel
theorem dX10_noLamp_1 : decode cX10_noLamp 1 = .ok (.i2l, 1) := by decide +kernel
theorem dX10_noLamp_2 : decode cX10_noLamp 2 = .ok (.lconst 0, 1) := by decide +kernel
theorem dX10_noLamp_3 : decode cX10_noLamp 3 = .ok (.aload_n 0, 1) := by decide +kernel
theorem dX10_noLamp_4 : decode cX10_noLamp 4 = .ok (.getfield 105, 3) := by decide +kernel
theorem dX10_noLamp_7 : decode cX10_noLamp 7 = .ok (.i2l, 1) := by decide +kernel
theorem dX10_noLamp_8 : decode cX10_noLamp 8 = .ok (.lconst 1, 1) := by decide +kernel
theorem dX10_noLamp_9 : decode cX10_noLamp 9 = .ok (.lsub, 1) := by decide +kernel
theorem dX10_noLamp_10 : decode cX10_noLamp 10 = .ok (.invokestatic 101, 3) := by decide +kernel
theorem dX10_noLamp_13 : decode cX10_noLamp 13 = .ok (.ifCond .ne 7, 3) := by decide +kernel
theorem dX10_noLamp_16 : decode cX10_noLamp 16 = .ok (.iconst 1, 1) := by decide +kernel
theorem dX10_noLamp_17 : decode cX10_noLamp 17 = .ok (.goto 4, 3) := by decide +kernel
theorem dX10_noLamp_20 : decode cX10_noLamp 20 = .ok (.iconst 0, 1) := by decide +kernel
theorem dX10_noLamp_21 : decode cX10_noLamp 21 = .ok (.ireturn, 1) := by decide +kernel
set_option maxRecDepth 20000 in
theorem ggX10_isWatch_X10_in : GoodIn wsX10_isWatch wsX10_in := goodIn_r _ [5] rfl (by decide +kernel)
set_option maxRecDepth 20000 in
theorem gX10_isWatch_X10_in : GoodIn wsX10_isWatch (va_wsS RX10 101 yX10_in wsX10_in) := goodIn_app (goodIn_of _ (by decide +kernel)) ggX10_isWatch_X10_in
theorem dX10_isWatch_0 : decode cX10_isWatch 0 = .ok (.iload_n 0, 1) := by decide +kernel
theorem dX10_isWatch_1 : decode cX10_isWatch 1 = .ok (.i2l, 1) := by decide +kernel
theorem dX10_isWatch_2 : decode cX10_isWatch 2 = .ok (.lconst 0, 1) := by decide +kernel
theorem dX10_isWatch_3 : decode cX10_isWatch 3 = .ok (.ldc2_w 108, 3) := by decide +kernel
theorem dX10_isWatch_6 : decode cX10_isWatch 6 = .ok (.invokestatic 101, 3) := by decide +kernel
theorem dX10_isWatch_9 : decode cX10_isWatch 9 = .ok (.ireturn, 1) := by decide +kernel
theorem dX10_codeAt_0 : decode cX10_codeAt 0 = .ok (.aload_n 0, 1) := by decide +kernel
theorem dX10_codeAt_1 : decode cX10_codeAt 1 = .ok (.getfield 110, 3) := by decide +kernel
theorem dX10_codeAt_4 : decode cX10_codeAt 4 = .ok (.iload_n 2, 1) := by decide +kernel
theorem dX10_codeAt_5 : decode cX10_codeAt 5 = .ok (.if_icmp .ge 17, 3) := by decide +kernel
theorem dX10_codeAt_8 : decode cX10_codeAt 8 = .ok (.aload_n 0, 1) := by decide +kernel
theorem dX10_codeAt_9 : decode cX10_codeAt 9 = .ok (.getfield 79, 3) := by decide +kernel
theorem dX10_codeAt_12 : decode cX10_codeAt 12 = .ok (.iload_n 1, 1) := by decide +kernel
theorem dX10_codeAt_13 : decode cX10_codeAt 13 = .ok (.aload_n 0, 1) := by decide +kernel
theorem dX10_codeAt_14 : decode cX10_codeAt 14 = .ok (.getfield 110, 3) := by decide +kernel
theorem dX10_codeAt_17 : decode cX10_codeAt 17 = .ok (.iadd, 1) := by decide +kernel
theorem dX10_codeAt_18 : decode cX10_codeAt 18 = .ok (.iaload, 1) := by decide +kernel
theorem dX10_codeAt_19 : decode cX10_codeAt 19 = .ok (.goto 5, 3) := by decide +kernel
theorem dX10_codeAt_22 : decode cX10_codeAt 22 = .ok (.bipush (-9), 2) := by decide +kernel
theorem dX10_codeAt_24 : decode cX10_codeAt 24 = .ok (.ireturn, 1) := by decide +kernel
set_option maxRecDepth 20000 in
theorem ggX10_figure_X10_codeAt : GoodIn wsX10_figure wsX10_codeAt := goodIn_r _ [6, 1, 7, 11, 12, 13, 14, 15, 16, 17, 18, 19, 20, 21, 22, 23, 24, 25, 26, 27, 28, 29, 30, 31, 32, 33, 34, 35, 36, 37, 38, 39, 40, 41, 42, 43, 44, 45, 46] rfl (by decide +kernel)
set_option maxRecDepth 20000 in
theorem gX10_figure_X10_codeAt : GoodIn wsX10_figure (wsV RX10 113 RX10 yX10_codeAt wsX10_codeAt) := goodIn_app (goodIn_of _ (by decide +kernel)) ggX10_figure_X10_codeAt
set_option maxRecDepth 20000 in
theorem ggX10_figure_X10_in : GoodIn wsX10_figure wsX10_in := goodIn_r _ [10] rfl (by decide +kernel)
set_option maxRecDepth 20000 in
theorem gX10_figure_X10_in : GoodIn wsX10_figure (va_wsS RX10 101 yX10_in wsX10_in) := goodIn_app (goodIn_of _ (by decide +kernel)) ggX10_figure_X10_in
theorem dX10_figure_0 : decode cX10_figure 0 = .ok (.aload_n 0, 1) := by decide +kernel
theorem dX10_figure_1 : decode cX10_figure 1 = .ok (.iload_n 1, 1) := by decide +kernel
theorem dX10_figure_2 : decode cX10_figure 2 = .ok (.iload_n 2, 1) := by decide +kernel
theorem dX10_figure_3 : decode cX10_figure 3 = .ok (.invokevirtual 113, 3) := by decide +kernel
theorem dX10_figure_6 : decode cX10_figure 6 = .ok (.bipush 48, 2) := by decide +kernel
theorem dX10_figure_8 : decode cX10_figure 8 = .ok (.isub, 1) := by decide +kernel
theorem dX10_figure_9 : decode cX10_figure 9 = .ok (.istore 4, 2) := by decide +kernel
theorem dX10_figure_11 : decode cX10_figure 11 = .ok (.iload 4, 2) := by decide +kernel
theorem dX10_figure_13 : decode cX10_figure 13 = .ok (.i2l, 1) := by decide +kernel
theorem dX10_figure_14 : decode cX10_figure 14 = .ok (.lconst 0, 1) := by decide +kernel
theorem dX10_figure_15 : decode cX10_figure 15 = .ok (.iload_n 3, 1) := by decide +kernel
theorem dX10_figure_16 : decode cX10_figure 16 = .ok (.i2l, 1) := by decide +kernel
theorem dX10_figure_17 : decode cX10_figure 17 = .ok (.invokestatic 101, 3) := by decide +kernel
theorem dX10_figure_20 : decode cX10_figure 20 = .ok (.istore 5, 2) := by decide +kernel
theorem dX10_figure_22 : decode cX10_figure 22 = .ok (.aload_n 0, 1) := by decide +kernel
theorem dX10_figure_23 : decode cX10_figure 23 = .ok (.dup, 1) := by decide +kernel
theorem dX10_figure_24 : decode cX10_figure 24 = .ok (.getfield 110, 3) := by decide +kernel
theorem dX10_figure_27 : decode cX10_figure 27 = .ok (.iload 5, 2) := by decide +kernel
theorem dX10_figure_29 : decode cX10_figure 29 = .ok (.ifCond .eq 7, 3) := by decide +kernel
theorem dX10_figure_32 : decode cX10_figure 32 = .ok (.iconst 1, 1) := by decide +kernel
theorem dX10_figure_33 : decode cX10_figure 33 = .ok (.goto 4, 3) := by decide +kernel
theorem dX10_figure_36 : decode cX10_figure 36 = .ok (.iconst 0, 1) := by decide +kernel
theorem dX10_figure_37 : decode cX10_figure 37 = .ok (.iadd, 1) := by decide +kernel
theorem dX10_figure_38 : decode cX10_figure 38 = .ok (.putfield 110, 3) := by decide +kernel
theorem dX10_figure_41 : decode cX10_figure 41 = .ok (.iload 5, 2) := by decide +kernel
theorem dX10_figure_43 : decode cX10_figure 43 = .ok (.ifCond .eq 8, 3) := by decide +kernel
theorem dX10_figure_46 : decode cX10_figure 46 = .ok (.iload 4, 2) := by decide +kernel
theorem dX10_figure_48 : decode cX10_figure 48 = .ok (.goto 5, 3) := by decide +kernel
theorem dX10_figure_51 : decode cX10_figure 51 = .ok (.bipush (-9), 2) := by decide +kernel
theorem dX10_figure_53 : decode cX10_figure 53 = .ok (.ireturn, 1) := by decide +kernel
set_option maxRecDepth 20000 in
theorem ggX10_readsSpot_X10_codeAt : GoodIn wsX10_readsSpot wsX10_codeAt := goodIn_r _ [8, 2, 9, 17, 18, 19, 20, 21, 22, 23, 24, 25, 26, 27, 28, 29, 30, 31, 32, 33, 34, 35, 36, 37, 38, 39, 40, 41, 42, 43, 44, 45, 46, 47, 48, 49, 50, 51, 52] rfl (by decide +kernel)
set_option maxRecDepth 20000 in
theorem gX10_readsSpot_X10_codeAt : GoodIn wsX10_readsSpot (wsV RX10 113 RX10 yX10_codeAt wsX10_codeAt) := goodIn_app (goodIn_of _ (by decide +kernel)) ggX10_readsSpot_X10_codeAt
set_option maxRecDepth 20000 in
theorem ggX10_readsSpot_X10_figure : GoodIn wsX10_readsSpot wsX10_figure := goodIn_r _ [13, 2, 4, 5, 6, 7, 8, 9, 14, 15, 16, 17, 18, 19, 20, 21, 22, 23, 24, 25, 26, 27, 28, 29, 30, 31, 32, 33, 34, 35, 36, 37, 38, 39, 40, 41, 42, 43, 44, 45, 46, 47, 48, 49, 50, 51, 52] rfl (by decide +kernel)
set_option maxRecDepth 20000 in
theorem gX10_readsSpot_X10_figure : GoodIn wsX10_readsSpot (wsV RX10 120 RX10 yX10_figure wsX10_figure) := goodIn_app (goodIn_of _ (by decide +kernel)) ggX10_readsSpot_X10_figure
theorem dX10_readsSpot_0 : decode cX10_readsSpot 0 = .ok (.aload_n 0, 1) := by decide +kernel
theorem dX10_readsSpot_1 : decode cX10_readsSpot 1 = .ok (.getfield 117, 3) := by decide +kernel
theorem dX10_readsSpot_4 : decode cX10_readsSpot 4 = .ok (.iconst 4, 1) := by decide +kernel
theorem dX10_readsSpot_5 : decode cX10_readsSpot 5 = .ok (.if_icmp .eq 14, 3) := by decide +kernel
theorem dX10_readsSpot_8 : decode cX10_readsSpot 8 = .ok (.aload_n 0, 1) := by decide +kernel
theorem dX10_readsSpot_9 : decode cX10_readsSpot 9 = .ok (.iload_n 1, 1) := by decide +kernel
theorem dX10_readsSpot_10 : decode cX10_readsSpot 10 = .ok (.iload_n 2, 1) := by decide +kernel
theorem dX10_readsSpot_11 : decode cX10_readsSpot 11 = .ok (.invokevirtual 113, 3) := by decide +kernel
theorem dX10_readsSpot_14 : decode cX10_readsSpot 14 = .ok (.bipush 59, 2) := by decide +kernel
theorem dX10_readsSpot_16 : decode cX10_readsSpot 16 = .ok (.if_icmp .eq 5, 3) := by decide +kernel
theorem dX10_readsSpot_19 : decode cX10_readsSpot 19 = .ok (.iconst 0, 1) := by decide +kernel
theorem dX10_readsSpot_20 : decode cX10_readsSpot 20 = .ok (.ireturn, 1) := by decide +kernel
theorem dX10_readsSpot_21 : decode cX10_readsSpot 21 = .ok (.aload_n 0, 1) := by decide +kernel
theorem dX10_readsSpot_22 : decode cX10_readsSpot 22 = .ok (.dup, 1) := by decide +kernel
theorem dX10_readsSpot_23 : decode cX10_readsSpot 23 = .ok (.getfield 110, 3) := by decide +kernel
theorem dX10_readsSpot_26 : decode cX10_readsSpot 26 = .ok (.iconst 1, 1) := by decide +kernel
theorem dX10_readsSpot_27 : decode cX10_readsSpot 27 = .ok (.iadd, 1) := by decide +kernel
theorem dX10_readsSpot_28 : decode cX10_readsSpot 28 = .ok (.putfield 110, 3) := by decide +kernel
theorem dX10_readsSpot_31 : decode cX10_readsSpot 31 = .ok (.aload_n 0, 1) := by decide +kernel
theorem dX10_readsSpot_32 : decode cX10_readsSpot 32 = .ok (.iload_n 1, 1) := by decide +kernel
theorem dX10_readsSpot_33 : decode cX10_readsSpot 33 = .ok (.iload_n 2, 1) := by decide +kernel
theorem dX10_readsSpot_34 : decode cX10_readsSpot 34 = .ok (.bipush 9, 2) := by decide +kernel
theorem dX10_readsSpot_36 : decode cX10_readsSpot 36 = .ok (.invokevirtual 120, 3) := by decide +kernel
theorem dX10_readsSpot_39 : decode cX10_readsSpot 39 = .ok (.istore_n 3, 1) := by decide +kernel
theorem dX10_readsSpot_40 : decode cX10_readsSpot 40 = .ok (.iload_n 3, 1) := by decide +kernel
theorem dX10_readsSpot_41 : decode cX10_readsSpot 41 = .ok (.ifCond .ge 5, 3) := by decide +kernel
theorem dX10_readsSpot_44 : decode cX10_readsSpot 44 = .ok (.iconst 0, 1) := by decide +kernel
theorem dX10_readsSpot_45 : decode cX10_readsSpot 45 = .ok (.ireturn, 1) := by decide +kernel
theorem dX10_readsSpot_46 : decode cX10_readsSpot 46 = .ok (.aload_n 0, 1) := by decide +kernel
theorem dX10_readsSpot_47 : decode cX10_readsSpot 47 = .ok (.getfield 28, 3) := by decide +kernel
theorem dX10_readsSpot_50 : decode cX10_readsSpot 50 = .ok (.aload_n 0, 1) := by decide +kernel
theorem dX10_readsSpot_51 : decode cX10_readsSpot 51 = .ok (.getfield 117, 3) := by decide +kernel
theorem dX10_readsSpot_54 : decode cX10_readsSpot 54 = .ok (.iload_n 3, 1) := by decide +kernel
theorem dX10_readsSpot_55 : decode cX10_readsSpot 55 = .ok (.iastore, 1) := by decide +kernel
theorem dX10_readsSpot_56 : decode cX10_readsSpot 56 = .ok (.aload_n 0, 1) := by decide +kernel
theorem dX10_readsSpot_57 : decode cX10_readsSpot 57 = .ok (.dup, 1) := by decide +kernel
theorem dX10_readsSpot_58 : decode cX10_readsSpot 58 = .ok (.getfield 117, 3) := by decide +kernel
theorem dX10_readsSpot_61 : decode cX10_readsSpot 61 = .ok (.iconst 1, 1) := by decide +kernel
theorem dX10_readsSpot_62 : decode cX10_readsSpot 62 = .ok (.iadd, 1) := by decide +kernel
theorem dX10_readsSpot_63 : decode cX10_readsSpot 63 = .ok (.putfield 117, 3) := by decide +kernel
theorem dX10_readsSpot_66 : decode cX10_readsSpot 66 = .ok (.iconst 1, 1) := by decide +kernel
theorem dX10_readsSpot_67 : decode cX10_readsSpot 67 = .ok (.ireturn, 1) := by decide +kernel
set_option maxRecDepth 20000 in
theorem ggX10_readsLamp_X10_codeAt : GoodIn wsX10_readsLamp wsX10_codeAt := goodIn_r _ [10, 2, 11, 19, 20, 21, 22, 23, 24, 25, 26, 27, 28, 29, 30, 31, 32, 33, 34, 35, 36, 37, 38, 39, 40, 41, 42, 43, 44, 45, 46, 47, 48, 49, 50, 51, 52, 53, 54] rfl (by decide +kernel)
set_option maxRecDepth 20000 in
theorem gX10_readsLamp_X10_codeAt : GoodIn wsX10_readsLamp (wsV RX10 113 RX10 yX10_codeAt wsX10_codeAt) := goodIn_app (goodIn_of _ (by decide +kernel)) ggX10_readsLamp_X10_codeAt
set_option maxRecDepth 20000 in
theorem ggX10_readsLamp_X10_figure : GoodIn wsX10_readsLamp wsX10_figure := goodIn_r _ [15, 2, 6, 7, 8, 9, 10, 11, 16, 17, 18, 19, 20, 21, 22, 23, 24, 25, 26, 27, 28, 29, 30, 31, 32, 33, 34, 35, 36, 37, 38, 39, 40, 41, 42, 43, 44, 45, 46, 47, 48, 49, 50, 51, 52, 53, 54] rfl (by decide +kernel)
set_option maxRecDepth 20000 in
theorem gX10_readsLamp_X10_figure : GoodIn wsX10_readsLamp (wsV RX10 120 RX10 yX10_figure wsX10_figure) := goodIn_app (goodIn_of _ (by decide +kernel)) ggX10_readsLamp_X10_figure
theorem dX10_readsLamp_0 : decode cX10_readsLamp 0 = .ok (.aload_n 0, 1) := by decide +kernel
theorem dX10_readsLamp_1 : decode cX10_readsLamp 1 = .ok (.getfield 124, 3) := by decide +kernel
theorem dX10_readsLamp_4 : decode cX10_readsLamp 4 = .ok (.iconst 4, 1) := by decide +kernel
theorem dX10_readsLamp_5 : decode cX10_readsLamp 5 = .ok (.if_icmp .eq 14, 3) := by decide +kernel
theorem dX10_readsLamp_8 : decode cX10_readsLamp 8 = .ok (.aload_n 0, 1) := by decide +kernel
theorem dX10_readsLamp_9 : decode cX10_readsLamp 9 = .ok (.iload_n 1, 1) := by decide +kernel
theorem dX10_readsLamp_10 : decode cX10_readsLamp 10 = .ok (.iload_n 2, 1) := by decide +kernel
theorem dX10_readsLamp_11 : decode cX10_readsLamp 11 = .ok (.invokevirtual 113, 3) := by decide +kernel
theorem dX10_readsLamp_14 : decode cX10_readsLamp 14 = .ok (.bipush 44, 2) := by decide +kernel
theorem dX10_readsLamp_16 : decode cX10_readsLamp 16 = .ok (.if_icmp .eq 5, 3) := by decide +kernel
theorem dX10_readsLamp_19 : decode cX10_readsLamp 19 = .ok (.iconst 0, 1) := by decide +kernel
theorem dX10_readsLamp_20 : decode cX10_readsLamp 20 = .ok (.ireturn, 1) := by decide +kernel
theorem dX10_readsLamp_21 : decode cX10_readsLamp 21 = .ok (.aload_n 0, 1) := by decide +kernel
theorem dX10_readsLamp_22 : decode cX10_readsLamp 22 = .ok (.dup, 1) := by decide +kernel
theorem dX10_readsLamp_23 : decode cX10_readsLamp 23 = .ok (.getfield 110, 3) := by decide +kernel
theorem dX10_readsLamp_26 : decode cX10_readsLamp 26 = .ok (.iconst 1, 1) := by decide +kernel
theorem dX10_readsLamp_27 : decode cX10_readsLamp 27 = .ok (.iadd, 1) := by decide +kernel
theorem dX10_readsLamp_28 : decode cX10_readsLamp 28 = .ok (.putfield 110, 3) := by decide +kernel
theorem dX10_readsLamp_31 : decode cX10_readsLamp 31 = .ok (.aload_n 0, 1) := by decide +kernel
theorem dX10_readsLamp_32 : decode cX10_readsLamp 32 = .ok (.iload_n 1, 1) := by decide +kernel
theorem dX10_readsLamp_33 : decode cX10_readsLamp 33 = .ok (.iload_n 2, 1) := by decide +kernel
theorem dX10_readsLamp_34 : decode cX10_readsLamp 34 = .ok (.invokevirtual 113, 3) := by decide +kernel
theorem dX10_readsLamp_37 : decode cX10_readsLamp 37 = .ok (.istore_n 3, 1) := by decide +kernel
theorem dX10_readsLamp_38 : decode cX10_readsLamp 38 = .ok (.iload_n 3, 1) := by decide +kernel
theorem dX10_readsLamp_39 : decode cX10_readsLamp 39 = .ok (.bipush 108, 2) := by decide +kernel
theorem dX10_readsLamp_41 : decode cX10_readsLamp 41 = .ok (.if_icmp .eq 17, 3) := by decide +kernel
theorem dX10_readsLamp_44 : decode cX10_readsLamp 44 = .ok (.iload_n 3, 1) := by decide +kernel
theorem dX10_readsLamp_45 : decode cX10_readsLamp 45 = .ok (.bipush 109, 2) := by decide +kernel
theorem dX10_readsLamp_47 : decode cX10_readsLamp 47 = .ok (.if_icmp .eq 11, 3) := by decide +kernel
theorem dX10_readsLamp_50 : decode cX10_readsLamp 50 = .ok (.iload_n 3, 1) := by decide +kernel
theorem dX10_readsLamp_51 : decode cX10_readsLamp 51 = .ok (.bipush 102, 2) := by decide +kernel
theorem dX10_readsLamp_53 : decode cX10_readsLamp 53 = .ok (.if_icmp .eq 5, 3) := by decide +kernel
theorem dX10_readsLamp_56 : decode cX10_readsLamp 56 = .ok (.iconst 0, 1) := by decide +kernel
theorem dX10_readsLamp_57 : decode cX10_readsLamp 57 = .ok (.ireturn, 1) := by decide +kernel
theorem dX10_readsLamp_58 : decode cX10_readsLamp 58 = .ok (.aload_n 0, 1) := by decide +kernel
theorem dX10_readsLamp_59 : decode cX10_readsLamp 59 = .ok (.dup, 1) := by decide +kernel
theorem dX10_readsLamp_60 : decode cX10_readsLamp 60 = .ok (.getfield 110, 3) := by decide +kernel
theorem dX10_readsLamp_63 : decode cX10_readsLamp 63 = .ok (.iconst 1, 1) := by decide +kernel
theorem dX10_readsLamp_64 : decode cX10_readsLamp 64 = .ok (.iadd, 1) := by decide +kernel
theorem dX10_readsLamp_65 : decode cX10_readsLamp 65 = .ok (.putfield 110, 3) := by decide +kernel
theorem dX10_readsLamp_68 : decode cX10_readsLamp 68 = .ok (.aload_n 0, 1) := by decide +kernel
theorem dX10_readsLamp_69 : decode cX10_readsLamp 69 = .ok (.iload_n 1, 1) := by decide +kernel
theorem dX10_readsLamp_70 : decode cX10_readsLamp 70 = .ok (.iload_n 2, 1) := by decide +kernel
theorem dX10_readsLamp_71 : decode cX10_readsLamp 71 = .ok (.aload_n 0, 1) := by decide +kernel
theorem dX10_readsLamp_72 : decode cX10_readsLamp 72 = .ok (.getfield 117, 3) := by decide +kernel
theorem dX10_readsLamp_75 : decode cX10_readsLamp 75 = .ok (.iconst 1, 1) := by decide +kernel
theorem dX10_readsLamp_76 : decode cX10_readsLamp 76 = .ok (.isub, 1) := by decide +kernel
theorem dX10_readsLamp_77 : decode cX10_readsLamp 77 = .ok (.invokevirtual 120, 3) := by decide +kernel
theorem dX10_readsLamp_80 : decode cX10_readsLamp 80 = .ok (.istore 4, 2) := by decide +kernel
theorem dX10_readsLamp_82 : decode cX10_readsLamp 82 = .ok (.iload 4, 2) := by decide +kernel
theorem dX10_readsLamp_84 : decode cX10_readsLamp 84 = .ok (.ifCond .ge 5, 3) := by decide +kernel
theorem dX10_readsLamp_87 : decode cX10_readsLamp 87 = .ok (.iconst 0, 1) := by decide +kernel
theorem dX10_readsLamp_88 : decode cX10_readsLamp 88 = .ok (.ireturn, 1) := by decide +kernel
theorem dX10_readsLamp_89 : decode cX10_readsLamp 89 = .ok (.aload_n 0, 1) := by decide +kernel
theorem dX10_readsLamp_90 : decode cX10_readsLamp 90 = .ok (.getfield 31, 3) := by decide +kernel
theorem dX10_readsLamp_93 : decode cX10_readsLamp 93 = .ok (.aload_n 0, 1) := by decide +kernel
theorem dX10_readsLamp_94 : decode cX10_readsLamp 94 = .ok (.getfield 124, 3) := by decide +kernel
theorem dX10_readsLamp_97 : decode cX10_readsLamp 97 = .ok (.iload_n 3, 1) := by decide +kernel
theorem dX10_readsLamp_98 : decode cX10_readsLamp 98 = .ok (.bipush 108, 2) := by decide +kernel
theorem dX10_readsLamp_100 : decode cX10_readsLamp 100 = .ok (.if_icmp .ne 7, 3) := by decide +kernel
theorem dX10_readsLamp_103 : decode cX10_readsLamp 103 = .ok (.iconst 0, 1) := by decide +kernel
theorem dX10_readsLamp_104 : decode cX10_readsLamp 104 = .ok (.goto 14, 3) := by decide +kernel
theorem dX10_readsLamp_107 : decode cX10_readsLamp 107 = .ok (.iload_n 3, 1) := by decide +kernel
theorem dX10_readsLamp_108 : decode cX10_readsLamp 108 = .ok (.bipush 109, 2) := by decide +kernel
theorem dX10_readsLamp_110 : decode cX10_readsLamp 110 = .ok (.if_icmp .ne 7, 3) := by decide +kernel
theorem dX10_readsLamp_113 : decode cX10_readsLamp 113 = .ok (.iconst 1, 1) := by decide +kernel
theorem dX10_readsLamp_114 : decode cX10_readsLamp 114 = .ok (.goto 4, 3) := by decide +kernel
theorem dX10_readsLamp_117 : decode cX10_readsLamp 117 = .ok (.iconst 2, 1) := by decide +kernel
theorem dX10_readsLamp_118 : decode cX10_readsLamp 118 = .ok (.iastore, 1) := by decide +kernel
theorem dX10_readsLamp_119 : decode cX10_readsLamp 119 = .ok (.aload_n 0, 1) := by decide +kernel
theorem dX10_readsLamp_120 : decode cX10_readsLamp 120 = .ok (.getfield 34, 3) := by decide +kernel
theorem dX10_readsLamp_123 : decode cX10_readsLamp 123 = .ok (.aload_n 0, 1) := by decide +kernel
theorem dX10_readsLamp_124 : decode cX10_readsLamp 124 = .ok (.getfield 124, 3) := by decide +kernel
theorem dX10_readsLamp_127 : decode cX10_readsLamp 127 = .ok (.iload 4, 2) := by decide +kernel
theorem dX10_readsLamp_129 : decode cX10_readsLamp 129 = .ok (.iastore, 1) := by decide +kernel
theorem dX10_readsLamp_130 : decode cX10_readsLamp 130 = .ok (.aload_n 0, 1) := by decide +kernel
theorem dX10_readsLamp_131 : decode cX10_readsLamp 131 = .ok (.dup, 1) := by decide +kernel
theorem dX10_readsLamp_132 : decode cX10_readsLamp 132 = .ok (.getfield 124, 3) := by decide +kernel
theorem dX10_readsLamp_135 : decode cX10_readsLamp 135 = .ok (.iconst 1, 1) := by decide +kernel
theorem dX10_readsLamp_136 : decode cX10_readsLamp 136 = .ok (.iadd, 1) := by decide +kernel
theorem dX10_readsLamp_137 : decode cX10_readsLamp 137 = .ok (.putfield 124, 3) := by decide +kernel
theorem dX10_readsLamp_140 : decode cX10_readsLamp 140 = .ok (.iconst 1, 1) := by decide +kernel
theorem dX10_readsLamp_141 : decode cX10_readsLamp 141 = .ok (.ireturn, 1) := by decide +kernel
set_option maxRecDepth 20000 in
theorem ggX10_readsCoast_X10_codeAt : GoodIn wsX10_readsCoast wsX10_codeAt := goodIn_r _ [9, 1, 10, 29, 30, 31, 32, 33, 34, 35, 36, 37, 38, 39, 40, 41, 42, 43, 44, 45, 46, 47, 48, 49, 50, 51, 52, 53, 54, 55, 56, 57, 58, 59, 60, 61, 62, 63, 64] rfl (by decide +kernel)
set_option maxRecDepth 20000 in
theorem gX10_readsCoast_X10_codeAt : GoodIn wsX10_readsCoast (wsV RX10 113 RX10 yX10_codeAt wsX10_codeAt) := goodIn_app (goodIn_of _ (by decide +kernel)) ggX10_readsCoast_X10_codeAt
set_option maxRecDepth 20000 in
theorem ggX10_readsCoast_X10_figure : GoodIn wsX10_readsCoast wsX10_figure := goodIn_r _ [14, 1, 5, 6, 7, 8, 9, 10, 15, 16, 17, 29, 30, 31, 32, 33, 34, 35, 36, 37, 38, 39, 40, 41, 42, 43, 44, 45, 46, 47, 48, 49, 50, 51, 52, 53, 54, 55, 56, 57, 58, 59, 60, 61, 62, 63, 64] rfl (by decide +kernel)
set_option maxRecDepth 20000 in
theorem gX10_readsCoast_X10_figure : GoodIn wsX10_readsCoast (wsV RX10 120 RX10 yX10_figure wsX10_figure) := goodIn_app (goodIn_of _ (by decide +kernel)) ggX10_readsCoast_X10_figure
set_option maxRecDepth 20000 in
theorem ggX10_readsCoast_X10_readsSpot : GoodIn wsX10_readsCoast wsX10_readsSpot := goodIn_r _ [21, 2, 1, 22, 5, 6, 7, 8, 9, 10, 11, 12, 13, 14, 15, 16, 17, 29, 30, 31, 32, 33, 34, 35, 36, 37, 38, 39, 40, 41, 42, 43, 44, 45, 46, 47, 48, 49, 50, 51, 52, 53, 54, 55, 56, 57, 58, 59, 60, 61, 62, 63, 64] rfl (by decide +kernel)
set_option maxRecDepth 20000 in
theorem gX10_readsCoast_X10_readsSpot : GoodIn wsX10_readsCoast (wsV RX10 127 RX10 yX10_readsSpot wsX10_readsSpot) := goodIn_app (goodIn_of _ (by decide +kernel)) ggX10_readsCoast_X10_readsSpot
set_option maxRecDepth 20000 in
theorem ggX10_readsCoast_X10_readsLamp : GoodIn wsX10_readsCoast wsX10_readsLamp := goodIn_r _ [26, 3, 1, 2, 27, 28, 5, 6, 7, 8, 9, 10, 11, 12, 13, 14, 15, 16, 17, 29, 30, 31, 32, 33, 34, 35, 36, 37, 38, 39, 40, 41, 42, 43, 44, 45, 46, 47, 48, 49, 50, 51, 52, 53, 54, 55, 56, 57, 58, 59, 60, 61, 62, 63, 64] rfl (by decide +kernel)
set_option maxRecDepth 20000 in
theorem gX10_readsCoast_X10_readsLamp : GoodIn wsX10_readsCoast (wsV RX10 131 RX10 yX10_readsLamp wsX10_readsLamp) := goodIn_app (goodIn_of _ (by decide +kernel)) ggX10_readsCoast_X10_readsLamp
theorem dX10_readsCoast_0 : decode cX10_readsCoast 0 = .ok (.aload_n 0, 1) := by decide +kernel
theorem dX10_readsCoast_1 : decode cX10_readsCoast 1 = .ok (.iconst 0, 1) := by decide +kernel
theorem dX10_readsCoast_2 : decode cX10_readsCoast 2 = .ok (.putfield 110, 3) := by decide +kernel
theorem dX10_readsCoast_5 : decode cX10_readsCoast 5 = .ok (.aload_n 0, 1) := by decide +kernel
theorem dX10_readsCoast_6 : decode cX10_readsCoast 6 = .ok (.iconst 0, 1) := by decide +kernel
theorem dX10_readsCoast_7 : decode cX10_readsCoast 7 = .ok (.putfield 117, 3) := by decide +kernel
theorem dX10_readsCoast_10 : decode cX10_readsCoast 10 = .ok (.aload_n 0, 1) := by decide +kernel
theorem dX10_readsCoast_11 : decode cX10_readsCoast 11 = .ok (.iconst 0, 1) := by decide +kernel
theorem dX10_readsCoast_12 : decode cX10_readsCoast 12 = .ok (.putfield 124, 3) := by decide +kernel
theorem dX10_readsCoast_15 : decode cX10_readsCoast 15 = .ok (.aload_n 0, 1) := by decide +kernel
theorem dX10_readsCoast_16 : decode cX10_readsCoast 16 = .ok (.iload_n 1, 1) := by decide +kernel
theorem dX10_readsCoast_17 : decode cX10_readsCoast 17 = .ok (.iload_n 2, 1) := by decide +kernel
theorem dX10_readsCoast_18 : decode cX10_readsCoast 18 = .ok (.invokevirtual 113, 3) := by decide +kernel
theorem dX10_readsCoast_21 : decode cX10_readsCoast 21 = .ok (.bipush 111, 2) := by decide +kernel
theorem dX10_readsCoast_23 : decode cX10_readsCoast 23 = .ok (.if_icmp .ne 7, 3) := by decide +kernel
theorem dX10_readsCoast_26 : decode cX10_readsCoast 26 = .ok (.iconst 1, 1) := by decide +kernel
theorem dX10_readsCoast_27 : decode cX10_readsCoast 27 = .ok (.goto 4, 3) := by decide +kernel
theorem dX10_readsCoast_30 : decode cX10_readsCoast 30 = .ok (.iconst 0, 1) := by decide +kernel
theorem dX10_readsCoast_31 : decode cX10_readsCoast 31 = .ok (.istore_n 3, 1) := by decide +kernel
theorem dX10_readsCoast_32 : decode cX10_readsCoast 32 = .ok (.aload_n 0, 1) := by decide +kernel
theorem dX10_readsCoast_33 : decode cX10_readsCoast 33 = .ok (.dup, 1) := by decide +kernel
theorem dX10_readsCoast_34 : decode cX10_readsCoast 34 = .ok (.getfield 110, 3) := by decide +kernel
theorem dX10_readsCoast_37 : decode cX10_readsCoast 37 = .ok (.iload_n 3, 1) := by decide +kernel
theorem dX10_readsCoast_38 : decode cX10_readsCoast 38 = .ok (.ifCond .eq 7, 3) := by decide +kernel
theorem dX10_readsCoast_41 : decode cX10_readsCoast 41 = .ok (.iconst 1, 1) := by decide +kernel
theorem dX10_readsCoast_42 : decode cX10_readsCoast 42 = .ok (.goto 4, 3) := by decide +kernel
theorem dX10_readsCoast_45 : decode cX10_readsCoast 45 = .ok (.iconst 0, 1) := by decide +kernel
theorem dX10_readsCoast_46 : decode cX10_readsCoast 46 = .ok (.iadd, 1) := by decide +kernel
theorem dX10_readsCoast_47 : decode cX10_readsCoast 47 = .ok (.putfield 110, 3) := by decide +kernel
theorem dX10_readsCoast_50 : decode cX10_readsCoast 50 = .ok (.iconst 0, 1) := by decide +kernel
theorem dX10_readsCoast_51 : decode cX10_readsCoast 51 = .ok (.istore 4, 2) := by decide +kernel
theorem dX10_readsCoast_53 : decode cX10_readsCoast 53 = .ok (.iload 4, 2) := by decide +kernel
theorem dX10_readsCoast_55 : decode cX10_readsCoast 55 = .ok (.bipush 6, 2) := by decide +kernel
theorem dX10_readsCoast_57 : decode cX10_readsCoast 57 = .ok (.if_icmp .ge 44, 3) := by decide +kernel
theorem dX10_readsCoast_60 : decode cX10_readsCoast 60 = .ok (.iload_n 3, 1) := by decide +kernel
theorem dX10_readsCoast_61 : decode cX10_readsCoast 61 = .ok (.ifCond .eq 40, 3) := by decide +kernel
theorem dX10_readsCoast_64 : decode cX10_readsCoast 64 = .ok (.aload_n 0, 1) := by decide +kernel
theorem dX10_readsCoast_65 : decode cX10_readsCoast 65 = .ok (.getfield 25, 3) := by decide +kernel
theorem dX10_readsCoast_68 : decode cX10_readsCoast 68 = .ok (.iload 4, 2) := by decide +kernel
theorem dX10_readsCoast_70 : decode cX10_readsCoast 70 = .ok (.aload_n 0, 1) := by decide +kernel
theorem dX10_readsCoast_71 : decode cX10_readsCoast 71 = .ok (.iload_n 1, 1) := by decide +kernel
theorem dX10_readsCoast_72 : decode cX10_readsCoast 72 = .ok (.iload_n 2, 1) := by decide +kernel
theorem dX10_readsCoast_73 : decode cX10_readsCoast 73 = .ok (.bipush 9, 2) := by decide +kernel
theorem dX10_readsCoast_75 : decode cX10_readsCoast 75 = .ok (.invokevirtual 120, 3) := by decide +kernel
theorem dX10_readsCoast_78 : decode cX10_readsCoast 78 = .ok (.iastore, 1) := by decide +kernel
theorem dX10_readsCoast_79 : decode cX10_readsCoast 79 = .ok (.aload_n 0, 1) := by decide +kernel
theorem dX10_readsCoast_80 : decode cX10_readsCoast 80 = .ok (.getfield 25, 3) := by decide +kernel
theorem dX10_readsCoast_83 : decode cX10_readsCoast 83 = .ok (.iload 4, 2) := by decide +kernel
theorem dX10_readsCoast_85 : decode cX10_readsCoast 85 = .ok (.iaload, 1) := by decide +kernel
theorem dX10_readsCoast_86 : decode cX10_readsCoast 86 = .ok (.ifCond .lt 7, 3) := by decide +kernel
theorem dX10_readsCoast_89 : decode cX10_readsCoast 89 = .ok (.iconst 1, 1) := by decide +kernel
theorem dX10_readsCoast_90 : decode cX10_readsCoast 90 = .ok (.goto 4, 3) := by decide +kernel
theorem dX10_readsCoast_93 : decode cX10_readsCoast 93 = .ok (.iconst 0, 1) := by decide +kernel
theorem dX10_readsCoast_94 : decode cX10_readsCoast 94 = .ok (.istore_n 3, 1) := by decide +kernel
theorem dX10_readsCoast_95 : decode cX10_readsCoast 95 = .ok (.iinc 4 1, 3) := by decide +kernel
theorem dX10_readsCoast_98 : decode cX10_readsCoast 98 = .ok (.goto (-45), 3) := by decide +kernel
theorem dX10_readsCoast_101 : decode cX10_readsCoast 101 = .ok (.iload_n 3, 1) := by decide +kernel
theorem dX10_readsCoast_102 : decode cX10_readsCoast 102 = .ok (.ifCond .eq 31, 3) := by decide +kernel
theorem dX10_readsCoast_105 : decode cX10_readsCoast 105 = .ok (.aload_n 0, 1) := by decide +kernel
theorem dX10_readsCoast_106 : decode cX10_readsCoast 106 = .ok (.getfield 117, 3) := by decide +kernel
theorem dX10_readsCoast_109 : decode cX10_readsCoast 109 = .ok (.ifCond .eq 14, 3) := by decide +kernel
theorem dX10_readsCoast_112 : decode cX10_readsCoast 112 = .ok (.aload_n 0, 1) := by decide +kernel
theorem dX10_readsCoast_113 : decode cX10_readsCoast 113 = .ok (.iload_n 1, 1) := by decide +kernel
theorem dX10_readsCoast_114 : decode cX10_readsCoast 114 = .ok (.iload_n 2, 1) := by decide +kernel
theorem dX10_readsCoast_115 : decode cX10_readsCoast 115 = .ok (.invokevirtual 113, 3) := by decide +kernel
theorem dX10_readsCoast_118 : decode cX10_readsCoast 118 = .ok (.bipush 59, 2) := by decide +kernel
theorem dX10_readsCoast_120 : decode cX10_readsCoast 120 = .ok (.if_icmp .ne 13, 3) := by decide +kernel
theorem dX10_readsCoast_123 : decode cX10_readsCoast 123 = .ok (.aload_n 0, 1) := by decide +kernel
theorem dX10_readsCoast_124 : decode cX10_readsCoast 124 = .ok (.iload_n 1, 1) := by decide +kernel
theorem dX10_readsCoast_125 : decode cX10_readsCoast 125 = .ok (.iload_n 2, 1) := by decide +kernel
theorem dX10_readsCoast_126 : decode cX10_readsCoast 126 = .ok (.invokevirtual 127, 3) := by decide +kernel
theorem dX10_readsCoast_129 : decode cX10_readsCoast 129 = .ok (.istore_n 3, 1) := by decide +kernel
theorem dX10_readsCoast_130 : decode cX10_readsCoast 130 = .ok (.goto (-29), 3) := by decide +kernel
theorem dX10_readsCoast_133 : decode cX10_readsCoast 133 = .ok (.iload_n 3, 1) := by decide +kernel
theorem dX10_readsCoast_134 : decode cX10_readsCoast 134 = .ok (.ifCond .eq 28, 3) := by decide +kernel
theorem dX10_readsCoast_137 : decode cX10_readsCoast 137 = .ok (.aload_n 0, 1) := by decide +kernel
theorem dX10_readsCoast_138 : decode cX10_readsCoast 138 = .ok (.getfield 124, 3) := by decide +kernel
theorem dX10_readsCoast_141 : decode cX10_readsCoast 141 = .ok (.ifCond .eq 11, 3) := by decide +kernel
theorem dX10_readsCoast_144 : decode cX10_readsCoast 144 = .ok (.aload_n 0, 1) := by decide +kernel
theorem dX10_readsCoast_145 : decode cX10_readsCoast 145 = .ok (.getfield 110, 3) := by decide +kernel
theorem dX10_readsCoast_148 : decode cX10_readsCoast 148 = .ok (.iload_n 2, 1) := by decide +kernel
theorem dX10_readsCoast_149 : decode cX10_readsCoast 149 = .ok (.if_icmp .ge 13, 3) := by decide +kernel
theorem dX10_readsCoast_152 : decode cX10_readsCoast 152 = .ok (.aload_n 0, 1) := by decide +kernel
theorem dX10_readsCoast_153 : decode cX10_readsCoast 153 = .ok (.iload_n 1, 1) := by decide +kernel
theorem dX10_readsCoast_154 : decode cX10_readsCoast 154 = .ok (.iload_n 2, 1) := by decide +kernel
theorem dX10_readsCoast_155 : decode cX10_readsCoast 155 = .ok (.invokevirtual 131, 3) := by decide +kernel
theorem dX10_readsCoast_158 : decode cX10_readsCoast 158 = .ok (.istore_n 3, 1) := by decide +kernel
theorem dX10_readsCoast_159 : decode cX10_readsCoast 159 = .ok (.goto (-26), 3) := by decide +kernel
theorem dX10_readsCoast_162 : decode cX10_readsCoast 162 = .ok (.iload_n 3, 1) := by decide +kernel
theorem dX10_readsCoast_163 : decode cX10_readsCoast 163 = .ok (.ireturn, 1) := by decide +kernel
set_option maxRecDepth 20000 in
theorem ggX10_cellsBarred_X10_failed : GoodIn wsX10_cellsBarred wsX10_failed := goodIn_r _ [7, 8, 12, 13, 14, 15, 16, 17, 18, 19, 20, 21, 22, 23, 24, 25, 26, 27, 28, 29, 30, 31, 32, 33, 34, 35, 36, 37, 38, 39, 40, 41, 42, 43, 44, 45, 46, 47] rfl (by decide +kernel)
set_option maxRecDepth 20000 in
theorem gX10_cellsBarred_X10_failed : GoodIn wsX10_cellsBarred (wsV RX10 134 RX10 yX10_failed wsX10_failed) := goodIn_app (goodIn_of _ (by decide +kernel)) ggX10_cellsBarred_X10_failed
set_option maxRecDepth 20000 in
theorem ggX10_cellsBarred_X10_isBeyond : GoodIn wsX10_cellsBarred wsX10_isBeyond := goodIn_r _ [11] rfl (by decide +kernel)
set_option maxRecDepth 20000 in
theorem gX10_cellsBarred_X10_isBeyond : GoodIn wsX10_cellsBarred (va_wsS RX10 138 yX10_isBeyond wsX10_isBeyond) := goodIn_app (goodIn_of _ (by decide +kernel)) ggX10_cellsBarred_X10_isBeyond
theorem dX10_cellsBarred_0 : decode cX10_cellsBarred 0 = .ok (.aload_n 0, 1) := by decide +kernel
theorem dX10_cellsBarred_1 : decode cX10_cellsBarred 1 = .ok (.getfield 73, 3) := by decide +kernel
theorem dX10_cellsBarred_4 : decode cX10_cellsBarred 4 = .ok (.iload_n 1, 1) := by decide +kernel
theorem dX10_cellsBarred_5 : decode cX10_cellsBarred 5 = .ok (.iaload, 1) := by decide +kernel
theorem dX10_cellsBarred_6 : decode cX10_cellsBarred 6 = .ok (.ifCond .lt 19, 3) := by decide +kernel
theorem dX10_cellsBarred_9 : decode cX10_cellsBarred 9 = .ok (.aload_n 0, 1) := by decide +kernel
theorem dX10_cellsBarred_10 : decode cX10_cellsBarred 10 = .ok (.getfield 76, 3) := by decide +kernel
theorem dX10_cellsBarred_13 : decode cX10_cellsBarred 13 = .ok (.iload_n 1, 1) := by decide +kernel
theorem dX10_cellsBarred_14 : decode cX10_cellsBarred 14 = .ok (.iaload, 1) := by decide +kernel
theorem dX10_cellsBarred_15 : decode cX10_cellsBarred 15 = .ok (.iload_n 2, 1) := by decide +kernel
theorem dX10_cellsBarred_16 : decode cX10_cellsBarred 16 = .ok (.if_icmp .eq 9, 3) := by decide +kernel
theorem dX10_cellsBarred_19 : decode cX10_cellsBarred 19 = .ok (.aload_n 0, 1) := by decide +kernel
theorem dX10_cellsBarred_20 : decode cX10_cellsBarred 20 = .ok (.iconst 2, 1) := by decide +kernel
theorem dX10_cellsBarred_21 : decode cX10_cellsBarred 21 = .ok (.invokevirtual 134, 3) := by decide +kernel
theorem dX10_cellsBarred_24 : decode cX10_cellsBarred 24 = .ok (.ireturn, 1) := by decide +kernel
theorem dX10_cellsBarred_25 : decode cX10_cellsBarred 25 = .ok (.aload_n 0, 1) := by decide +kernel
theorem dX10_cellsBarred_26 : decode cX10_cellsBarred 26 = .ok (.getfield 73, 3) := by decide +kernel
theorem dX10_cellsBarred_29 : decode cX10_cellsBarred 29 = .ok (.iload_n 1, 1) := by decide +kernel
theorem dX10_cellsBarred_30 : decode cX10_cellsBarred 30 = .ok (.iaload, 1) := by decide +kernel
theorem dX10_cellsBarred_31 : decode cX10_cellsBarred 31 = .ok (.ifCond .ge 9, 3) := by decide +kernel
theorem dX10_cellsBarred_34 : decode cX10_cellsBarred 34 = .ok (.aload_n 0, 1) := by decide +kernel
theorem dX10_cellsBarred_35 : decode cX10_cellsBarred 35 = .ok (.iconst 1, 1) := by decide +kernel
theorem dX10_cellsBarred_36 : decode cX10_cellsBarred 36 = .ok (.invokevirtual 134, 3) := by decide +kernel
theorem dX10_cellsBarred_39 : decode cX10_cellsBarred 39 = .ok (.ireturn, 1) := by decide +kernel
theorem dX10_cellsBarred_40 : decode cX10_cellsBarred 40 = .ok (.lload 4, 2) := by decide +kernel
theorem dX10_cellsBarred_42 : decode cX10_cellsBarred 42 = .ok (.lconst 0, 1) := by decide +kernel
theorem dX10_cellsBarred_43 : decode cX10_cellsBarred 43 = .ok (.lcmp, 1) := by decide +kernel
theorem dX10_cellsBarred_44 : decode cX10_cellsBarred 44 = .ok (.ifCond .ge 9, 3) := by decide +kernel
theorem dX10_cellsBarred_47 : decode cX10_cellsBarred 47 = .ok (.aload_n 0, 1) := by decide +kernel
theorem dX10_cellsBarred_48 : decode cX10_cellsBarred 48 = .ok (.iconst 4, 1) := by decide +kernel
theorem dX10_cellsBarred_49 : decode cX10_cellsBarred 49 = .ok (.invokevirtual 134, 3) := by decide +kernel
theorem dX10_cellsBarred_52 : decode cX10_cellsBarred 52 = .ok (.ireturn, 1) := by decide +kernel
theorem dX10_cellsBarred_53 : decode cX10_cellsBarred 53 = .ok (.iload_n 3, 1) := by decide +kernel
theorem dX10_cellsBarred_54 : decode cX10_cellsBarred 54 = .ok (.lload 4, 2) := by decide +kernel
theorem dX10_cellsBarred_56 : decode cX10_cellsBarred 56 = .ok (.aload_n 0, 1) := by decide +kernel
theorem dX10_cellsBarred_57 : decode cX10_cellsBarred 57 = .ok (.getfield 73, 3) := by decide +kernel
theorem dX10_cellsBarred_60 : decode cX10_cellsBarred 60 = .ok (.iload_n 1, 1) := by decide +kernel
theorem dX10_cellsBarred_61 : decode cX10_cellsBarred 61 = .ok (.iaload, 1) := by decide +kernel
theorem dX10_cellsBarred_62 : decode cX10_cellsBarred 62 = .ok (.invokestatic 138, 3) := by decide +kernel
theorem dX10_cellsBarred_65 : decode cX10_cellsBarred 65 = .ok (.ifCond .eq 11, 3) := by decide +kernel
theorem dX10_cellsBarred_68 : decode cX10_cellsBarred 68 = .ok (.aload_n 0, 1) := by decide +kernel
theorem dX10_cellsBarred_69 : decode cX10_cellsBarred 69 = .ok (.iconst 3, 1) := by decide +kernel
theorem dX10_cellsBarred_70 : decode cX10_cellsBarred 70 = .ok (.invokevirtual 134, 3) := by decide +kernel
theorem dX10_cellsBarred_73 : decode cX10_cellsBarred 73 = .ok (.goto 4, 3) := by decide +kernel
theorem dX10_cellsBarred_76 : decode cX10_cellsBarred 76 = .ok (.iconst 0, 1) := by decide +kernel
theorem dX10_cellsBarred_77 : decode cX10_cellsBarred 77 = .ok (.ireturn, 1) := by decide +kernel
set_option maxRecDepth 20000 in
theorem ggX10_coast_X10_noSheet : GoodIn wsX10_coast wsX10_noSheet := goodIn_r _ [22, 23, 24, 25, 21, 26] rfl (by decide +kernel)
set_option maxRecDepth 20000 in
theorem gX10_coast_X10_noSheet : GoodIn wsX10_coast (va_wsS RX10 142 yX10_noSheet wsX10_noSheet) := goodIn_app (goodIn_of _ (by decide +kernel)) ggX10_coast_X10_noSheet
set_option maxRecDepth 20000 in
theorem ggX10_coast_X10_refused : GoodIn wsX10_coast wsX10_refused := goodIn_r _ [30, 31, 66, 67, 68, 69, 70, 71, 72, 73, 74, 75, 76, 77, 78, 79, 80, 81, 82, 83, 84, 85, 86, 87, 88, 89, 90, 91, 92, 93, 94, 95, 96, 97, 98, 99, 100, 101] rfl (by decide +kernel)
set_option maxRecDepth 20000 in
theorem gX10_coast_X10_refused : GoodIn wsX10_coast (wsV RX10 146 RX10 yX10_refused wsX10_refused) := goodIn_app (goodIn_of _ (by decide +kernel)) ggX10_coast_X10_refused
set_option maxRecDepth 20000 in
theorem ggX10_coast_X10_in : GoodIn wsX10_coast wsX10_in := goodIn_r _ [26] rfl (by decide +kernel)
set_option maxRecDepth 20000 in
theorem gX10_coast_X10_in : GoodIn wsX10_coast (va_wsS RX10 101 yX10_in wsX10_in) := goodIn_app (goodIn_of _ (by decide +kernel)) ggX10_coast_X10_in
set_option maxRecDepth 20000 in
theorem ggX10_coast_X10_cellsBarred : GoodIn wsX10_coast wsX10_cellsBarred := goodIn_r _ [35, 36, 37, 38, 39, 40, 21, 41, 31, 42, 43, 44, 66, 67, 68, 69, 70, 71, 72, 73, 74, 75, 76, 77, 78, 79, 80, 81, 82, 83, 84, 85, 86, 87, 88, 89, 90, 91, 92, 93, 94, 95, 96, 97, 98, 99, 100, 101] rfl (by decide +kernel)
set_option maxRecDepth 20000 in
theorem gX10_coast_X10_cellsBarred : GoodIn wsX10_coast (wsV RX10 151 RX10 yX10_cellsBarred wsX10_cellsBarred) := goodIn_app (goodIn_of _ (by decide +kernel)) ggX10_coast_X10_cellsBarred
set_option maxRecDepth 20000 in
theorem ggX10_coast_X10_readsCoast : GoodIn wsX10_coast wsX10_readsCoast := goodIn_r _ [48, 2, 3, 5, 8, 49, 50, 51, 21, 52, 53, 54, 55, 56, 57, 24, 25, 26, 58, 59, 60, 61, 10, 62, 63, 64, 65, 12, 14, 66, 67, 68, 69, 70, 71, 72, 73, 74, 75, 76, 77, 78, 79, 80, 81, 82, 83, 84, 85, 86, 87, 88, 89, 90, 91, 92, 93, 94, 95, 96, 97, 98, 99, 100, 101] rfl (by decide +kernel)
set_option maxRecDepth 20000 in
theorem gX10_coast_X10_readsCoast : GoodIn wsX10_coast (wsV RX10 155 RX10 yX10_readsCoast wsX10_readsCoast) := goodIn_app (goodIn_of _ (by decide +kernel)) ggX10_coast_X10_readsCoast
theorem dX10_coast_0 : decode cX10_coast 0 = .ok (.iload_n 1, 1) := by decide +kernel
theorem dX10_coast_1 : decode cX10_coast 1 = .ok (.invokestatic 142, 3) := by decide +kernel
theorem dX10_coast_4 : decode cX10_coast 4 = .ok (.ifCond .eq 9, 3) := by decide +kernel
theorem dX10_coast_7 : decode cX10_coast 7 = .ok (.aload_n 0, 1) := by decide +kernel
theorem dX10_coast_8 : decode cX10_coast 8 = .ok (.iconst (-1), 1) := by decide +kernel
theorem dX10_coast_9 : decode cX10_coast 9 = .ok (.invokevirtual 146, 3) := by decide +kernel
theorem dX10_coast_12 : decode cX10_coast 12 = .ok (.ireturn, 1) := by decide +kernel
theorem dX10_coast_13 : decode cX10_coast 13 = .ok (.iload_n 2, 1) := by decide +kernel
theorem dX10_coast_14 : decode cX10_coast 14 = .ok (.i2l, 1) := by decide +kernel
theorem dX10_coast_15 : decode cX10_coast 15 = .ok (.lconst 0, 1) := by decide +kernel
theorem dX10_coast_16 : decode cX10_coast 16 = .ok (.ldc2_w 149, 3) := by decide +kernel
theorem dX10_coast_19 : decode cX10_coast 19 = .ok (.invokestatic 101, 3) := by decide +kernel
theorem dX10_coast_22 : decode cX10_coast 22 = .ok (.ifCond .ne 10, 3) := by decide +kernel
theorem dX10_coast_25 : decode cX10_coast 25 = .ok (.aload_n 0, 1) := by decide +kernel
theorem dX10_coast_26 : decode cX10_coast 26 = .ok (.bipush (-2), 2) := by decide +kernel
theorem dX10_coast_28 : decode cX10_coast 28 = .ok (.invokevirtual 146, 3) := by decide +kernel
theorem dX10_coast_31 : decode cX10_coast 31 = .ok (.ireturn, 1) := by decide +kernel
theorem dX10_coast_32 : decode cX10_coast 32 = .ok (.aload_n 0, 1) := by decide +kernel
theorem dX10_coast_33 : decode cX10_coast 33 = .ok (.iload_n 1, 1) := by decide +kernel
theorem dX10_coast_34 : decode cX10_coast 34 = .ok (.iload_n 2, 1) := by decide +kernel
theorem dX10_coast_35 : decode cX10_coast 35 = .ok (.iload_n 3, 1) := by decide +kernel
theorem dX10_coast_36 : decode cX10_coast 36 = .ok (.iload 4, 2) := by decide +kernel
theorem dX10_coast_38 : decode cX10_coast 38 = .ok (.i2l, 1) := by decide +kernel
theorem dX10_coast_39 : decode cX10_coast 39 = .ok (.invokevirtual 151, 3) := by decide +kernel
theorem dX10_coast_42 : decode cX10_coast 42 = .ok (.istore 5, 2) := by decide +kernel
theorem dX10_coast_44 : decode cX10_coast 44 = .ok (.iload 5, 2) := by decide +kernel
theorem dX10_coast_46 : decode cX10_coast 46 = .ok (.ifCond .ge 6, 3) := by decide +kernel
theorem dX10_coast_49 : decode cX10_coast 49 = .ok (.iload 5, 2) := by decide +kernel
theorem dX10_coast_51 : decode cX10_coast 51 = .ok (.ireturn, 1) := by decide +kernel
theorem dX10_coast_52 : decode cX10_coast 52 = .ok (.aload_n 0, 1) := by decide +kernel
theorem dX10_coast_53 : decode cX10_coast 53 = .ok (.bipush 60, 2) := by decide +kernel
theorem dX10_coast_55 : decode cX10_coast 55 = .ok (.iload_n 1, 1) := by decide +kernel
theorem dX10_coast_56 : decode cX10_coast 56 = .ok (.imul, 1) := by decide +kernel
theorem dX10_coast_57 : decode cX10_coast 57 = .ok (.iload_n 3, 1) := by decide +kernel
theorem dX10_coast_58 : decode cX10_coast 58 = .ok (.iadd, 1) := by decide +kernel
theorem dX10_coast_59 : decode cX10_coast 59 = .ok (.iload 4, 2) := by decide +kernel
theorem dX10_coast_61 : decode cX10_coast 61 = .ok (.invokevirtual 155, 3) := by decide +kernel
theorem dX10_coast_64 : decode cX10_coast 64 = .ok (.ifCond .ne 15, 3) := by decide +kernel
theorem dX10_coast_67 : decode cX10_coast 67 = .ok (.aload_n 0, 1) := by decide +kernel
theorem dX10_coast_68 : decode cX10_coast 68 = .ok (.bipush (-100), 2) := by decide +kernel
theorem dX10_coast_70 : decode cX10_coast 70 = .ok (.aload_n 0, 1) := by decide +kernel
theorem dX10_coast_71 : decode cX10_coast 71 = .ok (.getfield 110, 3) := by decide +kernel
theorem dX10_coast_74 : decode cX10_coast 74 = .ok (.isub, 1) := by decide +kernel
theorem dX10_coast_75 : decode cX10_coast 75 = .ok (.invokevirtual 146, 3) := by decide +kernel
theorem dX10_coast_78 : decode cX10_coast 78 = .ok (.ireturn, 1) := by decide +kernel
theorem dX10_coast_79 : decode cX10_coast 79 = .ok (.aload_n 0, 1) := by decide +kernel
theorem dX10_coast_80 : decode cX10_coast 80 = .ok (.aload_n 0, 1) := by decide +kernel
theorem dX10_coast_81 : decode cX10_coast 81 = .ok (.getfield 117, 3) := by decide +kernel
theorem dX10_coast_84 : decode cX10_coast 84 = .ok (.putfield 98, 3) := by decide +kernel
theorem dX10_coast_87 : decode cX10_coast 87 = .ok (.aload_n 0, 1) := by decide +kernel
theorem dX10_coast_88 : decode cX10_coast 88 = .ok (.aload_n 0, 1) := by decide +kernel
theorem dX10_coast_89 : decode cX10_coast 89 = .ok (.getfield 124, 3) := by decide +kernel
theorem dX10_coast_92 : decode cX10_coast 92 = .ok (.putfield 105, 3) := by decide +kernel
theorem dX10_coast_95 : decode cX10_coast 95 = .ok (.iconst 0, 1) := by decide +kernel
theorem dX10_coast_96 : decode cX10_coast 96 = .ok (.istore 6, 2) := by decide +kernel
theorem dX10_coast_98 : decode cX10_coast 98 = .ok (.iload 6, 2) := by decide +kernel
theorem dX10_coast_100 : decode cX10_coast 100 = .ok (.bipush 6, 2) := by decide +kernel
theorem dX10_coast_102 : decode cX10_coast 102 = .ok (.if_icmp .ge 23, 3) := by decide +kernel
theorem dX10_coast_105 : decode cX10_coast 105 = .ok (.aload_n 0, 1) := by decide +kernel
theorem dX10_coast_106 : decode cX10_coast 106 = .ok (.getfield 7, 3) := by decide +kernel
theorem dX10_coast_109 : decode cX10_coast 109 = .ok (.iload 6, 2) := by decide +kernel
theorem dX10_coast_111 : decode cX10_coast 111 = .ok (.aload_n 0, 1) := by decide +kernel
theorem dX10_coast_112 : decode cX10_coast 112 = .ok (.getfield 25, 3) := by decide +kernel
theorem dX10_coast_115 : decode cX10_coast 115 = .ok (.iload 6, 2) := by decide +kernel
theorem dX10_coast_117 : decode cX10_coast 117 = .ok (.iaload, 1) := by decide +kernel
theorem dX10_coast_118 : decode cX10_coast 118 = .ok (.iastore, 1) := by decide +kernel
theorem dX10_coast_119 : decode cX10_coast 119 = .ok (.iinc 6 1, 3) := by decide +kernel
theorem dX10_coast_122 : decode cX10_coast 122 = .ok (.goto (-24), 3) := by decide +kernel
theorem dX10_coast_125 : decode cX10_coast 125 = .ok (.iconst 0, 1) := by decide +kernel
theorem dX10_coast_126 : decode cX10_coast 126 = .ok (.istore 6, 2) := by decide +kernel
theorem dX10_coast_128 : decode cX10_coast 128 = .ok (.iload 6, 2) := by decide +kernel
theorem dX10_coast_130 : decode cX10_coast 130 = .ok (.iconst 4, 1) := by decide +kernel
theorem dX10_coast_131 : decode cX10_coast 131 = .ok (.if_icmp .ge 59, 3) := by decide +kernel
theorem dX10_coast_134 : decode cX10_coast 134 = .ok (.aload_n 0, 1) := by decide +kernel
theorem dX10_coast_135 : decode cX10_coast 135 = .ok (.getfield 13, 3) := by decide +kernel
theorem dX10_coast_138 : decode cX10_coast 138 = .ok (.iload 6, 2) := by decide +kernel
theorem dX10_coast_140 : decode cX10_coast 140 = .ok (.aload_n 0, 1) := by decide +kernel
theorem dX10_coast_141 : decode cX10_coast 141 = .ok (.getfield 28, 3) := by decide +kernel
theorem dX10_coast_144 : decode cX10_coast 144 = .ok (.iload 6, 2) := by decide +kernel
theorem dX10_coast_146 : decode cX10_coast 146 = .ok (.iaload, 1) := by decide +kernel
theorem dX10_coast_147 : decode cX10_coast 147 = .ok (.iastore, 1) := by decide +kernel
theorem dX10_coast_148 : decode cX10_coast 148 = .ok (.aload_n 0, 1) := by decide +kernel
theorem dX10_coast_149 : decode cX10_coast 149 = .ok (.getfield 16, 3) := by decide +kernel
theorem dX10_coast_152 : decode cX10_coast 152 = .ok (.iload 6, 2) := by decide +kernel
theorem dX10_coast_154 : decode cX10_coast 154 = .ok (.aload_n 0, 1) := by decide +kernel
theorem dX10_coast_155 : decode cX10_coast 155 = .ok (.getfield 31, 3) := by decide +kernel
theorem dX10_coast_158 : decode cX10_coast 158 = .ok (.iload 6, 2) := by decide +kernel
theorem dX10_coast_160 : decode cX10_coast 160 = .ok (.iaload, 1) := by decide +kernel
theorem dX10_coast_161 : decode cX10_coast 161 = .ok (.iastore, 1) := by decide +kernel
theorem dX10_coast_162 : decode cX10_coast 162 = .ok (.aload_n 0, 1) := by decide +kernel
theorem dX10_coast_163 : decode cX10_coast 163 = .ok (.getfield 19, 3) := by decide +kernel
theorem dX10_coast_166 : decode cX10_coast 166 = .ok (.iload 6, 2) := by decide +kernel
theorem dX10_coast_168 : decode cX10_coast 168 = .ok (.aload_n 0, 1) := by decide +kernel
theorem dX10_coast_169 : decode cX10_coast 169 = .ok (.getfield 34, 3) := by decide +kernel
theorem dX10_coast_172 : decode cX10_coast 172 = .ok (.iload 6, 2) := by decide +kernel
theorem dX10_coast_174 : decode cX10_coast 174 = .ok (.iaload, 1) := by decide +kernel
theorem dX10_coast_175 : decode cX10_coast 175 = .ok (.iastore, 1) := by decide +kernel
theorem dX10_coast_176 : decode cX10_coast 176 = .ok (.aload_n 0, 1) := by decide +kernel
theorem dX10_coast_177 : decode cX10_coast 177 = .ok (.getfield 22, 3) := by decide +kernel
theorem dX10_coast_180 : decode cX10_coast 180 = .ok (.iload 6, 2) := by decide +kernel
theorem dX10_coast_182 : decode cX10_coast 182 = .ok (.iconst 0, 1) := by decide +kernel
theorem dX10_coast_183 : decode cX10_coast 183 = .ok (.iastore, 1) := by decide +kernel
theorem dX10_coast_184 : decode cX10_coast 184 = .ok (.iinc 6 1, 3) := by decide +kernel
theorem dX10_coast_187 : decode cX10_coast 187 = .ok (.goto (-59), 3) := by decide +kernel
theorem dX10_coast_190 : decode cX10_coast 190 = .ok (.aload_n 0, 1) := by decide +kernel
theorem dX10_coast_191 : decode cX10_coast 191 = .ok (.bipush 6, 2) := by decide +kernel
theorem dX10_coast_193 : decode cX10_coast 193 = .ok (.putfield 158, 3) := by decide +kernel
theorem dX10_coast_196 : decode cX10_coast 196 = .ok (.aload_n 0, 1) := by decide +kernel
theorem dX10_coast_197 : decode cX10_coast 197 = .ok (.iconst 0, 1) := by decide +kernel
theorem dX10_coast_198 : decode cX10_coast 198 = .ok (.putfield 161, 3) := by decide +kernel
theorem dX10_coast_201 : decode cX10_coast 201 = .ok (.aload_n 0, 1) := by decide +kernel
theorem dX10_coast_202 : decode cX10_coast 202 = .ok (.iconst 0, 1) := by decide +kernel
theorem dX10_coast_203 : decode cX10_coast 203 = .ok (.putfield 164, 3) := by decide +kernel
theorem dX10_coast_206 : decode cX10_coast 206 = .ok (.aload_n 0, 1) := by decide +kernel
theorem dX10_coast_207 : decode cX10_coast 207 = .ok (.aload_n 0, 1) := by decide +kernel
theorem dX10_coast_208 : decode cX10_coast 208 = .ok (.getfield 105, 3) := by decide +kernel
theorem dX10_coast_211 : decode cX10_coast 211 = .ok (.invokevirtual 146, 3) := by decide +kernel
theorem dX10_coast_214 : decode cX10_coast 214 = .ok (.ireturn, 1) := by decide +kernel
set_option maxRecDepth 20000 in
theorem ggX10_sky_X10_in : GoodIn wsX10_sky wsX10_in := goodIn_r _ [7] rfl (by decide +kernel)
set_option maxRecDepth 20000 in
theorem gX10_sky_X10_in : GoodIn wsX10_sky (va_wsS RX10 101 yX10_in wsX10_in) := goodIn_app (goodIn_of _ (by decide +kernel)) ggX10_sky_X10_in
theorem dX10_sky_0 : decode cX10_sky 0 = .ok (.iload_n 1, 1) := by decide +kernel
theorem dX10_sky_1 : decode cX10_sky 1 = .ok (.i2l, 1) := by decide +kernel
theorem dX10_sky_2 : decode cX10_sky 2 = .ok (.lconst 0, 1) := by decide +kernel
theorem dX10_sky_3 : decode cX10_sky 3 = .ok (.ldc2_w 167, 3) := by decide +kernel
theorem dX10_sky_6 : decode cX10_sky 6 = .ok (.invokestatic 101, 3) := by decide +kernel
theorem dX10_sky_9 : decode cX10_sky 9 = .ok (.ifCond .ne 6, 3) := by decide +kernel
theorem dX10_sky_12 : decode cX10_sky 12 = .ok (.bipush (-2), 2) := by decide +kernel
theorem dX10_sky_14 : decode cX10_sky 14 = .ok (.ireturn, 1) := by decide +kernel
theorem dX10_sky_15 : decode cX10_sky 15 = .ok (.aload_n 0, 1) := by decide +kernel
theorem dX10_sky_16 : decode cX10_sky 16 = .ok (.getfield 105, 3) := by decide +kernel
theorem dX10_sky_19 : decode cX10_sky 19 = .ok (.ifCond .ne 8, 3) := by decide +kernel
theorem dX10_sky_22 : decode cX10_sky 22 = .ok (.bipush (-3), 2) := by decide +kernel
theorem dX10_sky_24 : decode cX10_sky 24 = .ok (.goto 9, 3) := by decide +kernel
theorem dX10_sky_27 : decode cX10_sky 27 = .ok (.aload_n 0, 1) := by decide +kernel
theorem dX10_sky_28 : decode cX10_sky 28 = .ok (.getfield 7, 3) := by decide +kernel
theorem dX10_sky_31 : decode cX10_sky 31 = .ok (.iload_n 1, 1) := by decide +kernel
theorem dX10_sky_32 : decode cX10_sky 32 = .ok (.iaload, 1) := by decide +kernel
theorem dX10_sky_33 : decode cX10_sky 33 = .ok (.ireturn, 1) := by decide +kernel
set_option maxRecDepth 20000 in
theorem ggX10_shade_X10_noSpot : GoodIn wsX10_shade wsX10_noSpot := goodIn_r _ [6, 7, 8, 9, 5, 10, 11, 12, 13, 14, 15, 16, 17, 18, 19, 20, 21, 22, 23, 24, 25, 26, 27, 28, 29, 30, 31, 32, 33, 34, 35, 36, 37, 38, 39, 40, 41, 42, 43, 44, 45, 46] rfl (by decide +kernel)
set_option maxRecDepth 20000 in
theorem gX10_shade_X10_noSpot : GoodIn wsX10_shade (wsV RX10 169 RX10 yX10_noSpot wsX10_noSpot) := goodIn_app (goodIn_of _ (by decide +kernel)) ggX10_shade_X10_noSpot
theorem dX10_shade_0 : decode cX10_shade 0 = .ok (.aload_n 0, 1) := by decide +kernel
theorem dX10_shade_1 : decode cX10_shade 1 = .ok (.iload_n 1, 1) := by decide +kernel
theorem dX10_shade_2 : decode cX10_shade 2 = .ok (.invokevirtual 169, 3) := by decide +kernel
theorem dX10_shade_5 : decode cX10_shade 5 = .ok (.ifCond .eq 7, 3) := by decide +kernel
theorem dX10_shade_8 : decode cX10_shade 8 = .ok (.iconst (-1), 1) := by decide +kernel
theorem dX10_shade_9 : decode cX10_shade 9 = .ok (.goto 9, 3) := by decide +kernel
theorem dX10_shade_12 : decode cX10_shade 12 = .ok (.aload_n 0, 1) := by decide +kernel
theorem dX10_shade_13 : decode cX10_shade 13 = .ok (.getfield 13, 3) := by decide +kernel
theorem dX10_shade_16 : decode cX10_shade 16 = .ok (.iload_n 1, 1) := by decide +kernel
theorem dX10_shade_17 : decode cX10_shade 17 = .ok (.iaload, 1) := by decide +kernel
theorem dX10_shade_18 : decode cX10_shade 18 = .ok (.ireturn, 1) := by decide +kernel
set_option maxRecDepth 20000 in
theorem ggX10_ofLamp_X10_noLamp : GoodIn wsX10_ofLamp wsX10_noLamp := goodIn_r _ [7, 8, 9, 10, 6, 11, 12, 13, 14, 15, 16, 17, 18, 19, 20, 21, 22, 23, 24, 25, 26, 27, 28, 29, 30, 31, 32, 33, 34, 35, 36, 37, 38, 39, 40, 41, 42, 43, 44, 45, 46, 47] rfl (by decide +kernel)
set_option maxRecDepth 20000 in
theorem gX10_ofLamp_X10_noLamp : GoodIn wsX10_ofLamp (wsV RX10 172 RX10 yX10_noLamp wsX10_noLamp) := goodIn_app (goodIn_of _ (by decide +kernel)) ggX10_ofLamp_X10_noLamp
theorem dX10_ofLamp_0 : decode cX10_ofLamp 0 = .ok (.aload_n 0, 1) := by decide +kernel
theorem dX10_ofLamp_1 : decode cX10_ofLamp 1 = .ok (.iload_n 1, 1) := by decide +kernel
theorem dX10_ofLamp_2 : decode cX10_ofLamp 2 = .ok (.invokevirtual 172, 3) := by decide +kernel
theorem dX10_ofLamp_5 : decode cX10_ofLamp 5 = .ok (.ifCond .eq 5, 3) := by decide +kernel
theorem dX10_ofLamp_8 : decode cX10_ofLamp 8 = .ok (.iconst (-1), 1) := by decide +kernel
theorem dX10_ofLamp_9 : decode cX10_ofLamp 9 = .ok (.ireturn, 1) := by decide +kernel
theorem dX10_ofLamp_10 : decode cX10_ofLamp 10 = .ok (.iload_n 2, 1) := by decide +kernel
theorem dX10_ofLamp_11 : decode cX10_ofLamp 11 = .ok (.ifCond .ne 12, 3) := by decide +kernel
theorem dX10_ofLamp_14 : decode cX10_ofLamp 14 = .ok (.aload_n 0, 1) := by decide +kernel
theorem dX10_ofLamp_15 : decode cX10_ofLamp 15 = .ok (.getfield 16, 3) := by decide +kernel
theorem dX10_ofLamp_18 : decode cX10_ofLamp 18 = .ok (.iload_n 1, 1) := by decide +kernel
theorem dX10_ofLamp_19 : decode cX10_ofLamp 19 = .ok (.iaload, 1) := by decide +kernel
theorem dX10_ofLamp_20 : decode cX10_ofLamp 20 = .ok (.goto 19, 3) := by decide +kernel
theorem dX10_ofLamp_23 : decode cX10_ofLamp 23 = .ok (.iload_n 2, 1) := by decide +kernel
theorem dX10_ofLamp_24 : decode cX10_ofLamp 24 = .ok (.iconst 1, 1) := by decide +kernel
theorem dX10_ofLamp_25 : decode cX10_ofLamp 25 = .ok (.if_icmp .ne 12, 3) := by decide +kernel
theorem dX10_ofLamp_28 : decode cX10_ofLamp 28 = .ok (.aload_n 0, 1) := by decide +kernel
theorem dX10_ofLamp_29 : decode cX10_ofLamp 29 = .ok (.getfield 19, 3) := by decide +kernel
theorem dX10_ofLamp_32 : decode cX10_ofLamp 32 = .ok (.iload_n 1, 1) := by decide +kernel
theorem dX10_ofLamp_33 : decode cX10_ofLamp 33 = .ok (.iaload, 1) := by decide +kernel
theorem dX10_ofLamp_34 : decode cX10_ofLamp 34 = .ok (.goto 5, 3) := by decide +kernel
theorem dX10_ofLamp_37 : decode cX10_ofLamp 37 = .ok (.bipush (-2), 2) := by decide +kernel
theorem dX10_ofLamp_39 : decode cX10_ofLamp 39 = .ok (.ireturn, 1) := by decide +kernel
set_option maxRecDepth 20000 in
theorem ggX10_cloud_X10_in : GoodIn wsX10_cloud wsX10_in := goodIn_r _ [8] rfl (by decide +kernel)
set_option maxRecDepth 20000 in
theorem gX10_cloud_X10_in : GoodIn wsX10_cloud (va_wsS RX10 101 yX10_in wsX10_in) := goodIn_app (goodIn_of _ (by decide +kernel)) ggX10_cloud_X10_in
theorem dX10_cloud_0 : decode cX10_cloud 0 = .ok (.aload_n 0, 1) := by decide +kernel
theorem dX10_cloud_1 : decode cX10_cloud 1 = .ok (.getfield 105, 3) := by decide +kernel
theorem dX10_cloud_4 : decode cX10_cloud 4 = .ok (.ifCond .ne 6, 3) := by decide +kernel
theorem dX10_cloud_7 : decode cX10_cloud 7 = .ok (.bipush (-3), 2) := by decide +kernel
theorem dX10_cloud_9 : decode cX10_cloud 9 = .ok (.ireturn, 1) := by decide +kernel
theorem dX10_cloud_10 : decode cX10_cloud 10 = .ok (.iload_n 1, 1) := by decide +kernel
theorem dX10_cloud_11 : decode cX10_cloud 11 = .ok (.i2l, 1) := by decide +kernel
theorem dX10_cloud_12 : decode cX10_cloud 12 = .ok (.lconst 0, 1) := by decide +kernel
theorem dX10_cloud_13 : decode cX10_cloud 13 = .ok (.ldc2_w 175, 3) := by decide +kernel
theorem dX10_cloud_16 : decode cX10_cloud 16 = .ok (.invokestatic 101, 3) := by decide +kernel
theorem dX10_cloud_19 : decode cX10_cloud 19 = .ok (.ifCond .eq 15, 3) := by decide +kernel
theorem dX10_cloud_22 : decode cX10_cloud 22 = .ok (.iload_n 2, 1) := by decide +kernel
theorem dX10_cloud_23 : decode cX10_cloud 23 = .ok (.i2l, 1) := by decide +kernel
theorem dX10_cloud_24 : decode cX10_cloud 24 = .ok (.lconst 0, 1) := by decide +kernel
theorem dX10_cloud_25 : decode cX10_cloud 25 = .ok (.ldc2_w 177, 3) := by decide +kernel
theorem dX10_cloud_28 : decode cX10_cloud 28 = .ok (.invokestatic 101, 3) := by decide +kernel
theorem dX10_cloud_31 : decode cX10_cloud 31 = .ok (.ifCond .ne 6, 3) := by decide +kernel
theorem dX10_cloud_34 : decode cX10_cloud 34 = .ok (.bipush (-2), 2) := by decide +kernel
theorem dX10_cloud_36 : decode cX10_cloud 36 = .ok (.ireturn, 1) := by decide +kernel
theorem dX10_cloud_37 : decode cX10_cloud 37 = .ok (.aload_n 0, 1) := by decide +kernel
theorem dX10_cloud_38 : decode cX10_cloud 38 = .ok (.getfield 22, 3) := by decide +kernel
theorem dX10_cloud_41 : decode cX10_cloud 41 = .ok (.iload_n 1, 1) := by decide +kernel
theorem dX10_cloud_42 : decode cX10_cloud 42 = .ok (.iaload, 1) := by decide +kernel
theorem dX10_cloud_43 : decode cX10_cloud 43 = .ok (.istore_n 3, 1) := by decide +kernel
theorem dX10_cloud_44 : decode cX10_cloud 44 = .ok (.aload_n 0, 1) := by decide +kernel
theorem dX10_cloud_45 : decode cX10_cloud 45 = .ok (.getfield 22, 3) := by decide +kernel
theorem dX10_cloud_48 : decode cX10_cloud 48 = .ok (.iload_n 1, 1) := by decide +kernel
theorem dX10_cloud_49 : decode cX10_cloud 49 = .ok (.iload_n 2, 1) := by decide +kernel
theorem dX10_cloud_50 : decode cX10_cloud 50 = .ok (.iastore, 1) := by decide +kernel
theorem dX10_cloud_51 : decode cX10_cloud 51 = .ok (.iload_n 3, 1) := by decide +kernel
theorem dX10_cloud_52 : decode cX10_cloud 52 = .ok (.ireturn, 1) := by decide +kernel
set_option maxRecDepth 20000 in
theorem ggX10_age_X10_in : GoodIn wsX10_age wsX10_in := goodIn_r _ [7] rfl (by decide +kernel)
set_option maxRecDepth 20000 in
theorem gX10_age_X10_in : GoodIn wsX10_age (va_wsS RX10 101 yX10_in wsX10_in) := goodIn_app (goodIn_of _ (by decide +kernel)) ggX10_age_X10_in
theorem dX10_age_0 : decode cX10_age 0 = .ok (.iload_n 1, 1) := by decide +kernel
theorem dX10_age_1 : decode cX10_age 1 = .ok (.i2l, 1) := by decide +kernel
theorem dX10_age_2 : decode cX10_age 2 = .ok (.lconst 1, 1) := by decide +kernel
theorem dX10_age_3 : decode cX10_age 3 = .ok (.ldc2_w 179, 3) := by decide +kernel
theorem dX10_age_6 : decode cX10_age 6 = .ok (.invokestatic 101, 3) := by decide +kernel
theorem dX10_age_9 : decode cX10_age 9 = .ok (.ifCond .ne 6, 3) := by decide +kernel
theorem dX10_age_12 : decode cX10_age 12 = .ok (.bipush (-2), 2) := by decide +kernel
theorem dX10_age_14 : decode cX10_age 14 = .ok (.ireturn, 1) := by decide +kernel
theorem dX10_age_15 : decode cX10_age 15 = .ok (.aload_n 0, 1) := by decide +kernel
theorem dX10_age_16 : decode cX10_age 16 = .ok (.getfield 105, 3) := by decide +kernel
theorem dX10_age_19 : decode cX10_age 19 = .ok (.ifCond .ne 6, 3) := by decide +kernel
theorem dX10_age_22 : decode cX10_age 22 = .ok (.bipush (-3), 2) := by decide +kernel
theorem dX10_age_24 : decode cX10_age 24 = .ok (.ireturn, 1) := by decide +kernel
theorem dX10_age_25 : decode cX10_age 25 = .ok (.aload_n 0, 1) := by decide +kernel
theorem dX10_age_26 : decode cX10_age 26 = .ok (.getfield 158, 3) := by decide +kernel
theorem dX10_age_29 : decode cX10_age 29 = .ok (.istore_n 2, 1) := by decide +kernel
theorem dX10_age_30 : decode cX10_age 30 = .ok (.aload_n 0, 1) := by decide +kernel
theorem dX10_age_31 : decode cX10_age 31 = .ok (.iload_n 1, 1) := by decide +kernel
theorem dX10_age_32 : decode cX10_age 32 = .ok (.putfield 158, 3) := by decide +kernel
theorem dX10_age_35 : decode cX10_age 35 = .ok (.iload_n 2, 1) := by decide +kernel
theorem dX10_age_36 : decode cX10_age 36 = .ok (.ireturn, 1) := by decide +kernel
theorem dX10_layMove_0 : decode cX10_layMove 0 = .ok (.aload_n 0, 1) := by decide +kernel
theorem dX10_layMove_1 : decode cX10_layMove 1 = .ok (.getfield 37, 3) := by decide +kernel
theorem dX10_layMove_4 : decode cX10_layMove 4 = .ok (.iload_n 1, 1) := by decide +kernel
theorem dX10_layMove_5 : decode cX10_layMove 5 = .ok (.iload_n 2, 1) := by decide +kernel
theorem dX10_layMove_6 : decode cX10_layMove 6 = .ok (.iastore, 1) := by decide +kernel
theorem dX10_layMove_7 : decode cX10_layMove 7 = .ok (.aload_n 0, 1) := by decide +kernel
theorem dX10_layMove_8 : decode cX10_layMove 8 = .ok (.getfield 40, 3) := by decide +kernel
theorem dX10_layMove_11 : decode cX10_layMove 11 = .ok (.iload_n 1, 1) := by decide +kernel
theorem dX10_layMove_12 : decode cX10_layMove 12 = .ok (.iload_n 3, 1) := by decide +kernel
theorem dX10_layMove_13 : decode cX10_layMove 13 = .ok (.iastore, 1) := by decide +kernel
theorem dX10_layMove_14 : decode cX10_layMove 14 = .ok (.aload_n 0, 1) := by decide +kernel
theorem dX10_layMove_15 : decode cX10_layMove 15 = .ok (.getfield 43, 3) := by decide +kernel
theorem dX10_layMove_18 : decode cX10_layMove 18 = .ok (.iload_n 1, 1) := by decide +kernel
theorem dX10_layMove_19 : decode cX10_layMove 19 = .ok (.iload 4, 2) := by decide +kernel
theorem dX10_layMove_21 : decode cX10_layMove 21 = .ok (.iastore, 1) := by decide +kernel
theorem dX10_layMove_22 : decode cX10_layMove 22 = .ok (.return_, 1) := by decide +kernel
set_option maxRecDepth 20000 in
theorem ggX10_move_X10_noLamp : GoodIn wsX10_move wsX10_noLamp := goodIn_r _ [6, 7, 8, 9, 5, 10, 27, 28, 29, 30, 31, 32, 33, 34, 35, 36, 37, 38, 39, 40, 41, 42, 43, 44, 45, 46, 47, 48, 49, 50, 51, 52, 53, 54, 55, 56, 57, 58, 59, 60, 61, 62] rfl (by decide +kernel)
set_option maxRecDepth 20000 in
theorem gX10_move_X10_noLamp : GoodIn wsX10_move (wsV RX10 172 RX10 yX10_noLamp wsX10_noLamp) := goodIn_app (goodIn_of _ (by decide +kernel)) ggX10_move_X10_noLamp
set_option maxRecDepth 20000 in
theorem ggX10_move_X10_noSpot : GoodIn wsX10_move wsX10_noSpot := goodIn_r _ [14, 15, 8, 9, 5, 10, 27, 28, 29, 30, 31, 32, 33, 34, 35, 36, 37, 38, 39, 40, 41, 42, 43, 44, 45, 46, 47, 48, 49, 50, 51, 52, 53, 54, 55, 56, 57, 58, 59, 60, 61, 62] rfl (by decide +kernel)
set_option maxRecDepth 20000 in
theorem gX10_move_X10_noSpot : GoodIn wsX10_move (wsV RX10 169 RX10 yX10_noSpot wsX10_noSpot) := goodIn_app (goodIn_of _ (by decide +kernel)) ggX10_move_X10_noSpot
set_option maxRecDepth 20000 in
theorem ggX10_move_X10_isWatch : GoodIn wsX10_move wsX10_isWatch := goodIn_r _ [18, 19, 8, 9, 5, 10] rfl (by decide +kernel)
set_option maxRecDepth 20000 in
theorem gX10_move_X10_isWatch : GoodIn wsX10_move (va_wsS RX10 181 yX10_isWatch wsX10_isWatch) := goodIn_app (goodIn_of _ (by decide +kernel)) ggX10_move_X10_isWatch
set_option maxRecDepth 20000 in
theorem ggX10_move_X10_layMove : GoodIn wsX10_move wsX10_layMove := goodIn_r _ [23, 24, 25, 26, 27, 28, 29, 30, 31, 32, 33, 34, 35, 36, 37, 38, 39, 40, 41, 42, 43, 44, 45, 46, 47, 48, 49, 50, 51, 52, 53, 54, 55, 56, 57, 58, 59, 60, 61, 62] rfl (by decide +kernel)
set_option maxRecDepth 20000 in
theorem gX10_move_X10_layMove : GoodIn wsX10_move (wsV RX10 184 RX10 yX10_layMove wsX10_layMove) := goodIn_app (goodIn_of _ (by decide +kernel)) ggX10_move_X10_layMove
theorem dX10_move_0 : decode cX10_move 0 = .ok (.aload_n 0, 1) := by decide +kernel
theorem dX10_move_1 : decode cX10_move 1 = .ok (.iload_n 1, 1) := by decide +kernel
theorem dX10_move_2 : decode cX10_move 2 = .ok (.invokevirtual 172, 3) := by decide +kernel
theorem dX10_move_5 : decode cX10_move 5 = .ok (.ifCond .ne 11, 3) := by decide +kernel
theorem dX10_move_8 : decode cX10_move 8 = .ok (.aload_n 0, 1) := by decide +kernel
theorem dX10_move_9 : decode cX10_move 9 = .ok (.iload_n 3, 1) := by decide +kernel
theorem dX10_move_10 : decode cX10_move 10 = .ok (.invokevirtual 169, 3) := by decide +kernel
theorem dX10_move_13 : decode cX10_move 13 = .ok (.ifCond .eq 5, 3) := by decide +kernel
theorem dX10_move_16 : decode cX10_move 16 = .ok (.iconst (-1), 1) := by decide +kernel
theorem dX10_move_17 : decode cX10_move 17 = .ok (.ireturn, 1) := by decide +kernel
theorem dX10_move_18 : decode cX10_move 18 = .ok (.iload_n 2, 1) := by decide +kernel
theorem dX10_move_19 : decode cX10_move 19 = .ok (.invokestatic 181, 3) := by decide +kernel
theorem dX10_move_22 : decode cX10_move 22 = .ok (.ifCond .ne 6, 3) := by decide +kernel
theorem dX10_move_25 : decode cX10_move 25 = .ok (.bipush (-2), 2) := by decide +kernel
theorem dX10_move_27 : decode cX10_move 27 = .ok (.ireturn, 1) := by decide +kernel
theorem dX10_move_28 : decode cX10_move 28 = .ok (.aload_n 0, 1) := by decide +kernel
theorem dX10_move_29 : decode cX10_move 29 = .ok (.getfield 161, 3) := by decide +kernel
theorem dX10_move_32 : decode cX10_move 32 = .ok (.bipush 8, 2) := by decide +kernel
theorem dX10_move_34 : decode cX10_move 34 = .ok (.if_icmp .ne 6, 3) := by decide +kernel
theorem dX10_move_37 : decode cX10_move 37 = .ok (.bipush (-4), 2) := by decide +kernel
theorem dX10_move_39 : decode cX10_move 39 = .ok (.ireturn, 1) := by decide +kernel
theorem dX10_move_40 : decode cX10_move 40 = .ok (.aload_n 0, 1) := by decide +kernel
theorem dX10_move_41 : decode cX10_move 41 = .ok (.aload_n 0, 1) := by decide +kernel
theorem dX10_move_42 : decode cX10_move 42 = .ok (.getfield 161, 3) := by decide +kernel
theorem dX10_move_45 : decode cX10_move 45 = .ok (.iload_n 1, 1) := by decide +kernel
theorem dX10_move_46 : decode cX10_move 46 = .ok (.iload_n 2, 1) := by decide +kernel
theorem dX10_move_47 : decode cX10_move 47 = .ok (.iload_n 3, 1) := by decide +kernel
theorem dX10_move_48 : decode cX10_move 48 = .ok (.invokevirtual 184, 3) := by decide +kernel
theorem dX10_move_51 : decode cX10_move 51 = .ok (.aload_n 0, 1) := by decide +kernel
theorem dX10_move_52 : decode cX10_move 52 = .ok (.dup, 1) := by decide +kernel
theorem dX10_move_53 : decode cX10_move 53 = .ok (.getfield 161, 3) := by decide +kernel
theorem dX10_move_56 : decode cX10_move 56 = .ok (.iconst 1, 1) := by decide +kernel
theorem dX10_move_57 : decode cX10_move 57 = .ok (.iadd, 1) := by decide +kernel
theorem dX10_move_58 : decode cX10_move 58 = .ok (.putfield 161, 3) := by decide +kernel
theorem dX10_move_61 : decode cX10_move 61 = .ok (.aload_n 0, 1) := by decide +kernel
theorem dX10_move_62 : decode cX10_move 62 = .ok (.getfield 161, 3) := by decide +kernel
theorem dX10_move_65 : decode cX10_move 65 = .ok (.iconst 1, 1) := by decide +kernel
theorem dX10_move_66 : decode cX10_move 66 = .ok (.isub, 1) := by decide +kernel
theorem dX10_move_67 : decode cX10_move 67 = .ok (.ireturn, 1) := by decide +kernel
set_option maxRecDepth 20000 in
theorem ggX10_undo_X10_in : GoodIn wsX10_undo wsX10_in := goodIn_r _ [5] rfl (by decide +kernel)
set_option maxRecDepth 20000 in
theorem gX10_undo_X10_in : GoodIn wsX10_undo (va_wsS RX10 101 yX10_in wsX10_in) := goodIn_app (goodIn_of _ (by decide +kernel)) ggX10_undo_X10_in
theorem dX10_undo_0 : decode cX10_undo 0 = .ok (.iload_n 1, 1) := by decide +kernel
theorem dX10_undo_1 : decode cX10_undo 1 = .ok (.i2l, 1) := by decide +kernel
theorem dX10_undo_2 : decode cX10_undo 2 = .ok (.lconst 0, 1) := by decide +kernel
theorem dX10_undo_3 : decode cX10_undo 3 = .ok (.aload_n 0, 1) := by decide +kernel
theorem dX10_undo_4 : decode cX10_undo 4 = .ok (.getfield 161, 3) := by decide +kernel
theorem dX10_undo_7 : decode cX10_undo 7 = .ok (.i2l, 1) := by decide +kernel
theorem dX10_undo_8 : decode cX10_undo 8 = .ok (.invokestatic 101, 3) := by decide +kernel
theorem dX10_undo_11 : decode cX10_undo 11 = .ok (.ifCond .ne 6, 3) := by decide +kernel
theorem dX10_undo_14 : decode cX10_undo 14 = .ok (.bipush (-2), 2) := by decide +kernel
theorem dX10_undo_16 : decode cX10_undo 16 = .ok (.ireturn, 1) := by decide +kernel
theorem dX10_undo_17 : decode cX10_undo 17 = .ok (.aload_n 0, 1) := by decide +kernel
theorem dX10_undo_18 : decode cX10_undo 18 = .ok (.dup, 1) := by decide +kernel
theorem dX10_undo_19 : decode cX10_undo 19 = .ok (.getfield 161, 3) := by decide +kernel
theorem dX10_undo_22 : decode cX10_undo 22 = .ok (.iload_n 1, 1) := by decide +kernel
theorem dX10_undo_23 : decode cX10_undo 23 = .ok (.isub, 1) := by decide +kernel
theorem dX10_undo_24 : decode cX10_undo 24 = .ok (.putfield 161, 3) := by decide +kernel
theorem dX10_undo_27 : decode cX10_undo 27 = .ok (.aload_n 0, 1) := by decide +kernel
theorem dX10_undo_28 : decode cX10_undo 28 = .ok (.getfield 161, 3) := by decide +kernel
theorem dX10_undo_31 : decode cX10_undo 31 = .ok (.ireturn, 1) := by decide +kernel
theorem dX10_standsIn_0 : decode cX10_standsIn 0 = .ok (.aload_n 0, 1) := by decide +kernel
theorem dX10_standsIn_1 : decode cX10_standsIn 1 = .ok (.getfield 19, 3) := by decide +kernel
theorem dX10_standsIn_4 : decode cX10_standsIn 4 = .ok (.iload_n 1, 1) := by decide +kernel
theorem dX10_standsIn_5 : decode cX10_standsIn 5 = .ok (.iaload, 1) := by decide +kernel
theorem dX10_standsIn_6 : decode cX10_standsIn 6 = .ok (.istore_n 3, 1) := by decide +kernel
theorem dX10_standsIn_7 : decode cX10_standsIn 7 = .ok (.iconst (-1), 1) := by decide +kernel
theorem dX10_standsIn_8 : decode cX10_standsIn 8 = .ok (.istore 4, 2) := by decide +kernel
theorem dX10_standsIn_10 : decode cX10_standsIn 10 = .ok (.iconst 0, 1) := by decide +kernel
theorem dX10_standsIn_11 : decode cX10_standsIn 11 = .ok (.istore 5, 2) := by decide +kernel
theorem dX10_standsIn_13 : decode cX10_standsIn 13 = .ok (.iload 5, 2) := by decide +kernel
theorem dX10_standsIn_15 : decode cX10_standsIn 15 = .ok (.aload_n 0, 1) := by decide +kernel
theorem dX10_standsIn_16 : decode cX10_standsIn 16 = .ok (.getfield 161, 3) := by decide +kernel
theorem dX10_standsIn_19 : decode cX10_standsIn 19 = .ok (.if_icmp .ge 60, 3) := by decide +kernel
theorem dX10_standsIn_22 : decode cX10_standsIn 22 = .ok (.aload_n 0, 1) := by decide +kernel
theorem dX10_standsIn_23 : decode cX10_standsIn 23 = .ok (.getfield 37, 3) := by decide +kernel
theorem dX10_standsIn_26 : decode cX10_standsIn 26 = .ok (.iload 5, 2) := by decide +kernel
theorem dX10_standsIn_28 : decode cX10_standsIn 28 = .ok (.iaload, 1) := by decide +kernel
theorem dX10_standsIn_29 : decode cX10_standsIn 29 = .ok (.iload_n 1, 1) := by decide +kernel
theorem dX10_standsIn_30 : decode cX10_standsIn 30 = .ok (.if_icmp .ne 43, 3) := by decide +kernel
theorem dX10_standsIn_33 : decode cX10_standsIn 33 = .ok (.aload_n 0, 1) := by decide +kernel
theorem dX10_standsIn_34 : decode cX10_standsIn 34 = .ok (.getfield 40, 3) := by decide +kernel
theorem dX10_standsIn_37 : decode cX10_standsIn 37 = .ok (.iload 5, 2) := by decide +kernel
theorem dX10_standsIn_39 : decode cX10_standsIn 39 = .ok (.iaload, 1) := by decide +kernel
theorem dX10_standsIn_40 : decode cX10_standsIn 40 = .ok (.iload_n 2, 1) := by decide +kernel
theorem dX10_standsIn_41 : decode cX10_standsIn 41 = .ok (.if_icmp .gt 32, 3) := by decide +kernel
theorem dX10_standsIn_44 : decode cX10_standsIn 44 = .ok (.aload_n 0, 1) := by decide +kernel
theorem dX10_standsIn_45 : decode cX10_standsIn 45 = .ok (.getfield 40, 3) := by decide +kernel
theorem dX10_standsIn_48 : decode cX10_standsIn 48 = .ok (.iload 5, 2) := by decide +kernel
theorem dX10_standsIn_50 : decode cX10_standsIn 50 = .ok (.iaload, 1) := by decide +kernel
theorem dX10_standsIn_51 : decode cX10_standsIn 51 = .ok (.iload 4, 2) := by decide +kernel
theorem dX10_standsIn_53 : decode cX10_standsIn 53 = .ok (.if_icmp .lt 20, 3) := by decide +kernel
theorem dX10_standsIn_56 : decode cX10_standsIn 56 = .ok (.aload_n 0, 1) := by decide +kernel
theorem dX10_standsIn_57 : decode cX10_standsIn 57 = .ok (.getfield 40, 3) := by decide +kernel
theorem dX10_standsIn_60 : decode cX10_standsIn 60 = .ok (.iload 5, 2) := by decide +kernel
theorem dX10_standsIn_62 : decode cX10_standsIn 62 = .ok (.iaload, 1) := by decide +kernel
theorem dX10_standsIn_63 : decode cX10_standsIn 63 = .ok (.istore 4, 2) := by decide +kernel
theorem dX10_standsIn_65 : decode cX10_standsIn 65 = .ok (.aload_n 0, 1) := by decide +kernel
theorem dX10_standsIn_66 : decode cX10_standsIn 66 = .ok (.getfield 43, 3) := by decide +kernel
theorem dX10_standsIn_69 : decode cX10_standsIn 69 = .ok (.iload 5, 2) := by decide +kernel
theorem dX10_standsIn_71 : decode cX10_standsIn 71 = .ok (.iaload, 1) := by decide +kernel
theorem dX10_standsIn_72 : decode cX10_standsIn 72 = .ok (.istore_n 3, 1) := by decide +kernel
theorem dX10_standsIn_73 : decode cX10_standsIn 73 = .ok (.iinc 5 1, 3) := by decide +kernel
theorem dX10_standsIn_76 : decode cX10_standsIn 76 = .ok (.goto (-63), 3) := by decide +kernel
theorem dX10_standsIn_79 : decode cX10_standsIn 79 = .ok (.iload_n 3, 1) := by decide +kernel
theorem dX10_standsIn_80 : decode cX10_standsIn 80 = .ok (.ireturn, 1) := by decide +kernel
theorem dX10_byDay_0 : decode cX10_byDay 0 = .ok (.aload_n 0, 1) := by decide +kernel
theorem dX10_byDay_1 : decode cX10_byDay 1 = .ok (.getfield 7, 3) := by decide +kernel
theorem dX10_byDay_4 : decode cX10_byDay 4 = .ok (.iload_n 2, 1) := by decide +kernel
theorem dX10_byDay_5 : decode cX10_byDay 5 = .ok (.bipush 6, 2) := by decide +kernel
theorem dX10_byDay_7 : decode cX10_byDay 7 = .ok (.irem, 1) := by decide +kernel
theorem dX10_byDay_8 : decode cX10_byDay 8 = .ok (.iaload, 1) := by decide +kernel
theorem dX10_byDay_9 : decode cX10_byDay 9 = .ok (.aload_n 0, 1) := by decide +kernel
theorem dX10_byDay_10 : decode cX10_byDay 10 = .ok (.getfield 13, 3) := by decide +kernel
theorem dX10_byDay_13 : decode cX10_byDay 13 = .ok (.iload_n 1, 1) := by decide +kernel
theorem dX10_byDay_14 : decode cX10_byDay 14 = .ok (.iaload, 1) := by decide +kernel
theorem dX10_byDay_15 : decode cX10_byDay 15 = .ok (.isub, 1) := by decide +kernel
theorem dX10_byDay_16 : decode cX10_byDay 16 = .ok (.aload_n 0, 1) := by decide +kernel
theorem dX10_byDay_17 : decode cX10_byDay 17 = .ok (.getfield 22, 3) := by decide +kernel
theorem dX10_byDay_20 : decode cX10_byDay 20 = .ok (.iload_n 2, 1) := by decide +kernel
theorem dX10_byDay_21 : decode cX10_byDay 21 = .ok (.bipush 6, 2) := by decide +kernel
theorem dX10_byDay_23 : decode cX10_byDay 23 = .ok (.idiv, 1) := by decide +kernel
theorem dX10_byDay_24 : decode cX10_byDay 24 = .ok (.iaload, 1) := by decide +kernel
theorem dX10_byDay_25 : decode cX10_byDay 25 = .ok (.isub, 1) := by decide +kernel
theorem dX10_byDay_26 : decode cX10_byDay 26 = .ok (.istore_n 3, 1) := by decide +kernel
theorem dX10_byDay_27 : decode cX10_byDay 27 = .ok (.iload_n 3, 1) := by decide +kernel
theorem dX10_byDay_28 : decode cX10_byDay 28 = .ok (.ifCond .ge 7, 3) := by decide +kernel
theorem dX10_byDay_31 : decode cX10_byDay 31 = .ok (.iconst 0, 1) := by decide +kernel
theorem dX10_byDay_32 : decode cX10_byDay 32 = .ok (.goto 4, 3) := by decide +kernel
theorem dX10_byDay_35 : decode cX10_byDay 35 = .ok (.iload_n 3, 1) := by decide +kernel
theorem dX10_byDay_36 : decode cX10_byDay 36 = .ok (.ireturn, 1) := by decide +kernel
theorem dX10_givenBy_0 : decode cX10_givenBy 0 = .ok (.aload_n 0, 1) := by decide +kernel
theorem dX10_givenBy_1 : decode cX10_givenBy 1 = .ok (.getfield 16, 3) := by decide +kernel
theorem dX10_givenBy_4 : decode cX10_givenBy 4 = .ok (.iload_n 1, 1) := by decide +kernel
theorem dX10_givenBy_5 : decode cX10_givenBy 5 = .ok (.iaload, 1) := by decide +kernel
theorem dX10_givenBy_6 : decode cX10_givenBy 6 = .ok (.ifCond .eq 7, 3) := by decide +kernel
theorem dX10_givenBy_9 : decode cX10_givenBy 9 = .ok (.iload_n 2, 1) := by decide +kernel
theorem dX10_givenBy_10 : decode cX10_givenBy 10 = .ok (.ifCond .ne 7, 3) := by decide +kernel
theorem dX10_givenBy_13 : decode cX10_givenBy 13 = .ok (.iload_n 2, 1) := by decide +kernel
theorem dX10_givenBy_14 : decode cX10_givenBy 14 = .ok (.goto 6, 3) := by decide +kernel
theorem dX10_givenBy_17 : decode cX10_givenBy 17 = .ok (.iload_n 2, 1) := by decide +kernel
theorem dX10_givenBy_18 : decode cX10_givenBy 18 = .ok (.iconst 1, 1) := by decide +kernel
theorem dX10_givenBy_19 : decode cX10_givenBy 19 = .ok (.iadd, 1) := by decide +kernel
theorem dX10_givenBy_20 : decode cX10_givenBy 20 = .ok (.istore_n 3, 1) := by decide +kernel
theorem dX10_givenBy_21 : decode cX10_givenBy 21 = .ok (.aload_n 0, 1) := by decide +kernel
theorem dX10_givenBy_22 : decode cX10_givenBy 22 = .ok (.getfield 16, 3) := by decide +kernel
theorem dX10_givenBy_25 : decode cX10_givenBy 25 = .ok (.iload_n 1, 1) := by decide +kernel
theorem dX10_givenBy_26 : decode cX10_givenBy 26 = .ok (.iaload, 1) := by decide +kernel
theorem dX10_givenBy_27 : decode cX10_givenBy 27 = .ok (.iconst 2, 1) := by decide +kernel
theorem dX10_givenBy_28 : decode cX10_givenBy 28 = .ok (.if_icmp .ne 9, 3) := by decide +kernel
theorem dX10_givenBy_31 : decode cX10_givenBy 31 = .ok (.iconst 2, 1) := by decide +kernel
theorem dX10_givenBy_32 : decode cX10_givenBy 32 = .ok (.iload_n 3, 1) := by decide +kernel
theorem dX10_givenBy_33 : decode cX10_givenBy 33 = .ok (.imul, 1) := by decide +kernel
theorem dX10_givenBy_34 : decode cX10_givenBy 34 = .ok (.goto 4, 3) := by decide +kernel
theorem dX10_givenBy_37 : decode cX10_givenBy 37 = .ok (.iload_n 3, 1) := by decide +kernel
theorem dX10_givenBy_38 : decode cX10_givenBy 38 = .ok (.istore_n 3, 1) := by decide +kernel
theorem dX10_givenBy_39 : decode cX10_givenBy 39 = .ok (.iload_n 3, 1) := by decide +kernel
theorem dX10_givenBy_40 : decode cX10_givenBy 40 = .ok (.bipush 99, 2) := by decide +kernel
theorem dX10_givenBy_42 : decode cX10_givenBy 42 = .ok (.if_icmp .le 8, 3) := by decide +kernel
theorem dX10_givenBy_45 : decode cX10_givenBy 45 = .ok (.bipush 99, 2) := by decide +kernel
theorem dX10_givenBy_47 : decode cX10_givenBy 47 = .ok (.goto 4, 3) := by decide +kernel
theorem dX10_givenBy_50 : decode cX10_givenBy 50 = .ok (.iload_n 3, 1) := by decide +kernel
theorem dX10_givenBy_51 : decode cX10_givenBy 51 = .ok (.ireturn, 1) := by decide +kernel
set_option maxRecDepth 20000 in
theorem ggX10_allGiven_X10_standsIn : GoodIn wsX10_allGiven wsX10_standsIn := goodIn_r _ [8, 9, 10, 11, 12, 13, 14, 15, 16, 17, 18, 19, 20, 21, 22, 23, 24, 25, 26, 27, 28, 29, 30, 31, 32, 33, 34, 35, 36, 37, 38, 39, 40, 41, 42, 43, 44, 45, 46, 47, 48, 49] rfl (by decide +kernel)
set_option maxRecDepth 20000 in
theorem gX10_allGiven_X10_standsIn : GoodIn wsX10_allGiven (wsV RX10 188 RX10 yX10_standsIn wsX10_standsIn) := goodIn_app (goodIn_of _ (by decide +kernel)) ggX10_allGiven_X10_standsIn
theorem dX10_allGiven_0 : decode cX10_allGiven 0 = .ok (.iconst 0, 1) := by decide +kernel
theorem dX10_allGiven_1 : decode cX10_allGiven 1 = .ok (.istore 4, 2) := by decide +kernel
theorem dX10_allGiven_3 : decode cX10_allGiven 3 = .ok (.iconst 0, 1) := by decide +kernel
theorem dX10_allGiven_4 : decode cX10_allGiven 4 = .ok (.istore 5, 2) := by decide +kernel
theorem dX10_allGiven_6 : decode cX10_allGiven 6 = .ok (.iload 5, 2) := by decide +kernel
theorem dX10_allGiven_8 : decode cX10_allGiven 8 = .ok (.aload_n 0, 1) := by decide +kernel
theorem dX10_allGiven_9 : decode cX10_allGiven 9 = .ok (.getfield 105, 3) := by decide +kernel
theorem dX10_allGiven_12 : decode cX10_allGiven 12 = .ok (.if_icmp .ge 56, 3) := by decide +kernel
theorem dX10_allGiven_15 : decode cX10_allGiven 15 = .ok (.iload 4, 2) := by decide +kernel
theorem dX10_allGiven_17 : decode cX10_allGiven 17 = .ok (.iload 5, 2) := by decide +kernel
theorem dX10_allGiven_19 : decode cX10_allGiven 19 = .ok (.iload_n 3, 1) := by decide +kernel
theorem dX10_allGiven_20 : decode cX10_allGiven 20 = .ok (.if_icmp .eq 38, 3) := by decide +kernel
theorem dX10_allGiven_23 : decode cX10_allGiven 23 = .ok (.iload 5, 2) := by decide +kernel
theorem dX10_allGiven_25 : decode cX10_allGiven 25 = .ok (.aload_n 0, 1) := by decide +kernel
theorem dX10_allGiven_26 : decode cX10_allGiven 26 = .ok (.getfield 85, 3) := by decide +kernel
theorem dX10_allGiven_29 : decode cX10_allGiven 29 = .ok (.if_icmp .eq 29, 3) := by decide +kernel
theorem dX10_allGiven_32 : decode cX10_allGiven 32 = .ok (.aload_n 0, 1) := by decide +kernel
theorem dX10_allGiven_33 : decode cX10_allGiven 33 = .ok (.iload 5, 2) := by decide +kernel
theorem dX10_allGiven_35 : decode cX10_allGiven 35 = .ok (.iload_n 2, 1) := by decide +kernel
theorem dX10_allGiven_36 : decode cX10_allGiven 36 = .ok (.invokevirtual 188, 3) := by decide +kernel
theorem dX10_allGiven_39 : decode cX10_allGiven 39 = .ok (.iload_n 1, 1) := by decide +kernel
theorem dX10_allGiven_40 : decode cX10_allGiven 40 = .ok (.if_icmp .ne 18, 3) := by decide +kernel
theorem dX10_allGiven_43 : decode cX10_allGiven 43 = .ok (.aload_n 0, 1) := by decide +kernel
theorem dX10_allGiven_44 : decode cX10_allGiven 44 = .ok (.getfield 49, 3) := by decide +kernel
theorem dX10_allGiven_47 : decode cX10_allGiven 47 = .ok (.bipush 24, 2) := by decide +kernel
theorem dX10_allGiven_49 : decode cX10_allGiven 49 = .ok (.iload 5, 2) := by decide +kernel
theorem dX10_allGiven_51 : decode cX10_allGiven 51 = .ok (.imul, 1) := by decide +kernel
theorem dX10_allGiven_52 : decode cX10_allGiven 52 = .ok (.iload_n 2, 1) := by decide +kernel
theorem dX10_allGiven_53 : decode cX10_allGiven 53 = .ok (.iadd, 1) := by decide +kernel
theorem dX10_allGiven_54 : decode cX10_allGiven 54 = .ok (.iaload, 1) := by decide +kernel
theorem dX10_allGiven_55 : decode cX10_allGiven 55 = .ok (.goto 4, 3) := by decide +kernel
theorem dX10_allGiven_58 : decode cX10_allGiven 58 = .ok (.iconst 0, 1) := by decide +kernel
theorem dX10_allGiven_59 : decode cX10_allGiven 59 = .ok (.iadd, 1) := by decide +kernel
theorem dX10_allGiven_60 : decode cX10_allGiven 60 = .ok (.istore 4, 2) := by decide +kernel
theorem dX10_allGiven_62 : decode cX10_allGiven 62 = .ok (.iinc 5 1, 3) := by decide +kernel
theorem dX10_allGiven_65 : decode cX10_allGiven 65 = .ok (.goto (-59), 3) := by decide +kernel
theorem dX10_allGiven_68 : decode cX10_allGiven 68 = .ok (.iload 4, 2) := by decide +kernel
theorem dX10_allGiven_70 : decode cX10_allGiven 70 = .ok (.ireturn, 1) := by decide +kernel
set_option maxRecDepth 20000 in
theorem ggX10_goTo_X10_givenBy : GoodIn wsX10_goTo wsX10_givenBy := goodIn_r _ [9, 10, 32, 33, 34, 35, 36, 37, 38, 39, 40, 41, 42, 43, 44, 45, 46, 47, 48, 49, 50, 51, 52, 53, 54, 55, 56, 57, 58, 59, 60, 61, 62, 63, 64, 65, 66, 67] rfl (by decide +kernel)
set_option maxRecDepth 20000 in
theorem gX10_goTo_X10_givenBy : GoodIn wsX10_goTo (wsV RX10 191 RX10 yX10_givenBy wsX10_givenBy) := goodIn_app (goodIn_of _ (by decide +kernel)) ggX10_goTo_X10_givenBy
set_option maxRecDepth 20000 in
theorem ggX10_goTo_X10_standsIn : GoodIn wsX10_goTo wsX10_standsIn := goodIn_r _ [14, 15, 16, 17, 18, 19, 32, 33, 34, 35, 36, 37, 38, 39, 40, 41, 42, 43, 44, 45, 46, 47, 48, 49, 50, 51, 52, 53, 54, 55, 56, 57, 58, 59, 60, 61, 62, 63, 64, 65, 66, 67] rfl (by decide +kernel)
set_option maxRecDepth 20000 in
theorem gX10_goTo_X10_standsIn : GoodIn wsX10_goTo (wsV RX10 188 RX10 yX10_standsIn wsX10_standsIn) := goodIn_app (goodIn_of _ (by decide +kernel)) ggX10_goTo_X10_standsIn
set_option maxRecDepth 20000 in
theorem ggX10_goTo_X10_byDay : GoodIn wsX10_goTo wsX10_byDay := goodIn_r _ [23, 24, 25, 26, 32, 33, 34, 35, 36, 37, 38, 39, 40, 41, 42, 43, 44, 45, 46, 47, 48, 49, 50, 51, 52, 53, 54, 55, 56, 57, 58, 59, 60, 61, 62, 63, 64, 65, 66, 67] rfl (by decide +kernel)
set_option maxRecDepth 20000 in
theorem gX10_goTo_X10_byDay : GoodIn wsX10_goTo (wsV RX10 194 RX10 yX10_byDay wsX10_byDay) := goodIn_app (goodIn_of _ (by decide +kernel)) ggX10_goTo_X10_byDay
set_option maxRecDepth 20000 in
theorem ggX10_goTo_X10_allGiven : GoodIn wsX10_goTo wsX10_allGiven := goodIn_r _ [30, 1, 31, 2, 11, 12, 13, 8, 14, 15, 16, 17, 18, 19, 32, 33, 34, 35, 36, 37, 38, 39, 40, 41, 42, 43, 44, 45, 46, 47, 48, 49, 50, 51, 52, 53, 54, 55, 56, 57, 58, 59, 60, 61, 62, 63, 64, 65, 66, 67] rfl (by decide +kernel)
set_option maxRecDepth 20000 in
theorem gX10_goTo_X10_allGiven : GoodIn wsX10_goTo (wsV RX10 197 RX10 yX10_allGiven wsX10_allGiven) := goodIn_app (goodIn_of _ (by decide +kernel)) ggX10_goTo_X10_allGiven
theorem dX10_goTo_0 : decode cX10_goTo 0 = .ok (.iconst 0, 1) := by decide +kernel
theorem dX10_goTo_1 : decode cX10_goTo 1 = .ok (.istore_n 2, 1) := by decide +kernel
theorem dX10_goTo_2 : decode cX10_goTo 2 = .ok (.iload_n 2, 1) := by decide +kernel
theorem dX10_goTo_3 : decode cX10_goTo 3 = .ok (.iload_n 1, 1) := by decide +kernel
theorem dX10_goTo_4 : decode cX10_goTo 4 = .ok (.if_icmp .gt 138, 3) := by decide +kernel
theorem dX10_goTo_7 : decode cX10_goTo 7 = .ok (.iconst 0, 1) := by decide +kernel
theorem dX10_goTo_8 : decode cX10_goTo 8 = .ok (.istore_n 3, 1) := by decide +kernel
theorem dX10_goTo_9 : decode cX10_goTo 9 = .ok (.iload_n 3, 1) := by decide +kernel
theorem dX10_goTo_10 : decode cX10_goTo 10 = .ok (.aload_n 0, 1) := by decide +kernel
theorem dX10_goTo_11 : decode cX10_goTo 11 = .ok (.getfield 105, 3) := by decide +kernel
theorem dX10_goTo_14 : decode cX10_goTo 14 = .ok (.if_icmp .ge 53, 3) := by decide +kernel
theorem dX10_goTo_17 : decode cX10_goTo 17 = .ok (.aload_n 0, 1) := by decide +kernel
theorem dX10_goTo_18 : decode cX10_goTo 18 = .ok (.getfield 49, 3) := by decide +kernel
theorem dX10_goTo_21 : decode cX10_goTo 21 = .ok (.bipush 24, 2) := by decide +kernel
theorem dX10_goTo_23 : decode cX10_goTo 23 = .ok (.iload_n 3, 1) := by decide +kernel
theorem dX10_goTo_24 : decode cX10_goTo 24 = .ok (.imul, 1) := by decide +kernel
theorem dX10_goTo_25 : decode cX10_goTo 25 = .ok (.iload_n 2, 1) := by decide +kernel
theorem dX10_goTo_26 : decode cX10_goTo 26 = .ok (.iadd, 1) := by decide +kernel
theorem dX10_goTo_27 : decode cX10_goTo 27 = .ok (.iload_n 2, 1) := by decide +kernel
theorem dX10_goTo_28 : decode cX10_goTo 28 = .ok (.aload_n 0, 1) := by decide +kernel
theorem dX10_goTo_29 : decode cX10_goTo 29 = .ok (.getfield 158, 3) := by decide +kernel
theorem dX10_goTo_32 : decode cX10_goTo 32 = .ok (.if_icmp .ge 7, 3) := by decide +kernel
theorem dX10_goTo_35 : decode cX10_goTo 35 = .ok (.iconst 0, 1) := by decide +kernel
theorem dX10_goTo_36 : decode cX10_goTo 36 = .ok (.goto 24, 3) := by decide +kernel
theorem dX10_goTo_39 : decode cX10_goTo 39 = .ok (.aload_n 0, 1) := by decide +kernel
theorem dX10_goTo_40 : decode cX10_goTo 40 = .ok (.iload_n 3, 1) := by decide +kernel
theorem dX10_goTo_41 : decode cX10_goTo 41 = .ok (.aload_n 0, 1) := by decide +kernel
theorem dX10_goTo_42 : decode cX10_goTo 42 = .ok (.getfield 46, 3) := by decide +kernel
theorem dX10_goTo_45 : decode cX10_goTo 45 = .ok (.bipush 24, 2) := by decide +kernel
theorem dX10_goTo_47 : decode cX10_goTo 47 = .ok (.iload_n 3, 1) := by decide +kernel
theorem dX10_goTo_48 : decode cX10_goTo 48 = .ok (.imul, 1) := by decide +kernel
theorem dX10_goTo_49 : decode cX10_goTo 49 = .ok (.iload_n 2, 1) := by decide +kernel
theorem dX10_goTo_50 : decode cX10_goTo 50 = .ok (.iadd, 1) := by decide +kernel
theorem dX10_goTo_51 : decode cX10_goTo 51 = .ok (.aload_n 0, 1) := by decide +kernel
theorem dX10_goTo_52 : decode cX10_goTo 52 = .ok (.getfield 158, 3) := by decide +kernel
theorem dX10_goTo_55 : decode cX10_goTo 55 = .ok (.isub, 1) := by decide +kernel
theorem dX10_goTo_56 : decode cX10_goTo 56 = .ok (.iaload, 1) := by decide +kernel
theorem dX10_goTo_57 : decode cX10_goTo 57 = .ok (.invokevirtual 191, 3) := by decide +kernel
theorem dX10_goTo_60 : decode cX10_goTo 60 = .ok (.iastore, 1) := by decide +kernel
theorem dX10_goTo_61 : decode cX10_goTo 61 = .ok (.iinc 3 1, 3) := by decide +kernel
theorem dX10_goTo_64 : decode cX10_goTo 64 = .ok (.goto (-55), 3) := by decide +kernel
theorem dX10_goTo_67 : decode cX10_goTo 67 = .ok (.iconst 0, 1) := by decide +kernel
theorem dX10_goTo_68 : decode cX10_goTo 68 = .ok (.istore_n 3, 1) := by decide +kernel
theorem dX10_goTo_69 : decode cX10_goTo 69 = .ok (.iload_n 3, 1) := by decide +kernel
theorem dX10_goTo_70 : decode cX10_goTo 70 = .ok (.aload_n 0, 1) := by decide +kernel
theorem dX10_goTo_71 : decode cX10_goTo 71 = .ok (.getfield 105, 3) := by decide +kernel
theorem dX10_goTo_74 : decode cX10_goTo 74 = .ok (.if_icmp .ge 62, 3) := by decide +kernel
theorem dX10_goTo_77 : decode cX10_goTo 77 = .ok (.aload_n 0, 1) := by decide +kernel
theorem dX10_goTo_78 : decode cX10_goTo 78 = .ok (.iload_n 3, 1) := by decide +kernel
theorem dX10_goTo_79 : decode cX10_goTo 79 = .ok (.iload_n 2, 1) := by decide +kernel
theorem dX10_goTo_80 : decode cX10_goTo 80 = .ok (.invokevirtual 188, 3) := by decide +kernel
theorem dX10_goTo_83 : decode cX10_goTo 83 = .ok (.istore 4, 2) := by decide +kernel
theorem dX10_goTo_85 : decode cX10_goTo 85 = .ok (.aload_n 0, 1) := by decide +kernel
theorem dX10_goTo_86 : decode cX10_goTo 86 = .ok (.iload 4, 2) := by decide +kernel
theorem dX10_goTo_88 : decode cX10_goTo 88 = .ok (.iload_n 2, 1) := by decide +kernel
theorem dX10_goTo_89 : decode cX10_goTo 89 = .ok (.invokevirtual 194, 3) := by decide +kernel
theorem dX10_goTo_92 : decode cX10_goTo 92 = .ok (.aload_n 0, 1) := by decide +kernel
theorem dX10_goTo_93 : decode cX10_goTo 93 = .ok (.iload 4, 2) := by decide +kernel
theorem dX10_goTo_95 : decode cX10_goTo 95 = .ok (.iload_n 2, 1) := by decide +kernel
theorem dX10_goTo_96 : decode cX10_goTo 96 = .ok (.iload_n 3, 1) := by decide +kernel
theorem dX10_goTo_97 : decode cX10_goTo 97 = .ok (.invokevirtual 197, 3) := by decide +kernel
theorem dX10_goTo_100 : decode cX10_goTo 100 = .ok (.iadd, 1) := by decide +kernel
theorem dX10_goTo_101 : decode cX10_goTo 101 = .ok (.istore 5, 2) := by decide +kernel
theorem dX10_goTo_103 : decode cX10_goTo 103 = .ok (.aload_n 0, 1) := by decide +kernel
theorem dX10_goTo_104 : decode cX10_goTo 104 = .ok (.getfield 46, 3) := by decide +kernel
theorem dX10_goTo_107 : decode cX10_goTo 107 = .ok (.bipush 24, 2) := by decide +kernel
theorem dX10_goTo_109 : decode cX10_goTo 109 = .ok (.iload_n 3, 1) := by decide +kernel
theorem dX10_goTo_110 : decode cX10_goTo 110 = .ok (.imul, 1) := by decide +kernel
theorem dX10_goTo_111 : decode cX10_goTo 111 = .ok (.iload_n 2, 1) := by decide +kernel
theorem dX10_goTo_112 : decode cX10_goTo 112 = .ok (.iadd, 1) := by decide +kernel
theorem dX10_goTo_113 : decode cX10_goTo 113 = .ok (.iload 5, 2) := by decide +kernel
theorem dX10_goTo_115 : decode cX10_goTo 115 = .ok (.sipush 999, 3) := by decide +kernel
theorem dX10_goTo_118 : decode cX10_goTo 118 = .ok (.if_icmp .le 9, 3) := by decide +kernel
theorem dX10_goTo_121 : decode cX10_goTo 121 = .ok (.sipush 999, 3) := by decide +kernel
theorem dX10_goTo_124 : decode cX10_goTo 124 = .ok (.goto 5, 3) := by decide +kernel
theorem dX10_goTo_127 : decode cX10_goTo 127 = .ok (.iload 5, 2) := by decide +kernel
theorem dX10_goTo_129 : decode cX10_goTo 129 = .ok (.iastore, 1) := by decide +kernel
theorem dX10_goTo_130 : decode cX10_goTo 130 = .ok (.iinc 3 1, 3) := by decide +kernel
theorem dX10_goTo_133 : decode cX10_goTo 133 = .ok (.goto (-64), 3) := by decide +kernel
theorem dX10_goTo_136 : decode cX10_goTo 136 = .ok (.iinc 2 1, 3) := by decide +kernel
theorem dX10_goTo_139 : decode cX10_goTo 139 = .ok (.goto (-137), 3) := by decide +kernel
theorem dX10_goTo_142 : decode cX10_goTo 142 = .ok (.return_, 1) := by decide +kernel
set_option maxRecDepth 20000 in
theorem ggX10_lightOf_X10_byDay : GoodIn wsX10_lightOf wsX10_byDay := goodIn_r _ [5, 6, 7, 8, 25, 26, 27, 28, 29, 30, 31, 32, 33, 34, 35, 36, 37, 38, 39, 40, 41, 42, 43, 44, 45, 46, 47, 48, 49, 50, 51, 52, 53, 54, 55, 56, 57, 58, 59, 60] rfl (by decide +kernel)
set_option maxRecDepth 20000 in
theorem gX10_lightOf_X10_byDay : GoodIn wsX10_lightOf (wsV RX10 194 RX10 yX10_byDay wsX10_byDay) := goodIn_app (goodIn_of _ (by decide +kernel)) ggX10_lightOf_X10_byDay
set_option maxRecDepth 20000 in
theorem ggX10_lightOf_X10_allGiven : GoodIn wsX10_lightOf wsX10_allGiven := goodIn_r _ [12, 13, 14, 15, 16, 17, 18, 4, 19, 20, 21, 22, 23, 24, 25, 26, 27, 28, 29, 30, 31, 32, 33, 34, 35, 36, 37, 38, 39, 40, 41, 42, 43, 44, 45, 46, 47, 48, 49, 50, 51, 52, 53, 54, 55, 56, 57, 58, 59, 60] rfl (by decide +kernel)
set_option maxRecDepth 20000 in
theorem gX10_lightOf_X10_allGiven : GoodIn wsX10_lightOf (wsV RX10 197 RX10 yX10_allGiven wsX10_allGiven) := goodIn_app (goodIn_of _ (by decide +kernel)) ggX10_lightOf_X10_allGiven
theorem dX10_lightOf_0 : decode cX10_lightOf 0 = .ok (.aload_n 0, 1) := by decide +kernel
theorem dX10_lightOf_1 : decode cX10_lightOf 1 = .ok (.iload_n 1, 1) := by decide +kernel
theorem dX10_lightOf_2 : decode cX10_lightOf 2 = .ok (.iload_n 2, 1) := by decide +kernel
theorem dX10_lightOf_3 : decode cX10_lightOf 3 = .ok (.invokevirtual 194, 3) := by decide +kernel
theorem dX10_lightOf_6 : decode cX10_lightOf 6 = .ok (.aload_n 0, 1) := by decide +kernel
theorem dX10_lightOf_7 : decode cX10_lightOf 7 = .ok (.iload_n 1, 1) := by decide +kernel
theorem dX10_lightOf_8 : decode cX10_lightOf 8 = .ok (.iload_n 2, 1) := by decide +kernel
theorem dX10_lightOf_9 : decode cX10_lightOf 9 = .ok (.bipush (-9), 2) := by decide +kernel
theorem dX10_lightOf_11 : decode cX10_lightOf 11 = .ok (.invokevirtual 197, 3) := by decide +kernel
theorem dX10_lightOf_14 : decode cX10_lightOf 14 = .ok (.iadd, 1) := by decide +kernel
theorem dX10_lightOf_15 : decode cX10_lightOf 15 = .ok (.ireturn, 1) := by decide +kernel
set_option maxRecDepth 20000 in
theorem ggX10_lightBy_X10_goTo : GoodIn wsX10_lightBy wsX10_goTo := goodIn_r _ [5, 6, 7, 8, 9, 10, 11, 12, 4, 13, 14, 15, 16, 17, 18, 19, 20, 21, 22, 23, 24, 25, 26, 27, 28, 29, 30, 31, 32, 33, 34, 35, 40, 41, 42, 43, 44, 45, 46, 47, 48, 49, 50, 51, 52, 53, 54, 55, 56, 57, 58, 59, 60, 61, 62, 63, 64, 65, 66, 67, 68, 69, 70, 71, 72, 73, 74, 75] rfl (by decide +kernel)
set_option maxRecDepth 20000 in
theorem gX10_lightBy_X10_goTo : GoodIn wsX10_lightBy (wsV RX10 200 RX10 yX10_goTo wsX10_goTo) := goodIn_app (goodIn_of _ (by decide +kernel)) ggX10_lightBy_X10_goTo
set_option maxRecDepth 20000 in
theorem ggX10_lightBy_X10_lightOf : GoodIn wsX10_lightBy wsX10_lightOf := goodIn_r _ [39, 24, 25, 26, 4, 27, 28, 29, 30, 31, 32, 33, 34, 6, 35, 7, 15, 16, 17, 18, 19, 20, 21, 22, 23, 40, 41, 42, 43, 44, 45, 46, 47, 48, 49, 50, 51, 52, 53, 54, 55, 56, 57, 58, 59, 60, 61, 62, 63, 64, 65, 66, 67, 68, 69, 70, 71, 72, 73, 74, 75] rfl (by decide +kernel)
set_option maxRecDepth 20000 in
theorem gX10_lightBy_X10_lightOf : GoodIn wsX10_lightBy (wsV RX10 204 RX10 yX10_lightOf wsX10_lightOf) := goodIn_app (goodIn_of _ (by decide +kernel)) ggX10_lightBy_X10_lightOf
theorem dX10_lightBy_0 : decode cX10_lightBy 0 = .ok (.aload_n 0, 1) := by decide +kernel
theorem dX10_lightBy_1 : decode cX10_lightBy 1 = .ok (.iload_n 2, 1) := by decide +kernel
theorem dX10_lightBy_2 : decode cX10_lightBy 2 = .ok (.invokevirtual 200, 3) := by decide +kernel
theorem dX10_lightBy_5 : decode cX10_lightBy 5 = .ok (.aload_n 0, 1) := by decide +kernel
theorem dX10_lightBy_6 : decode cX10_lightBy 6 = .ok (.iload_n 1, 1) := by decide +kernel
theorem dX10_lightBy_7 : decode cX10_lightBy 7 = .ok (.iload_n 2, 1) := by decide +kernel
theorem dX10_lightBy_8 : decode cX10_lightBy 8 = .ok (.invokevirtual 204, 3) := by decide +kernel
theorem dX10_lightBy_11 : decode cX10_lightBy 11 = .ok (.ireturn, 1) := by decide +kernel
set_option maxRecDepth 20000 in
theorem ggX10_where_X10_noLamp : GoodIn wsX10_where wsX10_noLamp := goodIn_r _ [5, 6, 7, 8, 4, 9, 23, 24, 25, 26, 27, 28, 29, 30, 31, 32, 33, 34, 35, 36, 37, 38, 39, 40, 41, 42, 43, 44, 45, 46, 47, 48, 49, 50, 51, 52, 53, 54, 55, 56, 57, 58] rfl (by decide +kernel)
set_option maxRecDepth 20000 in
theorem gX10_where_X10_noLamp : GoodIn wsX10_where (wsV RX10 172 RX10 yX10_noLamp wsX10_noLamp) := goodIn_app (goodIn_of _ (by decide +kernel)) ggX10_where_X10_noLamp
set_option maxRecDepth 20000 in
theorem ggX10_where_X10_isWatch : GoodIn wsX10_where wsX10_isWatch := goodIn_r _ [12, 13, 7, 8, 4, 9] rfl (by decide +kernel)
set_option maxRecDepth 20000 in
theorem gX10_where_X10_isWatch : GoodIn wsX10_where (va_wsS RX10 181 yX10_isWatch wsX10_isWatch) := goodIn_app (goodIn_of _ (by decide +kernel)) ggX10_where_X10_isWatch
set_option maxRecDepth 20000 in
theorem ggX10_where_X10_standsIn : GoodIn wsX10_where wsX10_standsIn := goodIn_r _ [17, 18, 19, 20, 21, 22, 23, 24, 25, 26, 27, 28, 29, 30, 31, 32, 33, 34, 35, 36, 37, 38, 39, 40, 41, 42, 43, 44, 45, 46, 47, 48, 49, 50, 51, 52, 53, 54, 55, 56, 57, 58] rfl (by decide +kernel)
set_option maxRecDepth 20000 in
theorem gX10_where_X10_standsIn : GoodIn wsX10_where (wsV RX10 188 RX10 yX10_standsIn wsX10_standsIn) := goodIn_app (goodIn_of _ (by decide +kernel)) ggX10_where_X10_standsIn
theorem dX10_where_0 : decode cX10_where 0 = .ok (.aload_n 0, 1) := by decide +kernel
theorem dX10_where_1 : decode cX10_where 1 = .ok (.iload_n 1, 1) := by decide +kernel
theorem dX10_where_2 : decode cX10_where 2 = .ok (.invokevirtual 172, 3) := by decide +kernel
theorem dX10_where_5 : decode cX10_where 5 = .ok (.ifCond .eq 5, 3) := by decide +kernel
theorem dX10_where_8 : decode cX10_where 8 = .ok (.iconst (-1), 1) := by decide +kernel
theorem dX10_where_9 : decode cX10_where 9 = .ok (.ireturn, 1) := by decide +kernel
theorem dX10_where_10 : decode cX10_where 10 = .ok (.iload_n 2, 1) := by decide +kernel
theorem dX10_where_11 : decode cX10_where 11 = .ok (.invokestatic 181, 3) := by decide +kernel
theorem dX10_where_14 : decode cX10_where 14 = .ok (.ifCond .eq 12, 3) := by decide +kernel
theorem dX10_where_17 : decode cX10_where 17 = .ok (.aload_n 0, 1) := by decide +kernel
theorem dX10_where_18 : decode cX10_where 18 = .ok (.iload_n 1, 1) := by decide +kernel
theorem dX10_where_19 : decode cX10_where 19 = .ok (.iload_n 2, 1) := by decide +kernel
theorem dX10_where_20 : decode cX10_where 20 = .ok (.invokevirtual 188, 3) := by decide +kernel
theorem dX10_where_23 : decode cX10_where 23 = .ok (.goto 5, 3) := by decide +kernel
theorem dX10_where_26 : decode cX10_where 26 = .ok (.bipush (-2), 2) := by decide +kernel
theorem dX10_where_28 : decode cX10_where 28 = .ok (.ireturn, 1) := by decide +kernel
set_option maxRecDepth 20000 in
theorem ggX10_gives_X10_noLamp : GoodIn wsX10_gives wsX10_noLamp := goodIn_r _ [6, 7, 8, 9, 5, 10, 47, 48, 49, 50, 51, 52, 53, 54, 55, 56, 57, 58, 59, 60, 61, 62, 63, 64, 65, 66, 67, 68, 69, 70, 71, 72, 73, 74, 75, 76, 77, 78, 79, 80, 81, 82] rfl (by decide +kernel)
set_option maxRecDepth 20000 in
theorem gX10_gives_X10_noLamp : GoodIn wsX10_gives (wsV RX10 172 RX10 yX10_noLamp wsX10_noLamp) := goodIn_app (goodIn_of _ (by decide +kernel)) ggX10_gives_X10_noLamp
set_option maxRecDepth 20000 in
theorem ggX10_gives_X10_isWatch : GoodIn wsX10_gives wsX10_isWatch := goodIn_r _ [13, 14, 8, 9, 5, 10] rfl (by decide +kernel)
set_option maxRecDepth 20000 in
theorem gX10_gives_X10_isWatch : GoodIn wsX10_gives (va_wsS RX10 181 yX10_isWatch wsX10_isWatch) := goodIn_app (goodIn_of _ (by decide +kernel)) ggX10_gives_X10_isWatch
set_option maxRecDepth 20000 in
theorem ggX10_gives_X10_goTo : GoodIn wsX10_gives wsX10_goTo := goodIn_r _ [18, 7, 1, 19, 20, 21, 22, 23, 5, 24, 25, 26, 27, 28, 29, 30, 31, 32, 33, 34, 35, 36, 37, 38, 39, 40, 41, 42, 43, 44, 45, 46, 47, 48, 49, 50, 51, 52, 53, 54, 55, 56, 57, 58, 59, 60, 61, 62, 63, 64, 65, 66, 67, 68, 69, 70, 71, 72, 73, 74, 75, 76, 77, 78, 79, 80, 81, 82] rfl (by decide +kernel)
set_option maxRecDepth 20000 in
theorem gX10_gives_X10_goTo : GoodIn wsX10_gives (wsV RX10 200 RX10 yX10_goTo wsX10_goTo) := goodIn_app (goodIn_of _ (by decide +kernel)) ggX10_gives_X10_goTo
theorem dX10_gives_0 : decode cX10_gives 0 = .ok (.aload_n 0, 1) := by decide +kernel
theorem dX10_gives_1 : decode cX10_gives 1 = .ok (.iload_n 1, 1) := by decide +kernel
theorem dX10_gives_2 : decode cX10_gives 2 = .ok (.invokevirtual 172, 3) := by decide +kernel
theorem dX10_gives_5 : decode cX10_gives 5 = .ok (.ifCond .eq 5, 3) := by decide +kernel
theorem dX10_gives_8 : decode cX10_gives 8 = .ok (.iconst (-1), 1) := by decide +kernel
theorem dX10_gives_9 : decode cX10_gives 9 = .ok (.ireturn, 1) := by decide +kernel
theorem dX10_gives_10 : decode cX10_gives 10 = .ok (.iload_n 2, 1) := by decide +kernel
theorem dX10_gives_11 : decode cX10_gives 11 = .ok (.invokestatic 181, 3) := by decide +kernel
theorem dX10_gives_14 : decode cX10_gives 14 = .ok (.ifCond .ne 6, 3) := by decide +kernel
theorem dX10_gives_17 : decode cX10_gives 17 = .ok (.bipush (-2), 2) := by decide +kernel
theorem dX10_gives_19 : decode cX10_gives 19 = .ok (.ireturn, 1) := by decide +kernel
theorem dX10_gives_20 : decode cX10_gives 20 = .ok (.aload_n 0, 1) := by decide +kernel
theorem dX10_gives_21 : decode cX10_gives 21 = .ok (.iload_n 2, 1) := by decide +kernel
theorem dX10_gives_22 : decode cX10_gives 22 = .ok (.invokevirtual 200, 3) := by decide +kernel
theorem dX10_gives_25 : decode cX10_gives 25 = .ok (.aload_n 0, 1) := by decide +kernel
theorem dX10_gives_26 : decode cX10_gives 26 = .ok (.getfield 49, 3) := by decide +kernel
theorem dX10_gives_29 : decode cX10_gives 29 = .ok (.bipush 24, 2) := by decide +kernel
theorem dX10_gives_31 : decode cX10_gives 31 = .ok (.iload_n 1, 1) := by decide +kernel
theorem dX10_gives_32 : decode cX10_gives 32 = .ok (.imul, 1) := by decide +kernel
theorem dX10_gives_33 : decode cX10_gives 33 = .ok (.iload_n 2, 1) := by decide +kernel
theorem dX10_gives_34 : decode cX10_gives 34 = .ok (.iadd, 1) := by decide +kernel
theorem dX10_gives_35 : decode cX10_gives 35 = .ok (.iaload, 1) := by decide +kernel
theorem dX10_gives_36 : decode cX10_gives 36 = .ok (.ireturn, 1) := by decide +kernel
set_option maxRecDepth 20000 in
theorem ggX10_falls_X10_noLamp : GoodIn wsX10_falls wsX10_noLamp := goodIn_r _ [6, 7, 8, 9, 5, 10, 47, 48, 49, 50, 51, 52, 53, 54, 55, 56, 57, 58, 59, 60, 61, 62, 63, 64, 65, 66, 67, 68, 69, 70, 71, 72, 73, 74, 75, 76, 77, 78, 79, 80, 81, 82] rfl (by decide +kernel)
set_option maxRecDepth 20000 in
theorem gX10_falls_X10_noLamp : GoodIn wsX10_falls (wsV RX10 172 RX10 yX10_noLamp wsX10_noLamp) := goodIn_app (goodIn_of _ (by decide +kernel)) ggX10_falls_X10_noLamp
set_option maxRecDepth 20000 in
theorem ggX10_falls_X10_isWatch : GoodIn wsX10_falls wsX10_isWatch := goodIn_r _ [13, 14, 8, 9, 5, 10] rfl (by decide +kernel)
set_option maxRecDepth 20000 in
theorem gX10_falls_X10_isWatch : GoodIn wsX10_falls (va_wsS RX10 181 yX10_isWatch wsX10_isWatch) := goodIn_app (goodIn_of _ (by decide +kernel)) ggX10_falls_X10_isWatch
set_option maxRecDepth 20000 in
theorem ggX10_falls_X10_goTo : GoodIn wsX10_falls wsX10_goTo := goodIn_r _ [18, 7, 19, 20, 1, 21, 22, 23, 5, 24, 25, 26, 27, 28, 29, 30, 31, 32, 33, 34, 35, 36, 37, 38, 39, 40, 41, 42, 43, 44, 45, 46, 47, 48, 49, 50, 51, 52, 53, 54, 55, 56, 57, 58, 59, 60, 61, 62, 63, 64, 65, 66, 67, 68, 69, 70, 71, 72, 73, 74, 75, 76, 77, 78, 79, 80, 81, 82] rfl (by decide +kernel)
set_option maxRecDepth 20000 in
theorem gX10_falls_X10_goTo : GoodIn wsX10_falls (wsV RX10 200 RX10 yX10_goTo wsX10_goTo) := goodIn_app (goodIn_of _ (by decide +kernel)) ggX10_falls_X10_goTo
theorem dX10_falls_0 : decode cX10_falls 0 = .ok (.aload_n 0, 1) := by decide +kernel
theorem dX10_falls_1 : decode cX10_falls 1 = .ok (.iload_n 1, 1) := by decide +kernel
theorem dX10_falls_2 : decode cX10_falls 2 = .ok (.invokevirtual 172, 3) := by decide +kernel
theorem dX10_falls_5 : decode cX10_falls 5 = .ok (.ifCond .eq 5, 3) := by decide +kernel
theorem dX10_falls_8 : decode cX10_falls 8 = .ok (.iconst (-1), 1) := by decide +kernel
theorem dX10_falls_9 : decode cX10_falls 9 = .ok (.ireturn, 1) := by decide +kernel
theorem dX10_falls_10 : decode cX10_falls 10 = .ok (.iload_n 2, 1) := by decide +kernel
theorem dX10_falls_11 : decode cX10_falls 11 = .ok (.invokestatic 181, 3) := by decide +kernel
theorem dX10_falls_14 : decode cX10_falls 14 = .ok (.ifCond .ne 6, 3) := by decide +kernel
theorem dX10_falls_17 : decode cX10_falls 17 = .ok (.bipush (-2), 2) := by decide +kernel
theorem dX10_falls_19 : decode cX10_falls 19 = .ok (.ireturn, 1) := by decide +kernel
theorem dX10_falls_20 : decode cX10_falls 20 = .ok (.aload_n 0, 1) := by decide +kernel
theorem dX10_falls_21 : decode cX10_falls 21 = .ok (.iload_n 2, 1) := by decide +kernel
theorem dX10_falls_22 : decode cX10_falls 22 = .ok (.invokevirtual 200, 3) := by decide +kernel
theorem dX10_falls_25 : decode cX10_falls 25 = .ok (.aload_n 0, 1) := by decide +kernel
theorem dX10_falls_26 : decode cX10_falls 26 = .ok (.getfield 46, 3) := by decide +kernel
theorem dX10_falls_29 : decode cX10_falls 29 = .ok (.bipush 24, 2) := by decide +kernel
theorem dX10_falls_31 : decode cX10_falls 31 = .ok (.iload_n 1, 1) := by decide +kernel
theorem dX10_falls_32 : decode cX10_falls 32 = .ok (.imul, 1) := by decide +kernel
theorem dX10_falls_33 : decode cX10_falls 33 = .ok (.iload_n 2, 1) := by decide +kernel
theorem dX10_falls_34 : decode cX10_falls 34 = .ok (.iadd, 1) := by decide +kernel
theorem dX10_falls_35 : decode cX10_falls 35 = .ok (.iaload, 1) := by decide +kernel
theorem dX10_falls_36 : decode cX10_falls 36 = .ok (.ireturn, 1) := by decide +kernel
set_option maxRecDepth 20000 in
theorem ggX10_light_X10_noSpot : GoodIn wsX10_light wsX10_noSpot := goodIn_r _ [5, 6, 7, 8, 4, 9, 56, 57, 58, 59, 60, 61, 62, 63, 64, 65, 66, 67, 68, 69, 70, 71, 72, 73, 74, 75, 76, 77, 78, 79, 80, 81, 82, 83, 84, 85, 86, 87, 88, 89, 90, 91] rfl (by decide +kernel)
set_option maxRecDepth 20000 in
theorem gX10_light_X10_noSpot : GoodIn wsX10_light (wsV RX10 169 RX10 yX10_noSpot wsX10_noSpot) := goodIn_app (goodIn_of _ (by decide +kernel)) ggX10_light_X10_noSpot
set_option maxRecDepth 20000 in
theorem ggX10_light_X10_isWatch : GoodIn wsX10_light wsX10_isWatch := goodIn_r _ [12, 13, 7, 8, 4, 9] rfl (by decide +kernel)
set_option maxRecDepth 20000 in
theorem gX10_light_X10_isWatch : GoodIn wsX10_light (va_wsS RX10 181 yX10_isWatch wsX10_isWatch) := goodIn_app (goodIn_of _ (by decide +kernel)) ggX10_light_X10_isWatch
set_option maxRecDepth 20000 in
theorem ggX10_light_X10_lightBy : GoodIn wsX10_light wsX10_lightBy := goodIn_r _ [17, 18, 19, 20, 4, 21, 22, 23, 24, 25, 26, 27, 28, 29, 30, 31, 32, 33, 34, 35, 36, 37, 38, 39, 40, 41, 42, 43, 44, 45, 46, 47, 48, 49, 50, 51, 52, 53, 54, 55, 56, 57, 58, 59, 60, 61, 62, 63, 64, 65, 66, 67, 68, 69, 70, 71, 72, 73, 74, 75, 76, 77, 78, 79, 80, 81, 82, 83, 84, 85, 86, 87, 88, 89, 90, 91] rfl (by decide +kernel)
set_option maxRecDepth 20000 in
theorem gX10_light_X10_lightBy : GoodIn wsX10_light (wsV RX10 207 RX10 yX10_lightBy wsX10_lightBy) := goodIn_app (goodIn_of _ (by decide +kernel)) ggX10_light_X10_lightBy
theorem dX10_light_0 : decode cX10_light 0 = .ok (.aload_n 0, 1) := by decide +kernel
theorem dX10_light_1 : decode cX10_light 1 = .ok (.iload_n 1, 1) := by decide +kernel
theorem dX10_light_2 : decode cX10_light 2 = .ok (.invokevirtual 169, 3) := by decide +kernel
theorem dX10_light_5 : decode cX10_light 5 = .ok (.ifCond .eq 5, 3) := by decide +kernel
theorem dX10_light_8 : decode cX10_light 8 = .ok (.iconst (-1), 1) := by decide +kernel
theorem dX10_light_9 : decode cX10_light 9 = .ok (.ireturn, 1) := by decide +kernel
theorem dX10_light_10 : decode cX10_light 10 = .ok (.iload_n 2, 1) := by decide +kernel
theorem dX10_light_11 : decode cX10_light 11 = .ok (.invokestatic 181, 3) := by decide +kernel
theorem dX10_light_14 : decode cX10_light 14 = .ok (.ifCond .eq 12, 3) := by decide +kernel
theorem dX10_light_17 : decode cX10_light 17 = .ok (.aload_n 0, 1) := by decide +kernel
theorem dX10_light_18 : decode cX10_light 18 = .ok (.iload_n 1, 1) := by decide +kernel
theorem dX10_light_19 : decode cX10_light 19 = .ok (.iload_n 2, 1) := by decide +kernel
theorem dX10_light_20 : decode cX10_light 20 = .ok (.invokevirtual 207, 3) := by decide +kernel
theorem dX10_light_23 : decode cX10_light 23 = .ok (.goto 5, 3) := by decide +kernel
theorem dX10_light_26 : decode cX10_light 26 = .ok (.bipush (-2), 2) := by decide +kernel
theorem dX10_light_28 : decode cX10_light 28 = .ok (.ireturn, 1) := by decide +kernel
set_option maxRecDepth 20000 in
theorem ggX10_dark_X10_noSpot : GoodIn wsX10_dark wsX10_noSpot := goodIn_r _ [6, 7, 8, 9, 5, 10, 53, 54, 55, 56, 57, 58, 59, 60, 61, 62, 63, 64, 65, 66, 67, 68, 69, 70, 71, 72, 73, 74, 75, 76, 77, 78, 79, 80, 81, 82, 83, 84, 85, 86, 87, 88] rfl (by decide +kernel)
set_option maxRecDepth 20000 in
theorem gX10_dark_X10_noSpot : GoodIn wsX10_dark (wsV RX10 169 RX10 yX10_noSpot wsX10_noSpot) := goodIn_app (goodIn_of _ (by decide +kernel)) ggX10_dark_X10_noSpot
set_option maxRecDepth 20000 in
theorem ggX10_dark_X10_isWatch : GoodIn wsX10_dark wsX10_isWatch := goodIn_r _ [13, 14, 8, 9, 5, 10] rfl (by decide +kernel)
set_option maxRecDepth 20000 in
theorem gX10_dark_X10_isWatch : GoodIn wsX10_dark (va_wsS RX10 181 yX10_isWatch wsX10_isWatch) := goodIn_app (goodIn_of _ (by decide +kernel)) ggX10_dark_X10_isWatch
set_option maxRecDepth 20000 in
theorem ggX10_dark_X10_in : GoodIn wsX10_dark wsX10_in := goodIn_r _ [10] rfl (by decide +kernel)
set_option maxRecDepth 20000 in
theorem gX10_dark_X10_in : GoodIn wsX10_dark (va_wsS RX10 101 yX10_in wsX10_in) := goodIn_app (goodIn_of _ (by decide +kernel)) ggX10_dark_X10_in
set_option maxRecDepth 20000 in
theorem ggX10_dark_X10_goTo : GoodIn wsX10_dark wsX10_goTo := goodIn_r _ [18, 19, 20, 21, 22, 23, 24, 25, 5, 26, 27, 28, 29, 30, 31, 32, 33, 34, 35, 36, 37, 38, 39, 40, 41, 42, 43, 44, 45, 46, 47, 48, 53, 54, 55, 56, 57, 58, 59, 60, 61, 62, 63, 64, 65, 66, 67, 68, 69, 70, 71, 72, 73, 74, 75, 76, 77, 78, 79, 80, 81, 82, 83, 84, 85, 86, 87, 88] rfl (by decide +kernel)
set_option maxRecDepth 20000 in
theorem gX10_dark_X10_goTo : GoodIn wsX10_dark (wsV RX10 200 RX10 yX10_goTo wsX10_goTo) := goodIn_app (goodIn_of _ (by decide +kernel)) ggX10_dark_X10_goTo
set_option maxRecDepth 20000 in
theorem ggX10_dark_X10_lightOf : GoodIn wsX10_dark wsX10_lightOf := goodIn_r _ [52, 37, 38, 39, 5, 40, 41, 42, 43, 44, 45, 46, 47, 19, 48, 20, 28, 29, 30, 31, 32, 33, 34, 35, 36, 53, 54, 55, 56, 57, 58, 59, 60, 61, 62, 63, 64, 65, 66, 67, 68, 69, 70, 71, 72, 73, 74, 75, 76, 77, 78, 79, 80, 81, 82, 83, 84, 85, 86, 87, 88] rfl (by decide +kernel)
set_option maxRecDepth 20000 in
theorem gX10_dark_X10_lightOf : GoodIn wsX10_dark (wsV RX10 204 RX10 yX10_lightOf wsX10_lightOf) := goodIn_app (goodIn_of _ (by decide +kernel)) ggX10_dark_X10_lightOf
theorem dX10_dark_0 : decode cX10_dark 0 = .ok (.aload_n 0, 1) := by decide +kernel
theorem dX10_dark_1 : decode cX10_dark 1 = .ok (.iload_n 1, 1) := by decide +kernel
theorem dX10_dark_2 : decode cX10_dark 2 = .ok (.invokevirtual 169, 3) := by decide +kernel
theorem dX10_dark_5 : decode cX10_dark 5 = .ok (.ifCond .eq 5, 3) := by decide +kernel
theorem dX10_dark_8 : decode cX10_dark 8 = .ok (.iconst (-1), 1) := by decide +kernel
theorem dX10_dark_9 : decode cX10_dark 9 = .ok (.ireturn, 1) := by decide +kernel
theorem dX10_dark_10 : decode cX10_dark 10 = .ok (.iload_n 2, 1) := by decide +kernel
theorem dX10_dark_11 : decode cX10_dark 11 = .ok (.invokestatic 181, 3) := by decide +kernel
theorem dX10_dark_14 : decode cX10_dark 14 = .ok (.ifCond .eq 15, 3) := by decide +kernel
theorem dX10_dark_17 : decode cX10_dark 17 = .ok (.iload_n 3, 1) := by decide +kernel
theorem dX10_dark_18 : decode cX10_dark 18 = .ok (.i2l, 1) := by decide +kernel
theorem dX10_dark_19 : decode cX10_dark 19 = .ok (.lconst 0, 1) := by decide +kernel
theorem dX10_dark_20 : decode cX10_dark 20 = .ok (.ldc2_w 210, 3) := by decide +kernel
theorem dX10_dark_23 : decode cX10_dark 23 = .ok (.invokestatic 101, 3) := by decide +kernel
theorem dX10_dark_26 : decode cX10_dark 26 = .ok (.ifCond .ne 6, 3) := by decide +kernel
theorem dX10_dark_29 : decode cX10_dark 29 = .ok (.bipush (-2), 2) := by decide +kernel
theorem dX10_dark_31 : decode cX10_dark 31 = .ok (.ireturn, 1) := by decide +kernel
theorem dX10_dark_32 : decode cX10_dark 32 = .ok (.aload_n 0, 1) := by decide +kernel
theorem dX10_dark_33 : decode cX10_dark 33 = .ok (.bipush 23, 2) := by decide +kernel
theorem dX10_dark_35 : decode cX10_dark 35 = .ok (.invokevirtual 200, 3) := by decide +kernel
theorem dX10_dark_38 : decode cX10_dark 38 = .ok (.iload_n 2, 1) := by decide +kernel
theorem dX10_dark_39 : decode cX10_dark 39 = .ok (.istore 4, 2) := by decide +kernel
theorem dX10_dark_41 : decode cX10_dark 41 = .ok (.iload 4, 2) := by decide +kernel
theorem dX10_dark_43 : decode cX10_dark 43 = .ok (.bipush 24, 2) := by decide +kernel
theorem dX10_dark_45 : decode cX10_dark 45 = .ok (.if_icmp .ge 23, 3) := by decide +kernel
theorem dX10_dark_48 : decode cX10_dark 48 = .ok (.aload_n 0, 1) := by decide +kernel
theorem dX10_dark_49 : decode cX10_dark 49 = .ok (.iload_n 1, 1) := by decide +kernel
theorem dX10_dark_50 : decode cX10_dark 50 = .ok (.iload 4, 2) := by decide +kernel
theorem dX10_dark_52 : decode cX10_dark 52 = .ok (.invokevirtual 204, 3) := by decide +kernel
theorem dX10_dark_55 : decode cX10_dark 55 = .ok (.iload_n 3, 1) := by decide +kernel
theorem dX10_dark_56 : decode cX10_dark 56 = .ok (.if_icmp .ge 6, 3) := by decide +kernel
theorem dX10_dark_59 : decode cX10_dark 59 = .ok (.iload 4, 2) := by decide +kernel
theorem dX10_dark_61 : decode cX10_dark 61 = .ok (.ireturn, 1) := by decide +kernel
theorem dX10_dark_62 : decode cX10_dark 62 = .ok (.iinc 4 1, 3) := by decide +kernel
theorem dX10_dark_65 : decode cX10_dark 65 = .ok (.goto (-24), 3) := by decide +kernel
theorem dX10_dark_68 : decode cX10_dark 68 = .ok (.bipush (-9), 2) := by decide +kernel
theorem dX10_dark_70 : decode cX10_dark 70 = .ok (.ireturn, 1) := by decide +kernel
set_option maxRecDepth 20000 in
theorem ggX10_set_X10_noSpot : GoodIn wsX10_set wsX10_noSpot := goodIn_r _ [8, 3, 9, 10, 7, 11, 64, 65, 66, 67, 68, 69, 70, 71, 72, 73, 74, 75, 76, 77, 78, 79, 80, 81, 82, 83, 84, 85, 86, 87, 88, 89, 90, 91, 92, 93, 94, 95, 96, 97, 98, 99] rfl (by decide +kernel)
set_option maxRecDepth 20000 in
theorem gX10_set_X10_noSpot : GoodIn wsX10_set (wsV RX10 169 RX10 yX10_noSpot wsX10_noSpot) := goodIn_app (goodIn_of _ (by decide +kernel)) ggX10_set_X10_noSpot
set_option maxRecDepth 20000 in
theorem ggX10_set_X10_isWatch : GoodIn wsX10_set wsX10_isWatch := goodIn_r _ [14, 15, 9, 10, 7, 11] rfl (by decide +kernel)
set_option maxRecDepth 20000 in
theorem gX10_set_X10_isWatch : GoodIn wsX10_set (va_wsS RX10 181 yX10_isWatch wsX10_isWatch) := goodIn_app (goodIn_of _ (by decide +kernel)) ggX10_set_X10_isWatch
set_option maxRecDepth 20000 in
theorem ggX10_set_X10_in : GoodIn wsX10_set wsX10_in := goodIn_r _ [11] rfl (by decide +kernel)
set_option maxRecDepth 20000 in
theorem gX10_set_X10_in : GoodIn wsX10_set (va_wsS RX10 101 yX10_in wsX10_in) := goodIn_app (goodIn_of _ (by decide +kernel)) ggX10_set_X10_in
set_option maxRecDepth 20000 in
theorem ggX10_set_X10_lightBy : GoodIn wsX10_set wsX10_lightBy := goodIn_r _ [19, 20, 21, 22, 7, 23, 2, 24, 25, 26, 27, 28, 29, 30, 31, 32, 33, 34, 35, 36, 1, 37, 38, 39, 40, 41, 42, 43, 44, 45, 46, 47, 48, 49, 50, 51, 52, 53, 54, 55, 64, 65, 66, 67, 68, 69, 70, 71, 72, 73, 74, 75, 76, 77, 78, 79, 80, 81, 82, 83, 84, 85, 86, 87, 88, 89, 90, 91, 92, 93, 94, 95, 96, 97, 98, 99] rfl (by decide +kernel)
set_option maxRecDepth 20000 in
theorem gX10_set_X10_lightBy : GoodIn wsX10_set (wsV RX10 207 RX10 yX10_lightBy wsX10_lightBy) := goodIn_app (goodIn_of _ (by decide +kernel)) ggX10_set_X10_lightBy
set_option maxRecDepth 20000 in
theorem ggX10_set_X10_layMove : GoodIn wsX10_set wsX10_layMove := goodIn_r _ [59, 37, 38, 39, 64, 65, 66, 67, 68, 69, 70, 71, 72, 73, 74, 75, 76, 77, 78, 79, 80, 81, 82, 83, 84, 85, 86, 87, 88, 89, 90, 91, 92, 93, 94, 95, 96, 97, 98, 99] rfl (by decide +kernel)
set_option maxRecDepth 20000 in
theorem gX10_set_X10_layMove : GoodIn wsX10_set (wsV RX10 184 RX10 yX10_layMove wsX10_layMove) := goodIn_app (goodIn_of _ (by decide +kernel)) ggX10_set_X10_layMove
set_option maxRecDepth 20000 in
theorem ggX10_set_X10_toldMove : GoodIn wsX10_set wsX10_toldMove := goodIn_r _ [63, 37, 1, 38, 39, 64, 65, 66, 67, 68, 69, 70, 71, 72, 73, 74, 75, 76, 77, 78, 79, 80, 81, 82, 83, 84, 85, 86, 87, 88, 89, 90, 91, 92, 93, 94, 95, 96, 97, 98, 99] rfl (by decide +kernel)
set_option maxRecDepth 20000 in
theorem gX10_set_X10_toldMove : GoodIn wsX10_set (wsV RX10 212 RX10 yX10_toldMove wsX10_toldMove) := goodIn_app (goodIn_of _ (by decide +kernel)) ggX10_set_X10_toldMove
theorem dX10_set_0 : decode cX10_set 0 = .ok (.aload_n 0, 1) := by decide +kernel
theorem dX10_set_1 : decode cX10_set 1 = .ok (.iload_n 1, 1) := by decide +kernel
theorem dX10_set_2 : decode cX10_set 2 = .ok (.invokevirtual 169, 3) := by decide +kernel
theorem dX10_set_5 : decode cX10_set 5 = .ok (.ifCond .eq 5, 3) := by decide +kernel
theorem dX10_set_8 : decode cX10_set 8 = .ok (.iconst (-1), 1) := by decide +kernel
theorem dX10_set_9 : decode cX10_set 9 = .ok (.ireturn, 1) := by decide +kernel
theorem dX10_set_10 : decode cX10_set 10 = .ok (.iload_n 2, 1) := by decide +kernel
theorem dX10_set_11 : decode cX10_set 11 = .ok (.invokestatic 181, 3) := by decide +kernel
theorem dX10_set_14 : decode cX10_set 14 = .ok (.ifCond .eq 13, 3) := by decide +kernel
theorem dX10_set_17 : decode cX10_set 17 = .ok (.iload_n 3, 1) := by decide +kernel
theorem dX10_set_18 : decode cX10_set 18 = .ok (.i2l, 1) := by decide +kernel
theorem dX10_set_19 : decode cX10_set 19 = .ok (.lconst 0, 1) := by decide +kernel
theorem dX10_set_20 : decode cX10_set 20 = .ok (.lconst 1, 1) := by decide +kernel
theorem dX10_set_21 : decode cX10_set 21 = .ok (.invokestatic 101, 3) := by decide +kernel
theorem dX10_set_24 : decode cX10_set 24 = .ok (.ifCond .ne 6, 3) := by decide +kernel
theorem dX10_set_27 : decode cX10_set 27 = .ok (.bipush (-2), 2) := by decide +kernel
theorem dX10_set_29 : decode cX10_set 29 = .ok (.ireturn, 1) := by decide +kernel
theorem dX10_set_30 : decode cX10_set 30 = .ok (.aload_n 0, 1) := by decide +kernel
theorem dX10_set_31 : decode cX10_set 31 = .ok (.iload_n 1, 1) := by decide +kernel
theorem dX10_set_32 : decode cX10_set 32 = .ok (.iload_n 2, 1) := by decide +kernel
theorem dX10_set_33 : decode cX10_set 33 = .ok (.invokevirtual 207, 3) := by decide +kernel
theorem dX10_set_36 : decode cX10_set 36 = .ok (.istore 4, 2) := by decide +kernel
theorem dX10_set_38 : decode cX10_set 38 = .ok (.bipush (-9), 2) := by decide +kernel
theorem dX10_set_40 : decode cX10_set 40 = .ok (.istore 5, 2) := by decide +kernel
theorem dX10_set_42 : decode cX10_set 42 = .ok (.aload_n 0, 1) := by decide +kernel
theorem dX10_set_43 : decode cX10_set 43 = .ok (.dup, 1) := by decide +kernel
theorem dX10_set_44 : decode cX10_set 44 = .ok (.getfield 161, 3) := by decide +kernel
theorem dX10_set_47 : decode cX10_set 47 = .ok (.iconst 1, 1) := by decide +kernel
theorem dX10_set_48 : decode cX10_set 48 = .ok (.iadd, 1) := by decide +kernel
theorem dX10_set_49 : decode cX10_set 49 = .ok (.putfield 161, 3) := by decide +kernel
theorem dX10_set_52 : decode cX10_set 52 = .ok (.iconst 0, 1) := by decide +kernel
theorem dX10_set_53 : decode cX10_set 53 = .ok (.istore 6, 2) := by decide +kernel
theorem dX10_set_55 : decode cX10_set 55 = .ok (.iload 6, 2) := by decide +kernel
theorem dX10_set_57 : decode cX10_set 57 = .ok (.aload_n 0, 1) := by decide +kernel
theorem dX10_set_58 : decode cX10_set 58 = .ok (.getfield 105, 3) := by decide +kernel
theorem dX10_set_61 : decode cX10_set 61 = .ok (.bipush 24, 2) := by decide +kernel
theorem dX10_set_63 : decode cX10_set 63 = .ok (.imul, 1) := by decide +kernel
theorem dX10_set_64 : decode cX10_set 64 = .ok (.aload_n 0, 1) := by decide +kernel
theorem dX10_set_65 : decode cX10_set 65 = .ok (.getfield 98, 3) := by decide +kernel
theorem dX10_set_68 : decode cX10_set 68 = .ok (.imul, 1) := by decide +kernel
theorem dX10_set_69 : decode cX10_set 69 = .ok (.if_icmp .ge 88, 3) := by decide +kernel
theorem dX10_set_72 : decode cX10_set 72 = .ok (.aload_n 0, 1) := by decide +kernel
theorem dX10_set_73 : decode cX10_set 73 = .ok (.aload_n 0, 1) := by decide +kernel
theorem dX10_set_74 : decode cX10_set 74 = .ok (.getfield 161, 3) := by decide +kernel
theorem dX10_set_77 : decode cX10_set 77 = .ok (.iconst 1, 1) := by decide +kernel
theorem dX10_set_78 : decode cX10_set 78 = .ok (.isub, 1) := by decide +kernel
theorem dX10_set_79 : decode cX10_set 79 = .ok (.iload 6, 2) := by decide +kernel
theorem dX10_set_81 : decode cX10_set 81 = .ok (.aload_n 0, 1) := by decide +kernel
theorem dX10_set_82 : decode cX10_set 82 = .ok (.getfield 98, 3) := by decide +kernel
theorem dX10_set_85 : decode cX10_set 85 = .ok (.idiv, 1) := by decide +kernel
theorem dX10_set_86 : decode cX10_set 86 = .ok (.bipush 24, 2) := by decide +kernel
theorem dX10_set_88 : decode cX10_set 88 = .ok (.idiv, 1) := by decide +kernel
theorem dX10_set_89 : decode cX10_set 89 = .ok (.iload 6, 2) := by decide +kernel
theorem dX10_set_91 : decode cX10_set 91 = .ok (.aload_n 0, 1) := by decide +kernel
theorem dX10_set_92 : decode cX10_set 92 = .ok (.getfield 98, 3) := by decide +kernel
theorem dX10_set_95 : decode cX10_set 95 = .ok (.idiv, 1) := by decide +kernel
theorem dX10_set_96 : decode cX10_set 96 = .ok (.bipush 24, 2) := by decide +kernel
theorem dX10_set_98 : decode cX10_set 98 = .ok (.irem, 1) := by decide +kernel
theorem dX10_set_99 : decode cX10_set 99 = .ok (.iload 6, 2) := by decide +kernel
theorem dX10_set_101 : decode cX10_set 101 = .ok (.aload_n 0, 1) := by decide +kernel
theorem dX10_set_102 : decode cX10_set 102 = .ok (.getfield 98, 3) := by decide +kernel
theorem dX10_set_105 : decode cX10_set 105 = .ok (.irem, 1) := by decide +kernel
theorem dX10_set_106 : decode cX10_set 106 = .ok (.invokevirtual 184, 3) := by decide +kernel
theorem dX10_set_109 : decode cX10_set 109 = .ok (.aload_n 0, 1) := by decide +kernel
theorem dX10_set_110 : decode cX10_set 110 = .ok (.iload_n 1, 1) := by decide +kernel
theorem dX10_set_111 : decode cX10_set 111 = .ok (.iload_n 2, 1) := by decide +kernel
theorem dX10_set_112 : decode cX10_set 112 = .ok (.invokevirtual 207, 3) := by decide +kernel
theorem dX10_set_115 : decode cX10_set 115 = .ok (.istore 7, 2) := by decide +kernel
theorem dX10_set_117 : decode cX10_set 117 = .ok (.iload 7, 2) := by decide +kernel
theorem dX10_set_119 : decode cX10_set 119 = .ok (.iload 4, 2) := by decide +kernel
theorem dX10_set_121 : decode cX10_set 121 = .ok (.if_icmp .le 10, 3) := by decide +kernel
theorem dX10_set_124 : decode cX10_set 124 = .ok (.aload_n 0, 1) := by decide +kernel
theorem dX10_set_125 : decode cX10_set 125 = .ok (.invokevirtual 212, 3) := by decide +kernel
theorem dX10_set_128 : decode cX10_set 128 = .ok (.goto 5, 3) := by decide +kernel
theorem dX10_set_131 : decode cX10_set 131 = .ok (.iload 5, 2) := by decide +kernel
theorem dX10_set_133 : decode cX10_set 133 = .ok (.istore 5, 2) := by decide +kernel
theorem dX10_set_135 : decode cX10_set 135 = .ok (.iload 7, 2) := by decide +kernel
theorem dX10_set_137 : decode cX10_set 137 = .ok (.iload 4, 2) := by decide +kernel
theorem dX10_set_139 : decode cX10_set 139 = .ok (.if_icmp .le 8, 3) := by decide +kernel
theorem dX10_set_142 : decode cX10_set 142 = .ok (.iload 7, 2) := by decide +kernel
theorem dX10_set_144 : decode cX10_set 144 = .ok (.goto 5, 3) := by decide +kernel
theorem dX10_set_147 : decode cX10_set 147 = .ok (.iload 4, 2) := by decide +kernel
theorem dX10_set_149 : decode cX10_set 149 = .ok (.istore 4, 2) := by decide +kernel
theorem dX10_set_151 : decode cX10_set 151 = .ok (.iinc 6 1, 3) := by decide +kernel
theorem dX10_set_154 : decode cX10_set 154 = .ok (.goto (-99), 3) := by decide +kernel
theorem dX10_set_157 : decode cX10_set 157 = .ok (.aload_n 0, 1) := by decide +kernel
theorem dX10_set_158 : decode cX10_set 158 = .ok (.dup, 1) := by decide +kernel
theorem dX10_set_159 : decode cX10_set 159 = .ok (.getfield 161, 3) := by decide +kernel
theorem dX10_set_162 : decode cX10_set 162 = .ok (.iconst 1, 1) := by decide +kernel
theorem dX10_set_163 : decode cX10_set 163 = .ok (.isub, 1) := by decide +kernel
theorem dX10_set_164 : decode cX10_set 164 = .ok (.putfield 161, 3) := by decide +kernel
theorem dX10_set_167 : decode cX10_set 167 = .ok (.iload_n 3, 1) := by decide +kernel
theorem dX10_set_168 : decode cX10_set 168 = .ok (.ifCond .ne 8, 3) := by decide +kernel
theorem dX10_set_171 : decode cX10_set 171 = .ok (.iload 5, 2) := by decide +kernel
theorem dX10_set_173 : decode cX10_set 173 = .ok (.goto 5, 3) := by decide +kernel
theorem dX10_set_176 : decode cX10_set 176 = .ok (.iload 4, 2) := by decide +kernel
theorem dX10_set_178 : decode cX10_set 178 = .ok (.ireturn, 1) := by decide +kernel
theorem dX10_toldMove_0 : decode cX10_toldMove 0 = .ok (.sipush 1000, 3) := by decide +kernel
theorem dX10_toldMove_3 : decode cX10_toldMove 3 = .ok (.aload_n 0, 1) := by decide +kernel
theorem dX10_toldMove_4 : decode cX10_toldMove 4 = .ok (.getfield 37, 3) := by decide +kernel
theorem dX10_toldMove_7 : decode cX10_toldMove 7 = .ok (.aload_n 0, 1) := by decide +kernel
theorem dX10_toldMove_8 : decode cX10_toldMove 8 = .ok (.getfield 161, 3) := by decide +kernel
theorem dX10_toldMove_11 : decode cX10_toldMove 11 = .ok (.iconst 1, 1) := by decide +kernel
theorem dX10_toldMove_12 : decode cX10_toldMove 12 = .ok (.isub, 1) := by decide +kernel
theorem dX10_toldMove_13 : decode cX10_toldMove 13 = .ok (.iaload, 1) := by decide +kernel
theorem dX10_toldMove_14 : decode cX10_toldMove 14 = .ok (.imul, 1) := by decide +kernel
theorem dX10_toldMove_15 : decode cX10_toldMove 15 = .ok (.bipush 10, 2) := by decide +kernel
theorem dX10_toldMove_17 : decode cX10_toldMove 17 = .ok (.aload_n 0, 1) := by decide +kernel
theorem dX10_toldMove_18 : decode cX10_toldMove 18 = .ok (.getfield 40, 3) := by decide +kernel
theorem dX10_toldMove_21 : decode cX10_toldMove 21 = .ok (.aload_n 0, 1) := by decide +kernel
theorem dX10_toldMove_22 : decode cX10_toldMove 22 = .ok (.getfield 161, 3) := by decide +kernel
theorem dX10_toldMove_25 : decode cX10_toldMove 25 = .ok (.iconst 1, 1) := by decide +kernel
theorem dX10_toldMove_26 : decode cX10_toldMove 26 = .ok (.isub, 1) := by decide +kernel
theorem dX10_toldMove_27 : decode cX10_toldMove 27 = .ok (.iaload, 1) := by decide +kernel
theorem dX10_toldMove_28 : decode cX10_toldMove 28 = .ok (.imul, 1) := by decide +kernel
theorem dX10_toldMove_29 : decode cX10_toldMove 29 = .ok (.iadd, 1) := by decide +kernel
theorem dX10_toldMove_30 : decode cX10_toldMove 30 = .ok (.aload_n 0, 1) := by decide +kernel
theorem dX10_toldMove_31 : decode cX10_toldMove 31 = .ok (.getfield 43, 3) := by decide +kernel
theorem dX10_toldMove_34 : decode cX10_toldMove 34 = .ok (.aload_n 0, 1) := by decide +kernel
theorem dX10_toldMove_35 : decode cX10_toldMove 35 = .ok (.getfield 161, 3) := by decide +kernel
theorem dX10_toldMove_38 : decode cX10_toldMove 38 = .ok (.iconst 1, 1) := by decide +kernel
theorem dX10_toldMove_39 : decode cX10_toldMove 39 = .ok (.isub, 1) := by decide +kernel
theorem dX10_toldMove_40 : decode cX10_toldMove 40 = .ok (.iaload, 1) := by decide +kernel
theorem dX10_toldMove_41 : decode cX10_toldMove 41 = .ok (.iadd, 1) := by decide +kernel
theorem dX10_toldMove_42 : decode cX10_toldMove 42 = .ok (.ireturn, 1) := by decide +kernel
set_option maxRecDepth 20000 in
theorem ggX10_darkMany_X10_goTo : GoodIn wsX10_darkMany wsX10_goTo := goodIn_r _ [5, 6, 7, 8, 9, 10, 11, 12, 4, 13, 14, 15, 16, 17, 18, 19, 20, 21, 22, 23, 24, 25, 26, 27, 28, 29, 30, 31, 32, 33, 34, 35, 40, 41, 42, 43, 44, 45, 46, 47, 48, 49, 50, 51, 52, 53, 54, 55, 56, 57, 58, 59, 60, 61, 62, 63, 64, 65, 66, 67, 68, 69, 70, 71, 72, 73, 74, 75] rfl (by decide +kernel)
set_option maxRecDepth 20000 in
theorem gX10_darkMany_X10_goTo : GoodIn wsX10_darkMany (wsV RX10 200 RX10 yX10_goTo wsX10_goTo) := goodIn_app (goodIn_of _ (by decide +kernel)) ggX10_darkMany_X10_goTo
set_option maxRecDepth 20000 in
theorem ggX10_darkMany_X10_lightOf : GoodIn wsX10_darkMany wsX10_lightOf := goodIn_r _ [39, 24, 25, 26, 4, 27, 28, 29, 30, 31, 32, 33, 34, 6, 35, 7, 15, 16, 17, 18, 19, 20, 21, 22, 23, 40, 41, 42, 43, 44, 45, 46, 47, 48, 49, 50, 51, 52, 53, 54, 55, 56, 57, 58, 59, 60, 61, 62, 63, 64, 65, 66, 67, 68, 69, 70, 71, 72, 73, 74, 75] rfl (by decide +kernel)
set_option maxRecDepth 20000 in
theorem gX10_darkMany_X10_lightOf : GoodIn wsX10_darkMany (wsV RX10 204 RX10 yX10_lightOf wsX10_lightOf) := goodIn_app (goodIn_of _ (by decide +kernel)) ggX10_darkMany_X10_lightOf
theorem dX10_darkMany_0 : decode cX10_darkMany 0 = .ok (.aload_n 0, 1) := by decide +kernel
theorem dX10_darkMany_1 : decode cX10_darkMany 1 = .ok (.bipush 23, 2) := by decide +kernel
theorem dX10_darkMany_3 : decode cX10_darkMany 3 = .ok (.invokevirtual 200, 3) := by decide +kernel
theorem dX10_darkMany_6 : decode cX10_darkMany 6 = .ok (.iconst 0, 1) := by decide +kernel
theorem dX10_darkMany_7 : decode cX10_darkMany 7 = .ok (.istore_n 3, 1) := by decide +kernel
theorem dX10_darkMany_8 : decode cX10_darkMany 8 = .ok (.iconst 0, 1) := by decide +kernel
theorem dX10_darkMany_9 : decode cX10_darkMany 9 = .ok (.istore 4, 2) := by decide +kernel
theorem dX10_darkMany_11 : decode cX10_darkMany 11 = .ok (.iload 4, 2) := by decide +kernel
theorem dX10_darkMany_13 : decode cX10_darkMany 13 = .ok (.bipush 24, 2) := by decide +kernel
theorem dX10_darkMany_15 : decode cX10_darkMany 15 = .ok (.if_icmp .ge 28, 3) := by decide +kernel
theorem dX10_darkMany_18 : decode cX10_darkMany 18 = .ok (.iload_n 3, 1) := by decide +kernel
theorem dX10_darkMany_19 : decode cX10_darkMany 19 = .ok (.aload_n 0, 1) := by decide +kernel
theorem dX10_darkMany_20 : decode cX10_darkMany 20 = .ok (.iload_n 1, 1) := by decide +kernel
theorem dX10_darkMany_21 : decode cX10_darkMany 21 = .ok (.iload 4, 2) := by decide +kernel
theorem dX10_darkMany_23 : decode cX10_darkMany 23 = .ok (.invokevirtual 204, 3) := by decide +kernel
theorem dX10_darkMany_26 : decode cX10_darkMany 26 = .ok (.iload_n 2, 1) := by decide +kernel
theorem dX10_darkMany_27 : decode cX10_darkMany 27 = .ok (.if_icmp .ge 7, 3) := by decide +kernel
theorem dX10_darkMany_30 : decode cX10_darkMany 30 = .ok (.iconst 1, 1) := by decide +kernel
theorem dX10_darkMany_31 : decode cX10_darkMany 31 = .ok (.goto 4, 3) := by decide +kernel
theorem dX10_darkMany_34 : decode cX10_darkMany 34 = .ok (.iconst 0, 1) := by decide +kernel
theorem dX10_darkMany_35 : decode cX10_darkMany 35 = .ok (.iadd, 1) := by decide +kernel
theorem dX10_darkMany_36 : decode cX10_darkMany 36 = .ok (.istore_n 3, 1) := by decide +kernel
theorem dX10_darkMany_37 : decode cX10_darkMany 37 = .ok (.iinc 4 1, 3) := by decide +kernel
theorem dX10_darkMany_40 : decode cX10_darkMany 40 = .ok (.goto (-29), 3) := by decide +kernel
theorem dX10_darkMany_43 : decode cX10_darkMany 43 = .ok (.iload_n 3, 1) := by decide +kernel
theorem dX10_darkMany_44 : decode cX10_darkMany 44 = .ok (.ireturn, 1) := by decide +kernel
set_option maxRecDepth 20000 in
theorem ggX10_show_X10_noSpot : GoodIn wsX10_show wsX10_noSpot := goodIn_r _ [9, 4, 10, 11, 8, 12, 61, 62, 63, 64, 65, 66, 67, 68, 69, 70, 71, 72, 73, 74, 75, 76, 77, 78, 79, 80, 81, 82, 83, 84, 85, 86, 87, 88, 89, 90, 91, 92, 93, 94, 95, 96] rfl (by decide +kernel)
set_option maxRecDepth 20000 in
theorem gX10_show_X10_noSpot : GoodIn wsX10_show (wsV RX10 169 RX10 yX10_noSpot wsX10_noSpot) := goodIn_app (goodIn_of _ (by decide +kernel)) ggX10_show_X10_noSpot
set_option maxRecDepth 20000 in
theorem ggX10_show_X10_in : GoodIn wsX10_show wsX10_in := goodIn_r _ [12] rfl (by decide +kernel)
set_option maxRecDepth 20000 in
theorem gX10_show_X10_in : GoodIn wsX10_show (va_wsS RX10 101 yX10_in wsX10_in) := goodIn_app (goodIn_of _ (by decide +kernel)) ggX10_show_X10_in
set_option maxRecDepth 20000 in
theorem ggX10_show_X10_darkMany : GoodIn wsX10_show wsX10_darkMany := goodIn_r _ [16, 17, 18, 19, 8, 20, 3, 21, 22, 23, 24, 25, 26, 27, 28, 29, 30, 31, 32, 33, 2, 34, 35, 36, 37, 38, 39, 40, 41, 42, 43, 44, 45, 46, 47, 48, 49, 50, 51, 52, 61, 62, 63, 64, 65, 66, 67, 68, 69, 70, 71, 72, 73, 74, 75, 76, 77, 78, 79, 80, 81, 82, 83, 84, 85, 86, 87, 88, 89, 90, 91, 92, 93, 94, 95, 96] rfl (by decide +kernel)
set_option maxRecDepth 20000 in
theorem gX10_show_X10_darkMany : GoodIn wsX10_show (wsV RX10 216 RX10 yX10_darkMany wsX10_darkMany) := goodIn_app (goodIn_of _ (by decide +kernel)) ggX10_show_X10_darkMany
set_option maxRecDepth 20000 in
theorem ggX10_show_X10_layMove : GoodIn wsX10_show wsX10_layMove := goodIn_r _ [56, 34, 35, 36, 61, 62, 63, 64, 65, 66, 67, 68, 69, 70, 71, 72, 73, 74, 75, 76, 77, 78, 79, 80, 81, 82, 83, 84, 85, 86, 87, 88, 89, 90, 91, 92, 93, 94, 95, 96] rfl (by decide +kernel)
set_option maxRecDepth 20000 in
theorem gX10_show_X10_layMove : GoodIn wsX10_show (wsV RX10 184 RX10 yX10_layMove wsX10_layMove) := goodIn_app (goodIn_of _ (by decide +kernel)) ggX10_show_X10_layMove
set_option maxRecDepth 20000 in
theorem ggX10_show_X10_toldMove : GoodIn wsX10_show wsX10_toldMove := goodIn_r _ [60, 34, 2, 35, 36, 61, 62, 63, 64, 65, 66, 67, 68, 69, 70, 71, 72, 73, 74, 75, 76, 77, 78, 79, 80, 81, 82, 83, 84, 85, 86, 87, 88, 89, 90, 91, 92, 93, 94, 95, 96] rfl (by decide +kernel)
set_option maxRecDepth 20000 in
theorem gX10_show_X10_toldMove : GoodIn wsX10_show (wsV RX10 212 RX10 yX10_toldMove wsX10_toldMove) := goodIn_app (goodIn_of _ (by decide +kernel)) ggX10_show_X10_toldMove
theorem dX10_show_0 : decode cX10_show 0 = .ok (.aload_n 0, 1) := by decide +kernel
theorem dX10_show_1 : decode cX10_show 1 = .ok (.iload_n 1, 1) := by decide +kernel
theorem dX10_show_2 : decode cX10_show 2 = .ok (.invokevirtual 169, 3) := by decide +kernel
theorem dX10_show_5 : decode cX10_show 5 = .ok (.ifCond .eq 5, 3) := by decide +kernel
theorem dX10_show_8 : decode cX10_show 8 = .ok (.iconst (-1), 1) := by decide +kernel
theorem dX10_show_9 : decode cX10_show 9 = .ok (.ireturn, 1) := by decide +kernel
theorem dX10_show_10 : decode cX10_show 10 = .ok (.iload_n 2, 1) := by decide +kernel
theorem dX10_show_11 : decode cX10_show 11 = .ok (.i2l, 1) := by decide +kernel
theorem dX10_show_12 : decode cX10_show 12 = .ok (.lconst 0, 1) := by decide +kernel
theorem dX10_show_13 : decode cX10_show 13 = .ok (.ldc2_w 210, 3) := by decide +kernel
theorem dX10_show_16 : decode cX10_show 16 = .ok (.invokestatic 101, 3) := by decide +kernel
theorem dX10_show_19 : decode cX10_show 19 = .ok (.ifCond .eq 13, 3) := by decide +kernel
theorem dX10_show_22 : decode cX10_show 22 = .ok (.iload_n 3, 1) := by decide +kernel
theorem dX10_show_23 : decode cX10_show 23 = .ok (.i2l, 1) := by decide +kernel
theorem dX10_show_24 : decode cX10_show 24 = .ok (.lconst 0, 1) := by decide +kernel
theorem dX10_show_25 : decode cX10_show 25 = .ok (.lconst 1, 1) := by decide +kernel
theorem dX10_show_26 : decode cX10_show 26 = .ok (.invokestatic 101, 3) := by decide +kernel
theorem dX10_show_29 : decode cX10_show 29 = .ok (.ifCond .ne 6, 3) := by decide +kernel
theorem dX10_show_32 : decode cX10_show 32 = .ok (.bipush (-2), 2) := by decide +kernel
theorem dX10_show_34 : decode cX10_show 34 = .ok (.ireturn, 1) := by decide +kernel
theorem dX10_show_35 : decode cX10_show 35 = .ok (.aload_n 0, 1) := by decide +kernel
theorem dX10_show_36 : decode cX10_show 36 = .ok (.iload_n 1, 1) := by decide +kernel
theorem dX10_show_37 : decode cX10_show 37 = .ok (.iload_n 2, 1) := by decide +kernel
theorem dX10_show_38 : decode cX10_show 38 = .ok (.invokevirtual 216, 3) := by decide +kernel
theorem dX10_show_41 : decode cX10_show 41 = .ok (.istore 4, 2) := by decide +kernel
theorem dX10_show_43 : decode cX10_show 43 = .ok (.bipush (-9), 2) := by decide +kernel
theorem dX10_show_45 : decode cX10_show 45 = .ok (.istore 5, 2) := by decide +kernel
theorem dX10_show_47 : decode cX10_show 47 = .ok (.aload_n 0, 1) := by decide +kernel
theorem dX10_show_48 : decode cX10_show 48 = .ok (.dup, 1) := by decide +kernel
theorem dX10_show_49 : decode cX10_show 49 = .ok (.getfield 161, 3) := by decide +kernel
theorem dX10_show_52 : decode cX10_show 52 = .ok (.iconst 1, 1) := by decide +kernel
theorem dX10_show_53 : decode cX10_show 53 = .ok (.iadd, 1) := by decide +kernel
theorem dX10_show_54 : decode cX10_show 54 = .ok (.putfield 161, 3) := by decide +kernel
theorem dX10_show_57 : decode cX10_show 57 = .ok (.iconst 0, 1) := by decide +kernel
theorem dX10_show_58 : decode cX10_show 58 = .ok (.istore 6, 2) := by decide +kernel
theorem dX10_show_60 : decode cX10_show 60 = .ok (.iload 6, 2) := by decide +kernel
theorem dX10_show_62 : decode cX10_show 62 = .ok (.aload_n 0, 1) := by decide +kernel
theorem dX10_show_63 : decode cX10_show 63 = .ok (.getfield 105, 3) := by decide +kernel
theorem dX10_show_66 : decode cX10_show 66 = .ok (.bipush 24, 2) := by decide +kernel
theorem dX10_show_68 : decode cX10_show 68 = .ok (.imul, 1) := by decide +kernel
theorem dX10_show_69 : decode cX10_show 69 = .ok (.aload_n 0, 1) := by decide +kernel
theorem dX10_show_70 : decode cX10_show 70 = .ok (.getfield 98, 3) := by decide +kernel
theorem dX10_show_73 : decode cX10_show 73 = .ok (.imul, 1) := by decide +kernel
theorem dX10_show_74 : decode cX10_show 74 = .ok (.if_icmp .ge 88, 3) := by decide +kernel
theorem dX10_show_77 : decode cX10_show 77 = .ok (.aload_n 0, 1) := by decide +kernel
theorem dX10_show_78 : decode cX10_show 78 = .ok (.aload_n 0, 1) := by decide +kernel
theorem dX10_show_79 : decode cX10_show 79 = .ok (.getfield 161, 3) := by decide +kernel
theorem dX10_show_82 : decode cX10_show 82 = .ok (.iconst 1, 1) := by decide +kernel
theorem dX10_show_83 : decode cX10_show 83 = .ok (.isub, 1) := by decide +kernel
theorem dX10_show_84 : decode cX10_show 84 = .ok (.iload 6, 2) := by decide +kernel
theorem dX10_show_86 : decode cX10_show 86 = .ok (.aload_n 0, 1) := by decide +kernel
theorem dX10_show_87 : decode cX10_show 87 = .ok (.getfield 98, 3) := by decide +kernel
theorem dX10_show_90 : decode cX10_show 90 = .ok (.idiv, 1) := by decide +kernel
theorem dX10_show_91 : decode cX10_show 91 = .ok (.bipush 24, 2) := by decide +kernel
theorem dX10_show_93 : decode cX10_show 93 = .ok (.idiv, 1) := by decide +kernel
theorem dX10_show_94 : decode cX10_show 94 = .ok (.iload 6, 2) := by decide +kernel
theorem dX10_show_96 : decode cX10_show 96 = .ok (.aload_n 0, 1) := by decide +kernel
theorem dX10_show_97 : decode cX10_show 97 = .ok (.getfield 98, 3) := by decide +kernel
theorem dX10_show_100 : decode cX10_show 100 = .ok (.idiv, 1) := by decide +kernel
theorem dX10_show_101 : decode cX10_show 101 = .ok (.bipush 24, 2) := by decide +kernel
theorem dX10_show_103 : decode cX10_show 103 = .ok (.irem, 1) := by decide +kernel
theorem dX10_show_104 : decode cX10_show 104 = .ok (.iload 6, 2) := by decide +kernel
theorem dX10_show_106 : decode cX10_show 106 = .ok (.aload_n 0, 1) := by decide +kernel
theorem dX10_show_107 : decode cX10_show 107 = .ok (.getfield 98, 3) := by decide +kernel
theorem dX10_show_110 : decode cX10_show 110 = .ok (.irem, 1) := by decide +kernel
theorem dX10_show_111 : decode cX10_show 111 = .ok (.invokevirtual 184, 3) := by decide +kernel
theorem dX10_show_114 : decode cX10_show 114 = .ok (.aload_n 0, 1) := by decide +kernel
theorem dX10_show_115 : decode cX10_show 115 = .ok (.iload_n 1, 1) := by decide +kernel
theorem dX10_show_116 : decode cX10_show 116 = .ok (.iload_n 2, 1) := by decide +kernel
theorem dX10_show_117 : decode cX10_show 117 = .ok (.invokevirtual 216, 3) := by decide +kernel
theorem dX10_show_120 : decode cX10_show 120 = .ok (.istore 7, 2) := by decide +kernel
theorem dX10_show_122 : decode cX10_show 122 = .ok (.iload 7, 2) := by decide +kernel
theorem dX10_show_124 : decode cX10_show 124 = .ok (.iload 4, 2) := by decide +kernel
theorem dX10_show_126 : decode cX10_show 126 = .ok (.if_icmp .ge 10, 3) := by decide +kernel
theorem dX10_show_129 : decode cX10_show 129 = .ok (.aload_n 0, 1) := by decide +kernel
theorem dX10_show_130 : decode cX10_show 130 = .ok (.invokevirtual 212, 3) := by decide +kernel
theorem dX10_show_133 : decode cX10_show 133 = .ok (.goto 5, 3) := by decide +kernel
theorem dX10_show_136 : decode cX10_show 136 = .ok (.iload 5, 2) := by decide +kernel
theorem dX10_show_138 : decode cX10_show 138 = .ok (.istore 5, 2) := by decide +kernel
theorem dX10_show_140 : decode cX10_show 140 = .ok (.iload 7, 2) := by decide +kernel
theorem dX10_show_142 : decode cX10_show 142 = .ok (.iload 4, 2) := by decide +kernel
theorem dX10_show_144 : decode cX10_show 144 = .ok (.if_icmp .ge 8, 3) := by decide +kernel
theorem dX10_show_147 : decode cX10_show 147 = .ok (.iload 7, 2) := by decide +kernel
theorem dX10_show_149 : decode cX10_show 149 = .ok (.goto 5, 3) := by decide +kernel
theorem dX10_show_152 : decode cX10_show 152 = .ok (.iload 4, 2) := by decide +kernel
theorem dX10_show_154 : decode cX10_show 154 = .ok (.istore 4, 2) := by decide +kernel
theorem dX10_show_156 : decode cX10_show 156 = .ok (.iinc 6 1, 3) := by decide +kernel
theorem dX10_show_159 : decode cX10_show 159 = .ok (.goto (-99), 3) := by decide +kernel
theorem dX10_show_162 : decode cX10_show 162 = .ok (.aload_n 0, 1) := by decide +kernel
theorem dX10_show_163 : decode cX10_show 163 = .ok (.dup, 1) := by decide +kernel
theorem dX10_show_164 : decode cX10_show 164 = .ok (.getfield 161, 3) := by decide +kernel
theorem dX10_show_167 : decode cX10_show 167 = .ok (.iconst 1, 1) := by decide +kernel
theorem dX10_show_168 : decode cX10_show 168 = .ok (.isub, 1) := by decide +kernel
theorem dX10_show_169 : decode cX10_show 169 = .ok (.putfield 161, 3) := by decide +kernel
theorem dX10_show_172 : decode cX10_show 172 = .ok (.iload_n 3, 1) := by decide +kernel
theorem dX10_show_173 : decode cX10_show 173 = .ok (.ifCond .ne 8, 3) := by decide +kernel
theorem dX10_show_176 : decode cX10_show 176 = .ok (.iload 5, 2) := by decide +kernel
theorem dX10_show_178 : decode cX10_show 178 = .ok (.goto 5, 3) := by decide +kernel
theorem dX10_show_181 : decode cX10_show 181 = .ok (.iload 4, 2) := by decide +kernel
theorem dX10_show_183 : decode cX10_show 183 = .ok (.ireturn, 1) := by decide +kernel
set_option maxRecDepth 20000 in
theorem ggX10_lightByMoves_X10_layMove : GoodIn wsX10_lightByMoves wsX10_layMove := goodIn_r _ [13, 3, 5, 7, 52, 53, 54, 55, 56, 57, 58, 59, 60, 61, 62, 63, 64, 65, 66, 67, 68, 69, 70, 71, 72, 73, 74, 75, 76, 77, 78, 79, 80, 81, 82, 83, 84, 85, 86, 87] rfl (by decide +kernel)
set_option maxRecDepth 20000 in
theorem gX10_lightByMoves_X10_layMove : GoodIn wsX10_lightByMoves (wsV RX10 184 RX10 yX10_layMove wsX10_layMove) := goodIn_app (goodIn_of _ (by decide +kernel)) ggX10_lightByMoves_X10_layMove
set_option maxRecDepth 20000 in
theorem ggX10_lightByMoves_X10_lightBy : GoodIn wsX10_lightByMoves wsX10_lightBy := goodIn_r _ [17, 18, 19, 20, 12, 21, 22, 23, 24, 25, 26, 27, 28, 29, 30, 31, 32, 33, 34, 35, 1, 3, 5, 7, 36, 37, 38, 39, 40, 41, 42, 43, 44, 45, 46, 47, 48, 49, 50, 51, 52, 53, 54, 55, 56, 57, 58, 59, 60, 61, 62, 63, 64, 65, 66, 67, 68, 69, 70, 71, 72, 73, 74, 75, 76, 77, 78, 79, 80, 81, 82, 83, 84, 85, 86, 87] rfl (by decide +kernel)
set_option maxRecDepth 20000 in
theorem gX10_lightByMoves_X10_lightBy : GoodIn wsX10_lightByMoves (wsV RX10 207 RX10 yX10_lightBy wsX10_lightBy) := goodIn_app (goodIn_of _ (by decide +kernel)) ggX10_lightByMoves_X10_lightBy
theorem dX10_lightByMoves_0 : decode cX10_lightByMoves 0 = .ok (.aload_n 0, 1) := by decide +kernel
theorem dX10_lightByMoves_1 : decode cX10_lightByMoves 1 = .ok (.getfield 161, 3) := by decide +kernel
theorem dX10_lightByMoves_4 : decode cX10_lightByMoves 4 = .ok (.istore 5, 2) := by decide +kernel
theorem dX10_lightByMoves_6 : decode cX10_lightByMoves 6 = .ok (.iconst 0, 1) := by decide +kernel
theorem dX10_lightByMoves_7 : decode cX10_lightByMoves 7 = .ok (.istore 6, 2) := by decide +kernel
theorem dX10_lightByMoves_9 : decode cX10_lightByMoves 9 = .ok (.iload 6, 2) := by decide +kernel
theorem dX10_lightByMoves_11 : decode cX10_lightByMoves 11 = .ok (.iload 5, 2) := by decide +kernel
theorem dX10_lightByMoves_13 : decode cX10_lightByMoves 13 = .ok (.if_icmp .ge 51, 3) := by decide +kernel
theorem dX10_lightByMoves_16 : decode cX10_lightByMoves 16 = .ok (.aload_n 0, 1) := by decide +kernel
theorem dX10_lightByMoves_17 : decode cX10_lightByMoves 17 = .ok (.getfield 52, 3) := by decide +kernel
theorem dX10_lightByMoves_20 : decode cX10_lightByMoves 20 = .ok (.iload 6, 2) := by decide +kernel
theorem dX10_lightByMoves_22 : decode cX10_lightByMoves 22 = .ok (.aload_n 0, 1) := by decide +kernel
theorem dX10_lightByMoves_23 : decode cX10_lightByMoves 23 = .ok (.getfield 37, 3) := by decide +kernel
theorem dX10_lightByMoves_26 : decode cX10_lightByMoves 26 = .ok (.iload 6, 2) := by decide +kernel
theorem dX10_lightByMoves_28 : decode cX10_lightByMoves 28 = .ok (.iaload, 1) := by decide +kernel
theorem dX10_lightByMoves_29 : decode cX10_lightByMoves 29 = .ok (.iastore, 1) := by decide +kernel
theorem dX10_lightByMoves_30 : decode cX10_lightByMoves 30 = .ok (.aload_n 0, 1) := by decide +kernel
theorem dX10_lightByMoves_31 : decode cX10_lightByMoves 31 = .ok (.getfield 55, 3) := by decide +kernel
theorem dX10_lightByMoves_34 : decode cX10_lightByMoves 34 = .ok (.iload 6, 2) := by decide +kernel
theorem dX10_lightByMoves_36 : decode cX10_lightByMoves 36 = .ok (.aload_n 0, 1) := by decide +kernel
theorem dX10_lightByMoves_37 : decode cX10_lightByMoves 37 = .ok (.getfield 40, 3) := by decide +kernel
theorem dX10_lightByMoves_40 : decode cX10_lightByMoves 40 = .ok (.iload 6, 2) := by decide +kernel
theorem dX10_lightByMoves_42 : decode cX10_lightByMoves 42 = .ok (.iaload, 1) := by decide +kernel
theorem dX10_lightByMoves_43 : decode cX10_lightByMoves 43 = .ok (.iastore, 1) := by decide +kernel
theorem dX10_lightByMoves_44 : decode cX10_lightByMoves 44 = .ok (.aload_n 0, 1) := by decide +kernel
theorem dX10_lightByMoves_45 : decode cX10_lightByMoves 45 = .ok (.getfield 58, 3) := by decide +kernel
theorem dX10_lightByMoves_48 : decode cX10_lightByMoves 48 = .ok (.iload 6, 2) := by decide +kernel
theorem dX10_lightByMoves_50 : decode cX10_lightByMoves 50 = .ok (.aload_n 0, 1) := by decide +kernel
theorem dX10_lightByMoves_51 : decode cX10_lightByMoves 51 = .ok (.getfield 43, 3) := by decide +kernel
theorem dX10_lightByMoves_54 : decode cX10_lightByMoves 54 = .ok (.iload 6, 2) := by decide +kernel
theorem dX10_lightByMoves_56 : decode cX10_lightByMoves 56 = .ok (.iaload, 1) := by decide +kernel
theorem dX10_lightByMoves_57 : decode cX10_lightByMoves 57 = .ok (.iastore, 1) := by decide +kernel
theorem dX10_lightByMoves_58 : decode cX10_lightByMoves 58 = .ok (.iinc 6 1, 3) := by decide +kernel
theorem dX10_lightByMoves_61 : decode cX10_lightByMoves 61 = .ok (.goto (-52), 3) := by decide +kernel
theorem dX10_lightByMoves_64 : decode cX10_lightByMoves 64 = .ok (.iconst 0, 1) := by decide +kernel
theorem dX10_lightByMoves_65 : decode cX10_lightByMoves 65 = .ok (.istore 6, 2) := by decide +kernel
theorem dX10_lightByMoves_67 : decode cX10_lightByMoves 67 = .ok (.iload 6, 2) := by decide +kernel
theorem dX10_lightByMoves_69 : decode cX10_lightByMoves 69 = .ok (.iload 4, 2) := by decide +kernel
theorem dX10_lightByMoves_71 : decode cX10_lightByMoves 71 = .ok (.if_icmp .ge 52, 3) := by decide +kernel
theorem dX10_lightByMoves_74 : decode cX10_lightByMoves 74 = .ok (.aload_n 0, 1) := by decide +kernel
theorem dX10_lightByMoves_75 : decode cX10_lightByMoves 75 = .ok (.iload 6, 2) := by decide +kernel
theorem dX10_lightByMoves_77 : decode cX10_lightByMoves 77 = .ok (.aload_n 0, 1) := by decide +kernel
theorem dX10_lightByMoves_78 : decode cX10_lightByMoves 78 = .ok (.getfield 79, 3) := by decide +kernel
theorem dX10_lightByMoves_81 : decode cX10_lightByMoves 81 = .ok (.iload_n 3, 1) := by decide +kernel
theorem dX10_lightByMoves_82 : decode cX10_lightByMoves 82 = .ok (.iconst 3, 1) := by decide +kernel
theorem dX10_lightByMoves_83 : decode cX10_lightByMoves 83 = .ok (.iload 6, 2) := by decide +kernel
theorem dX10_lightByMoves_85 : decode cX10_lightByMoves 85 = .ok (.imul, 1) := by decide +kernel
theorem dX10_lightByMoves_86 : decode cX10_lightByMoves 86 = .ok (.iadd, 1) := by decide +kernel
theorem dX10_lightByMoves_87 : decode cX10_lightByMoves 87 = .ok (.iaload, 1) := by decide +kernel
theorem dX10_lightByMoves_88 : decode cX10_lightByMoves 88 = .ok (.aload_n 0, 1) := by decide +kernel
theorem dX10_lightByMoves_89 : decode cX10_lightByMoves 89 = .ok (.getfield 79, 3) := by decide +kernel
theorem dX10_lightByMoves_92 : decode cX10_lightByMoves 92 = .ok (.iload_n 3, 1) := by decide +kernel
theorem dX10_lightByMoves_93 : decode cX10_lightByMoves 93 = .ok (.iconst 3, 1) := by decide +kernel
theorem dX10_lightByMoves_94 : decode cX10_lightByMoves 94 = .ok (.iload 6, 2) := by decide +kernel
theorem dX10_lightByMoves_96 : decode cX10_lightByMoves 96 = .ok (.imul, 1) := by decide +kernel
theorem dX10_lightByMoves_97 : decode cX10_lightByMoves 97 = .ok (.iadd, 1) := by decide +kernel
theorem dX10_lightByMoves_98 : decode cX10_lightByMoves 98 = .ok (.iconst 1, 1) := by decide +kernel
theorem dX10_lightByMoves_99 : decode cX10_lightByMoves 99 = .ok (.iadd, 1) := by decide +kernel
theorem dX10_lightByMoves_100 : decode cX10_lightByMoves 100 = .ok (.iaload, 1) := by decide +kernel
theorem dX10_lightByMoves_101 : decode cX10_lightByMoves 101 = .ok (.aload_n 0, 1) := by decide +kernel
theorem dX10_lightByMoves_102 : decode cX10_lightByMoves 102 = .ok (.getfield 79, 3) := by decide +kernel
theorem dX10_lightByMoves_105 : decode cX10_lightByMoves 105 = .ok (.iload_n 3, 1) := by decide +kernel
theorem dX10_lightByMoves_106 : decode cX10_lightByMoves 106 = .ok (.iconst 3, 1) := by decide +kernel
theorem dX10_lightByMoves_107 : decode cX10_lightByMoves 107 = .ok (.iload 6, 2) := by decide +kernel
theorem dX10_lightByMoves_109 : decode cX10_lightByMoves 109 = .ok (.imul, 1) := by decide +kernel
theorem dX10_lightByMoves_110 : decode cX10_lightByMoves 110 = .ok (.iadd, 1) := by decide +kernel
theorem dX10_lightByMoves_111 : decode cX10_lightByMoves 111 = .ok (.iconst 2, 1) := by decide +kernel
theorem dX10_lightByMoves_112 : decode cX10_lightByMoves 112 = .ok (.iadd, 1) := by decide +kernel
theorem dX10_lightByMoves_113 : decode cX10_lightByMoves 113 = .ok (.iaload, 1) := by decide +kernel
theorem dX10_lightByMoves_114 : decode cX10_lightByMoves 114 = .ok (.invokevirtual 184, 3) := by decide +kernel
theorem dX10_lightByMoves_117 : decode cX10_lightByMoves 117 = .ok (.iinc 6 1, 3) := by decide +kernel
theorem dX10_lightByMoves_120 : decode cX10_lightByMoves 120 = .ok (.goto (-53), 3) := by decide +kernel
theorem dX10_lightByMoves_123 : decode cX10_lightByMoves 123 = .ok (.aload_n 0, 1) := by decide +kernel
theorem dX10_lightByMoves_124 : decode cX10_lightByMoves 124 = .ok (.iload 4, 2) := by decide +kernel
theorem dX10_lightByMoves_126 : decode cX10_lightByMoves 126 = .ok (.putfield 161, 3) := by decide +kernel
theorem dX10_lightByMoves_129 : decode cX10_lightByMoves 129 = .ok (.aload_n 0, 1) := by decide +kernel
theorem dX10_lightByMoves_130 : decode cX10_lightByMoves 130 = .ok (.iload_n 1, 1) := by decide +kernel
theorem dX10_lightByMoves_131 : decode cX10_lightByMoves 131 = .ok (.iload_n 2, 1) := by decide +kernel
theorem dX10_lightByMoves_132 : decode cX10_lightByMoves 132 = .ok (.invokevirtual 207, 3) := by decide +kernel
theorem dX10_lightByMoves_135 : decode cX10_lightByMoves 135 = .ok (.istore 6, 2) := by decide +kernel
theorem dX10_lightByMoves_137 : decode cX10_lightByMoves 137 = .ok (.iconst 0, 1) := by decide +kernel
theorem dX10_lightByMoves_138 : decode cX10_lightByMoves 138 = .ok (.istore 7, 2) := by decide +kernel
theorem dX10_lightByMoves_140 : decode cX10_lightByMoves 140 = .ok (.iload 7, 2) := by decide +kernel
theorem dX10_lightByMoves_142 : decode cX10_lightByMoves 142 = .ok (.iload 5, 2) := by decide +kernel
theorem dX10_lightByMoves_144 : decode cX10_lightByMoves 144 = .ok (.if_icmp .ge 36, 3) := by decide +kernel
theorem dX10_lightByMoves_147 : decode cX10_lightByMoves 147 = .ok (.aload_n 0, 1) := by decide +kernel
theorem dX10_lightByMoves_148 : decode cX10_lightByMoves 148 = .ok (.iload 7, 2) := by decide +kernel
theorem dX10_lightByMoves_150 : decode cX10_lightByMoves 150 = .ok (.aload_n 0, 1) := by decide +kernel
theorem dX10_lightByMoves_151 : decode cX10_lightByMoves 151 = .ok (.getfield 52, 3) := by decide +kernel
theorem dX10_lightByMoves_154 : decode cX10_lightByMoves 154 = .ok (.iload 7, 2) := by decide +kernel
theorem dX10_lightByMoves_156 : decode cX10_lightByMoves 156 = .ok (.iaload, 1) := by decide +kernel
theorem dX10_lightByMoves_157 : decode cX10_lightByMoves 157 = .ok (.aload_n 0, 1) := by decide +kernel
theorem dX10_lightByMoves_158 : decode cX10_lightByMoves 158 = .ok (.getfield 55, 3) := by decide +kernel
theorem dX10_lightByMoves_161 : decode cX10_lightByMoves 161 = .ok (.iload 7, 2) := by decide +kernel
theorem dX10_lightByMoves_163 : decode cX10_lightByMoves 163 = .ok (.iaload, 1) := by decide +kernel
theorem dX10_lightByMoves_164 : decode cX10_lightByMoves 164 = .ok (.aload_n 0, 1) := by decide +kernel
theorem dX10_lightByMoves_165 : decode cX10_lightByMoves 165 = .ok (.getfield 58, 3) := by decide +kernel
theorem dX10_lightByMoves_168 : decode cX10_lightByMoves 168 = .ok (.iload 7, 2) := by decide +kernel
theorem dX10_lightByMoves_170 : decode cX10_lightByMoves 170 = .ok (.iaload, 1) := by decide +kernel
theorem dX10_lightByMoves_171 : decode cX10_lightByMoves 171 = .ok (.invokevirtual 184, 3) := by decide +kernel
theorem dX10_lightByMoves_174 : decode cX10_lightByMoves 174 = .ok (.iinc 7 1, 3) := by decide +kernel
theorem dX10_lightByMoves_177 : decode cX10_lightByMoves 177 = .ok (.goto (-37), 3) := by decide +kernel
theorem dX10_lightByMoves_180 : decode cX10_lightByMoves 180 = .ok (.aload_n 0, 1) := by decide +kernel
theorem dX10_lightByMoves_181 : decode cX10_lightByMoves 181 = .ok (.iload 5, 2) := by decide +kernel
theorem dX10_lightByMoves_183 : decode cX10_lightByMoves 183 = .ok (.putfield 161, 3) := by decide +kernel
theorem dX10_lightByMoves_186 : decode cX10_lightByMoves 186 = .ok (.iload 6, 2) := by decide +kernel
theorem dX10_lightByMoves_188 : decode cX10_lightByMoves 188 = .ok (.ireturn, 1) := by decide +kernel
set_option maxRecDepth 20000 in
theorem ggX10_moves_X10_noSpot : GoodIn wsX10_moves wsX10_noSpot := goodIn_r _ [9, 10, 11, 12, 8, 13, 96, 97, 98, 99, 100, 101, 102, 103, 104, 105, 106, 107, 108, 109, 110, 111, 112, 113, 114, 115, 116, 117, 118, 119, 120, 121, 122, 123, 124, 125, 126, 127, 128, 129, 130, 131] rfl (by decide +kernel)
set_option maxRecDepth 20000 in
theorem gX10_moves_X10_noSpot : GoodIn wsX10_moves (wsV RX10 169 RX10 yX10_noSpot wsX10_noSpot) := goodIn_app (goodIn_of _ (by decide +kernel)) ggX10_moves_X10_noSpot
set_option maxRecDepth 20000 in
theorem ggX10_moves_X10_refused : GoodIn wsX10_moves wsX10_refused := goodIn_r _ [17, 18, 96, 97, 98, 99, 100, 101, 102, 103, 104, 105, 106, 107, 108, 109, 110, 111, 112, 113, 114, 115, 116, 117, 118, 119, 120, 121, 122, 123, 124, 125, 126, 127, 128, 129, 130, 131] rfl (by decide +kernel)
set_option maxRecDepth 20000 in
theorem gX10_moves_X10_refused : GoodIn wsX10_moves (wsV RX10 146 RX10 yX10_refused wsX10_refused) := goodIn_app (goodIn_of _ (by decide +kernel)) ggX10_moves_X10_refused
set_option maxRecDepth 20000 in
theorem ggX10_moves_X10_isWatch : GoodIn wsX10_moves wsX10_isWatch := goodIn_r _ [21, 22, 11, 12, 8, 13] rfl (by decide +kernel)
set_option maxRecDepth 20000 in
theorem gX10_moves_X10_isWatch : GoodIn wsX10_moves (va_wsS RX10 181 yX10_isWatch wsX10_isWatch) := goodIn_app (goodIn_of _ (by decide +kernel)) ggX10_moves_X10_isWatch
set_option maxRecDepth 20000 in
theorem ggX10_moves_X10_noSheet : GoodIn wsX10_moves wsX10_noSheet := goodIn_r _ [25, 3, 11, 12, 8, 13] rfl (by decide +kernel)
set_option maxRecDepth 20000 in
theorem gX10_moves_X10_noSheet : GoodIn wsX10_moves (va_wsS RX10 142 yX10_noSheet wsX10_noSheet) := goodIn_app (goodIn_of _ (by decide +kernel)) ggX10_moves_X10_noSheet
set_option maxRecDepth 20000 in
theorem ggX10_moves_X10_in : GoodIn wsX10_moves wsX10_in := goodIn_r _ [13] rfl (by decide +kernel)
set_option maxRecDepth 20000 in
theorem gX10_moves_X10_in : GoodIn wsX10_moves (va_wsS RX10 101 yX10_in wsX10_in) := goodIn_app (goodIn_of _ (by decide +kernel)) ggX10_moves_X10_in
set_option maxRecDepth 20000 in
theorem ggX10_moves_X10_cellsBarred : GoodIn wsX10_moves wsX10_cellsBarred := goodIn_r _ [29, 30, 31, 32, 33, 34, 8, 35, 18, 36, 37, 38, 96, 97, 98, 99, 100, 101, 102, 103, 104, 105, 106, 107, 108, 109, 110, 111, 112, 113, 114, 115, 116, 117, 118, 119, 120, 121, 122, 123, 124, 125, 126, 127, 128, 129, 130, 131] rfl (by decide +kernel)
set_option maxRecDepth 20000 in
theorem gX10_moves_X10_cellsBarred : GoodIn wsX10_moves (wsV RX10 151 RX10 yX10_cellsBarred wsX10_cellsBarred) := goodIn_app (goodIn_of _ (by decide +kernel)) ggX10_moves_X10_cellsBarred
set_option maxRecDepth 20000 in
theorem ggX10_moves_X10_noLamp : GoodIn wsX10_moves wsX10_noLamp := goodIn_r _ [42, 43, 11, 12, 8, 13, 96, 97, 98, 99, 100, 101, 102, 103, 104, 105, 106, 107, 108, 109, 110, 111, 112, 113, 114, 115, 116, 117, 118, 119, 120, 121, 122, 123, 124, 125, 126, 127, 128, 129, 130, 131] rfl (by decide +kernel)
set_option maxRecDepth 20000 in
theorem gX10_moves_X10_noLamp : GoodIn wsX10_moves (wsV RX10 172 RX10 yX10_noLamp wsX10_noLamp) := goodIn_app (goodIn_of _ (by decide +kernel)) ggX10_moves_X10_noLamp
set_option maxRecDepth 20000 in
theorem ggX10_moves_X10_lightByMoves : GoodIn wsX10_moves wsX10_lightByMoves := goodIn_r _ [47, 48, 49, 50, 51, 52, 53, 54, 4, 55, 56, 57, 8, 58, 59, 60, 61, 62, 63, 64, 65, 66, 43, 67, 68, 69, 70, 71, 72, 73, 74, 75, 76, 77, 78, 79, 80, 81, 82, 83, 84, 85, 86, 87, 88, 89, 90, 91, 92, 93, 94, 95, 96, 97, 98, 99, 100, 101, 102, 103, 104, 105, 106, 107, 108, 109, 110, 111, 112, 113, 114, 115, 116, 117, 118, 119, 120, 121, 122, 123, 124, 125, 126, 127, 128, 129, 130, 131] rfl (by decide +kernel)
set_option maxRecDepth 20000 in
theorem gX10_moves_X10_lightByMoves : GoodIn wsX10_moves (wsV RX10 221 RX10 yX10_lightByMoves wsX10_lightByMoves) := goodIn_app (goodIn_of _ (by decide +kernel)) ggX10_moves_X10_lightByMoves
theorem dX10_moves_0 : decode cX10_moves 0 = .ok (.aload_n 0, 1) := by decide +kernel
theorem dX10_moves_1 : decode cX10_moves 1 = .ok (.iload_n 1, 1) := by decide +kernel
theorem dX10_moves_2 : decode cX10_moves 2 = .ok (.invokevirtual 169, 3) := by decide +kernel
theorem dX10_moves_5 : decode cX10_moves 5 = .ok (.ifCond .eq 9, 3) := by decide +kernel
theorem dX10_moves_8 : decode cX10_moves 8 = .ok (.aload_n 0, 1) := by decide +kernel
theorem dX10_moves_9 : decode cX10_moves 9 = .ok (.iconst (-1), 1) := by decide +kernel
theorem dX10_moves_10 : decode cX10_moves 10 = .ok (.invokevirtual 146, 3) := by decide +kernel
theorem dX10_moves_13 : decode cX10_moves 13 = .ok (.ireturn, 1) := by decide +kernel
theorem dX10_moves_14 : decode cX10_moves 14 = .ok (.iload_n 2, 1) := by decide +kernel
theorem dX10_moves_15 : decode cX10_moves 15 = .ok (.invokestatic 181, 3) := by decide +kernel
theorem dX10_moves_18 : decode cX10_moves 18 = .ok (.ifCond .ne 10, 3) := by decide +kernel
theorem dX10_moves_21 : decode cX10_moves 21 = .ok (.aload_n 0, 1) := by decide +kernel
theorem dX10_moves_22 : decode cX10_moves 22 = .ok (.bipush (-2), 2) := by decide +kernel
theorem dX10_moves_24 : decode cX10_moves 24 = .ok (.invokevirtual 146, 3) := by decide +kernel
theorem dX10_moves_27 : decode cX10_moves 27 = .ok (.ireturn, 1) := by decide +kernel
theorem dX10_moves_28 : decode cX10_moves 28 = .ok (.iload_n 3, 1) := by decide +kernel
theorem dX10_moves_29 : decode cX10_moves 29 = .ok (.invokestatic 142, 3) := by decide +kernel
theorem dX10_moves_32 : decode cX10_moves 32 = .ok (.ifCond .eq 9, 3) := by decide +kernel
theorem dX10_moves_35 : decode cX10_moves 35 = .ok (.aload_n 0, 1) := by decide +kernel
theorem dX10_moves_36 : decode cX10_moves 36 = .ok (.iconst (-1), 1) := by decide +kernel
theorem dX10_moves_37 : decode cX10_moves 37 = .ok (.invokevirtual 146, 3) := by decide +kernel
theorem dX10_moves_40 : decode cX10_moves 40 = .ok (.ireturn, 1) := by decide +kernel
theorem dX10_moves_41 : decode cX10_moves 41 = .ok (.iload 4, 2) := by decide +kernel
theorem dX10_moves_43 : decode cX10_moves 43 = .ok (.i2l, 1) := by decide +kernel
theorem dX10_moves_44 : decode cX10_moves 44 = .ok (.lconst 0, 1) := by decide +kernel
theorem dX10_moves_45 : decode cX10_moves 45 = .ok (.ldc2_w 149, 3) := by decide +kernel
theorem dX10_moves_48 : decode cX10_moves 48 = .ok (.invokestatic 101, 3) := by decide +kernel
theorem dX10_moves_51 : decode cX10_moves 51 = .ok (.ifCond .eq 16, 3) := by decide +kernel
theorem dX10_moves_54 : decode cX10_moves 54 = .ok (.iload 6, 2) := by decide +kernel
theorem dX10_moves_56 : decode cX10_moves 56 = .ok (.i2l, 1) := by decide +kernel
theorem dX10_moves_57 : decode cX10_moves 57 = .ok (.lconst 0, 1) := by decide +kernel
theorem dX10_moves_58 : decode cX10_moves 58 = .ok (.ldc2_w 219, 3) := by decide +kernel
theorem dX10_moves_61 : decode cX10_moves 61 = .ok (.invokestatic 101, 3) := by decide +kernel
theorem dX10_moves_64 : decode cX10_moves 64 = .ok (.ifCond .ne 10, 3) := by decide +kernel
theorem dX10_moves_67 : decode cX10_moves 67 = .ok (.aload_n 0, 1) := by decide +kernel
theorem dX10_moves_68 : decode cX10_moves 68 = .ok (.bipush (-2), 2) := by decide +kernel
theorem dX10_moves_70 : decode cX10_moves 70 = .ok (.invokevirtual 146, 3) := by decide +kernel
theorem dX10_moves_73 : decode cX10_moves 73 = .ok (.ireturn, 1) := by decide +kernel
theorem dX10_moves_74 : decode cX10_moves 74 = .ok (.aload_n 0, 1) := by decide +kernel
theorem dX10_moves_75 : decode cX10_moves 75 = .ok (.iload_n 3, 1) := by decide +kernel
theorem dX10_moves_76 : decode cX10_moves 76 = .ok (.iload 4, 2) := by decide +kernel
theorem dX10_moves_78 : decode cX10_moves 78 = .ok (.iload 5, 2) := by decide +kernel
theorem dX10_moves_80 : decode cX10_moves 80 = .ok (.ldc2_w 175, 3) := by decide +kernel
theorem dX10_moves_83 : decode cX10_moves 83 = .ok (.iload 6, 2) := by decide +kernel
theorem dX10_moves_85 : decode cX10_moves 85 = .ok (.i2l, 1) := by decide +kernel
theorem dX10_moves_86 : decode cX10_moves 86 = .ok (.lmul, 1) := by decide +kernel
theorem dX10_moves_87 : decode cX10_moves 87 = .ok (.invokevirtual 151, 3) := by decide +kernel
theorem dX10_moves_90 : decode cX10_moves 90 = .ok (.istore 7, 2) := by decide +kernel
theorem dX10_moves_92 : decode cX10_moves 92 = .ok (.iload 7, 2) := by decide +kernel
theorem dX10_moves_94 : decode cX10_moves 94 = .ok (.ifCond .ge 6, 3) := by decide +kernel
theorem dX10_moves_97 : decode cX10_moves 97 = .ok (.iload 7, 2) := by decide +kernel
theorem dX10_moves_99 : decode cX10_moves 99 = .ok (.ireturn, 1) := by decide +kernel
theorem dX10_moves_100 : decode cX10_moves 100 = .ok (.bipush 60, 2) := by decide +kernel
theorem dX10_moves_102 : decode cX10_moves 102 = .ok (.iload_n 3, 1) := by decide +kernel
theorem dX10_moves_103 : decode cX10_moves 103 = .ok (.imul, 1) := by decide +kernel
theorem dX10_moves_104 : decode cX10_moves 104 = .ok (.iload 5, 2) := by decide +kernel
theorem dX10_moves_106 : decode cX10_moves 106 = .ok (.iadd, 1) := by decide +kernel
theorem dX10_moves_107 : decode cX10_moves 107 = .ok (.istore 8, 2) := by decide +kernel
theorem dX10_moves_109 : decode cX10_moves 109 = .ok (.iconst 0, 1) := by decide +kernel
theorem dX10_moves_110 : decode cX10_moves 110 = .ok (.istore 9, 2) := by decide +kernel
theorem dX10_moves_112 : decode cX10_moves 112 = .ok (.iload 9, 2) := by decide +kernel
theorem dX10_moves_114 : decode cX10_moves 114 = .ok (.iload 6, 2) := by decide +kernel
theorem dX10_moves_116 : decode cX10_moves 116 = .ok (.if_icmp .ge 88, 3) := by decide +kernel
theorem dX10_moves_119 : decode cX10_moves 119 = .ok (.aload_n 0, 1) := by decide +kernel
theorem dX10_moves_120 : decode cX10_moves 120 = .ok (.aload_n 0, 1) := by decide +kernel
theorem dX10_moves_121 : decode cX10_moves 121 = .ok (.getfield 79, 3) := by decide +kernel
theorem dX10_moves_124 : decode cX10_moves 124 = .ok (.iload 8, 2) := by decide +kernel
theorem dX10_moves_126 : decode cX10_moves 126 = .ok (.iconst 3, 1) := by decide +kernel
theorem dX10_moves_127 : decode cX10_moves 127 = .ok (.iload 9, 2) := by decide +kernel
theorem dX10_moves_129 : decode cX10_moves 129 = .ok (.imul, 1) := by decide +kernel
theorem dX10_moves_130 : decode cX10_moves 130 = .ok (.iadd, 1) := by decide +kernel
theorem dX10_moves_131 : decode cX10_moves 131 = .ok (.iaload, 1) := by decide +kernel
theorem dX10_moves_132 : decode cX10_moves 132 = .ok (.invokevirtual 172, 3) := by decide +kernel
theorem dX10_moves_135 : decode cX10_moves 135 = .ok (.ifCond .eq 9, 3) := by decide +kernel
theorem dX10_moves_138 : decode cX10_moves 138 = .ok (.aload_n 0, 1) := by decide +kernel
theorem dX10_moves_139 : decode cX10_moves 139 = .ok (.iconst (-1), 1) := by decide +kernel
theorem dX10_moves_140 : decode cX10_moves 140 = .ok (.invokevirtual 146, 3) := by decide +kernel
theorem dX10_moves_143 : decode cX10_moves 143 = .ok (.ireturn, 1) := by decide +kernel
theorem dX10_moves_144 : decode cX10_moves 144 = .ok (.aload_n 0, 1) := by decide +kernel
theorem dX10_moves_145 : decode cX10_moves 145 = .ok (.getfield 79, 3) := by decide +kernel
theorem dX10_moves_148 : decode cX10_moves 148 = .ok (.iload 8, 2) := by decide +kernel
theorem dX10_moves_150 : decode cX10_moves 150 = .ok (.iconst 3, 1) := by decide +kernel
theorem dX10_moves_151 : decode cX10_moves 151 = .ok (.iload 9, 2) := by decide +kernel
theorem dX10_moves_153 : decode cX10_moves 153 = .ok (.imul, 1) := by decide +kernel
theorem dX10_moves_154 : decode cX10_moves 154 = .ok (.iadd, 1) := by decide +kernel
theorem dX10_moves_155 : decode cX10_moves 155 = .ok (.iconst 1, 1) := by decide +kernel
theorem dX10_moves_156 : decode cX10_moves 156 = .ok (.iadd, 1) := by decide +kernel
theorem dX10_moves_157 : decode cX10_moves 157 = .ok (.iaload, 1) := by decide +kernel
theorem dX10_moves_158 : decode cX10_moves 158 = .ok (.invokestatic 181, 3) := by decide +kernel
theorem dX10_moves_161 : decode cX10_moves 161 = .ok (.ifCond .ne 10, 3) := by decide +kernel
theorem dX10_moves_164 : decode cX10_moves 164 = .ok (.aload_n 0, 1) := by decide +kernel
theorem dX10_moves_165 : decode cX10_moves 165 = .ok (.bipush (-2), 2) := by decide +kernel
theorem dX10_moves_167 : decode cX10_moves 167 = .ok (.invokevirtual 146, 3) := by decide +kernel
theorem dX10_moves_170 : decode cX10_moves 170 = .ok (.ireturn, 1) := by decide +kernel
theorem dX10_moves_171 : decode cX10_moves 171 = .ok (.aload_n 0, 1) := by decide +kernel
theorem dX10_moves_172 : decode cX10_moves 172 = .ok (.aload_n 0, 1) := by decide +kernel
theorem dX10_moves_173 : decode cX10_moves 173 = .ok (.getfield 79, 3) := by decide +kernel
theorem dX10_moves_176 : decode cX10_moves 176 = .ok (.iload 8, 2) := by decide +kernel
theorem dX10_moves_178 : decode cX10_moves 178 = .ok (.iconst 3, 1) := by decide +kernel
theorem dX10_moves_179 : decode cX10_moves 179 = .ok (.iload 9, 2) := by decide +kernel
theorem dX10_moves_181 : decode cX10_moves 181 = .ok (.imul, 1) := by decide +kernel
theorem dX10_moves_182 : decode cX10_moves 182 = .ok (.iadd, 1) := by decide +kernel
theorem dX10_moves_183 : decode cX10_moves 183 = .ok (.iconst 2, 1) := by decide +kernel
theorem dX10_moves_184 : decode cX10_moves 184 = .ok (.iadd, 1) := by decide +kernel
theorem dX10_moves_185 : decode cX10_moves 185 = .ok (.iaload, 1) := by decide +kernel
theorem dX10_moves_186 : decode cX10_moves 186 = .ok (.invokevirtual 169, 3) := by decide +kernel
theorem dX10_moves_189 : decode cX10_moves 189 = .ok (.ifCond .eq 9, 3) := by decide +kernel
theorem dX10_moves_192 : decode cX10_moves 192 = .ok (.aload_n 0, 1) := by decide +kernel
theorem dX10_moves_193 : decode cX10_moves 193 = .ok (.iconst (-1), 1) := by decide +kernel
theorem dX10_moves_194 : decode cX10_moves 194 = .ok (.invokevirtual 146, 3) := by decide +kernel
theorem dX10_moves_197 : decode cX10_moves 197 = .ok (.ireturn, 1) := by decide +kernel
theorem dX10_moves_198 : decode cX10_moves 198 = .ok (.iinc 9 1, 3) := by decide +kernel
theorem dX10_moves_201 : decode cX10_moves 201 = .ok (.goto (-89), 3) := by decide +kernel
theorem dX10_moves_204 : decode cX10_moves 204 = .ok (.aload_n 0, 1) := by decide +kernel
theorem dX10_moves_205 : decode cX10_moves 205 = .ok (.aload_n 0, 1) := by decide +kernel
theorem dX10_moves_206 : decode cX10_moves 206 = .ok (.iload_n 1, 1) := by decide +kernel
theorem dX10_moves_207 : decode cX10_moves 207 = .ok (.iload_n 2, 1) := by decide +kernel
theorem dX10_moves_208 : decode cX10_moves 208 = .ok (.iload 8, 2) := by decide +kernel
theorem dX10_moves_210 : decode cX10_moves 210 = .ok (.iload 6, 2) := by decide +kernel
theorem dX10_moves_212 : decode cX10_moves 212 = .ok (.invokevirtual 221, 3) := by decide +kernel
theorem dX10_moves_215 : decode cX10_moves 215 = .ok (.invokevirtual 146, 3) := by decide +kernel
theorem dX10_moves_218 : decode cX10_moves 218 = .ok (.ireturn, 1) := by decide +kernel
set_option maxRecDepth 20000 in
theorem ggX10_allLight_X10_goTo : GoodIn wsX10_allLight wsX10_goTo := goodIn_r _ [6, 7, 8, 9, 10, 11, 12, 13, 5, 14, 15, 16, 17, 18, 19, 20, 21, 22, 23, 24, 25, 26, 27, 28, 29, 30, 31, 32, 33, 34, 35, 36, 41, 42, 43, 44, 45, 46, 47, 48, 49, 50, 51, 52, 53, 54, 55, 56, 57, 58, 59, 60, 61, 62, 63, 64, 65, 66, 67, 68, 69, 70, 71, 72, 73, 74, 75, 76] rfl (by decide +kernel)
set_option maxRecDepth 20000 in
theorem gX10_allLight_X10_goTo : GoodIn wsX10_allLight (wsV RX10 200 RX10 yX10_goTo wsX10_goTo) := goodIn_app (goodIn_of _ (by decide +kernel)) ggX10_allLight_X10_goTo
set_option maxRecDepth 20000 in
theorem ggX10_allLight_X10_lightOf : GoodIn wsX10_allLight wsX10_lightOf := goodIn_r _ [40, 25, 26, 27, 5, 28, 29, 30, 31, 32, 33, 34, 35, 7, 36, 8, 16, 17, 18, 19, 20, 21, 22, 23, 24, 41, 42, 43, 44, 45, 46, 47, 48, 49, 50, 51, 52, 53, 54, 55, 56, 57, 58, 59, 60, 61, 62, 63, 64, 65, 66, 67, 68, 69, 70, 71, 72, 73, 74, 75, 76] rfl (by decide +kernel)
set_option maxRecDepth 20000 in
theorem gX10_allLight_X10_lightOf : GoodIn wsX10_allLight (wsV RX10 204 RX10 yX10_lightOf wsX10_lightOf) := goodIn_app (goodIn_of _ (by decide +kernel)) ggX10_allLight_X10_lightOf
theorem dX10_allLight_0 : decode cX10_allLight 0 = .ok (.aload_n 0, 1) := by decide +kernel
theorem dX10_allLight_1 : decode cX10_allLight 1 = .ok (.bipush 23, 2) := by decide +kernel
theorem dX10_allLight_3 : decode cX10_allLight 3 = .ok (.invokevirtual 200, 3) := by decide +kernel
theorem dX10_allLight_6 : decode cX10_allLight 6 = .ok (.iconst 0, 1) := by decide +kernel
theorem dX10_allLight_7 : decode cX10_allLight 7 = .ok (.istore_n 1, 1) := by decide +kernel
theorem dX10_allLight_8 : decode cX10_allLight 8 = .ok (.iconst 0, 1) := by decide +kernel
theorem dX10_allLight_9 : decode cX10_allLight 9 = .ok (.istore_n 2, 1) := by decide +kernel
theorem dX10_allLight_10 : decode cX10_allLight 10 = .ok (.iload_n 2, 1) := by decide +kernel
theorem dX10_allLight_11 : decode cX10_allLight 11 = .ok (.aload_n 0, 1) := by decide +kernel
theorem dX10_allLight_12 : decode cX10_allLight 12 = .ok (.getfield 98, 3) := by decide +kernel
theorem dX10_allLight_15 : decode cX10_allLight 15 = .ok (.if_icmp .ge 32, 3) := by decide +kernel
theorem dX10_allLight_18 : decode cX10_allLight 18 = .ok (.iconst 0, 1) := by decide +kernel
theorem dX10_allLight_19 : decode cX10_allLight 19 = .ok (.istore_n 3, 1) := by decide +kernel
theorem dX10_allLight_20 : decode cX10_allLight 20 = .ok (.iload_n 3, 1) := by decide +kernel
theorem dX10_allLight_21 : decode cX10_allLight 21 = .ok (.bipush 24, 2) := by decide +kernel
theorem dX10_allLight_23 : decode cX10_allLight 23 = .ok (.if_icmp .ge 18, 3) := by decide +kernel
theorem dX10_allLight_26 : decode cX10_allLight 26 = .ok (.iload_n 1, 1) := by decide +kernel
theorem dX10_allLight_27 : decode cX10_allLight 27 = .ok (.aload_n 0, 1) := by decide +kernel
theorem dX10_allLight_28 : decode cX10_allLight 28 = .ok (.iload_n 2, 1) := by decide +kernel
theorem dX10_allLight_29 : decode cX10_allLight 29 = .ok (.iload_n 3, 1) := by decide +kernel
theorem dX10_allLight_30 : decode cX10_allLight 30 = .ok (.invokevirtual 204, 3) := by decide +kernel
theorem dX10_allLight_33 : decode cX10_allLight 33 = .ok (.iadd, 1) := by decide +kernel
theorem dX10_allLight_34 : decode cX10_allLight 34 = .ok (.istore_n 1, 1) := by decide +kernel
theorem dX10_allLight_35 : decode cX10_allLight 35 = .ok (.iinc 3 1, 3) := by decide +kernel
theorem dX10_allLight_38 : decode cX10_allLight 38 = .ok (.goto (-18), 3) := by decide +kernel
theorem dX10_allLight_41 : decode cX10_allLight 41 = .ok (.iinc 2 1, 3) := by decide +kernel
theorem dX10_allLight_44 : decode cX10_allLight 44 = .ok (.goto (-34), 3) := by decide +kernel
theorem dX10_allLight_47 : decode cX10_allLight 47 = .ok (.iload_n 1, 1) := by decide +kernel
theorem dX10_allLight_48 : decode cX10_allLight 48 = .ok (.ireturn, 1) := by decide +kernel
set_option maxRecDepth 20000 in
theorem ggX10_worth_X10_noLamp : GoodIn wsX10_worth wsX10_noLamp := goodIn_r _ [6, 7, 8, 9, 5, 10, 52, 53, 54, 55, 56, 57, 58, 59, 60, 61, 62, 63, 64, 65, 66, 67, 68, 69, 70, 71, 72, 73, 74, 75, 76, 77, 78, 79, 80, 81, 82, 83, 84, 85, 86, 87] rfl (by decide +kernel)
set_option maxRecDepth 20000 in
theorem gX10_worth_X10_noLamp : GoodIn wsX10_worth (wsV RX10 172 RX10 yX10_noLamp wsX10_noLamp) := goodIn_app (goodIn_of _ (by decide +kernel)) ggX10_worth_X10_noLamp
set_option maxRecDepth 20000 in
theorem ggX10_worth_X10_allLight : GoodIn wsX10_worth wsX10_allLight := goodIn_r _ [14, 15, 16, 17, 18, 5, 19, 7, 20, 21, 22, 23, 24, 25, 26, 27, 28, 29, 30, 31, 32, 33, 34, 35, 36, 37, 38, 39, 40, 41, 42, 43, 44, 45, 46, 47, 1, 48, 49, 50, 51, 52, 53, 54, 55, 56, 57, 58, 59, 60, 61, 62, 63, 64, 65, 66, 67, 68, 69, 70, 71, 72, 73, 74, 75, 76, 77, 78, 79, 80, 81, 82, 83, 84, 85, 86, 87] rfl (by decide +kernel)
set_option maxRecDepth 20000 in
theorem gX10_worth_X10_allLight : GoodIn wsX10_worth (wsV RX10 225 RX10 yX10_allLight wsX10_allLight) := goodIn_app (goodIn_of _ (by decide +kernel)) ggX10_worth_X10_allLight
theorem dX10_worth_0 : decode cX10_worth 0 = .ok (.aload_n 0, 1) := by decide +kernel
theorem dX10_worth_1 : decode cX10_worth 1 = .ok (.iload_n 1, 1) := by decide +kernel
theorem dX10_worth_2 : decode cX10_worth 2 = .ok (.invokevirtual 172, 3) := by decide +kernel
theorem dX10_worth_5 : decode cX10_worth 5 = .ok (.ifCond .eq 5, 3) := by decide +kernel
theorem dX10_worth_8 : decode cX10_worth 8 = .ok (.iconst (-1), 1) := by decide +kernel
theorem dX10_worth_9 : decode cX10_worth 9 = .ok (.ireturn, 1) := by decide +kernel
theorem dX10_worth_10 : decode cX10_worth 10 = .ok (.aload_n 0, 1) := by decide +kernel
theorem dX10_worth_11 : decode cX10_worth 11 = .ok (.invokevirtual 225, 3) := by decide +kernel
theorem dX10_worth_14 : decode cX10_worth 14 = .ok (.istore_n 2, 1) := by decide +kernel
theorem dX10_worth_15 : decode cX10_worth 15 = .ok (.aload_n 0, 1) := by decide +kernel
theorem dX10_worth_16 : decode cX10_worth 16 = .ok (.iload_n 1, 1) := by decide +kernel
theorem dX10_worth_17 : decode cX10_worth 17 = .ok (.putfield 85, 3) := by decide +kernel
theorem dX10_worth_20 : decode cX10_worth 20 = .ok (.iload_n 2, 1) := by decide +kernel
theorem dX10_worth_21 : decode cX10_worth 21 = .ok (.aload_n 0, 1) := by decide +kernel
theorem dX10_worth_22 : decode cX10_worth 22 = .ok (.invokevirtual 225, 3) := by decide +kernel
theorem dX10_worth_25 : decode cX10_worth 25 = .ok (.isub, 1) := by decide +kernel
theorem dX10_worth_26 : decode cX10_worth 26 = .ok (.istore_n 3, 1) := by decide +kernel
theorem dX10_worth_27 : decode cX10_worth 27 = .ok (.aload_n 0, 1) := by decide +kernel
theorem dX10_worth_28 : decode cX10_worth 28 = .ok (.bipush (-9), 2) := by decide +kernel
theorem dX10_worth_30 : decode cX10_worth 30 = .ok (.putfield 85, 3) := by decide +kernel
theorem dX10_worth_33 : decode cX10_worth 33 = .ok (.iload_n 3, 1) := by decide +kernel
theorem dX10_worth_34 : decode cX10_worth 34 = .ok (.ireturn, 1) := by decide +kernel
set_option maxRecDepth 20000 in
theorem ggX10_reading_X10_noSpot : GoodIn wsX10_reading wsX10_noSpot := goodIn_r _ [10, 11, 12, 13, 9, 14, 19, 20, 21, 22, 23, 24, 25, 26, 27, 28, 29, 30, 31, 32, 33, 34, 35, 36, 37, 38, 39, 40, 41, 42, 43, 44, 45, 46, 47, 48, 49, 50, 51, 52, 53, 54] rfl (by decide +kernel)
set_option maxRecDepth 20000 in
theorem gX10_reading_X10_noSpot : GoodIn wsX10_reading (wsV RX10 169 RX10 yX10_noSpot wsX10_noSpot) := goodIn_app (goodIn_of _ (by decide +kernel)) ggX10_reading_X10_noSpot
set_option maxRecDepth 20000 in
theorem ggX10_reading_X10_isWatch : GoodIn wsX10_reading wsX10_isWatch := goodIn_r _ [17, 18, 12, 13, 9, 14] rfl (by decide +kernel)
set_option maxRecDepth 20000 in
theorem gX10_reading_X10_isWatch : GoodIn wsX10_reading (va_wsS RX10 181 yX10_isWatch wsX10_isWatch) := goodIn_app (goodIn_of _ (by decide +kernel)) ggX10_reading_X10_isWatch
set_option maxRecDepth 20000 in
theorem ggX10_reading_X10_in : GoodIn wsX10_reading wsX10_in := goodIn_r _ [14] rfl (by decide +kernel)
set_option maxRecDepth 20000 in
theorem gX10_reading_X10_in : GoodIn wsX10_reading (va_wsS RX10 101 yX10_in wsX10_in) := goodIn_app (goodIn_of _ (by decide +kernel)) ggX10_reading_X10_in
theorem dX10_reading_0 : decode cX10_reading 0 = .ok (.aload_n 0, 1) := by decide +kernel
theorem dX10_reading_1 : decode cX10_reading 1 = .ok (.iload_n 1, 1) := by decide +kernel
theorem dX10_reading_2 : decode cX10_reading 2 = .ok (.invokevirtual 169, 3) := by decide +kernel
theorem dX10_reading_5 : decode cX10_reading 5 = .ok (.ifCond .eq 5, 3) := by decide +kernel
theorem dX10_reading_8 : decode cX10_reading 8 = .ok (.iconst (-1), 1) := by decide +kernel
theorem dX10_reading_9 : decode cX10_reading 9 = .ok (.ireturn, 1) := by decide +kernel
theorem dX10_reading_10 : decode cX10_reading 10 = .ok (.iload_n 2, 1) := by decide +kernel
theorem dX10_reading_11 : decode cX10_reading 11 = .ok (.invokestatic 181, 3) := by decide +kernel
theorem dX10_reading_14 : decode cX10_reading 14 = .ok (.ifCond .eq 15, 3) := by decide +kernel
theorem dX10_reading_17 : decode cX10_reading 17 = .ok (.iload_n 3, 1) := by decide +kernel
theorem dX10_reading_18 : decode cX10_reading 18 = .ok (.i2l, 1) := by decide +kernel
theorem dX10_reading_19 : decode cX10_reading 19 = .ok (.lconst 0, 1) := by decide +kernel
theorem dX10_reading_20 : decode cX10_reading 20 = .ok (.ldc2_w 210, 3) := by decide +kernel
theorem dX10_reading_23 : decode cX10_reading 23 = .ok (.invokestatic 101, 3) := by decide +kernel
theorem dX10_reading_26 : decode cX10_reading 26 = .ok (.ifCond .ne 6, 3) := by decide +kernel
theorem dX10_reading_29 : decode cX10_reading 29 = .ok (.bipush (-2), 2) := by decide +kernel
theorem dX10_reading_31 : decode cX10_reading 31 = .ok (.ireturn, 1) := by decide +kernel
theorem dX10_reading_32 : decode cX10_reading 32 = .ok (.aload_n 0, 1) := by decide +kernel
theorem dX10_reading_33 : decode cX10_reading 33 = .ok (.getfield 164, 3) := by decide +kernel
theorem dX10_reading_36 : decode cX10_reading 36 = .ok (.bipush 8, 2) := by decide +kernel
theorem dX10_reading_38 : decode cX10_reading 38 = .ok (.if_icmp .ne 6, 3) := by decide +kernel
theorem dX10_reading_41 : decode cX10_reading 41 = .ok (.bipush (-4), 2) := by decide +kernel
theorem dX10_reading_43 : decode cX10_reading 43 = .ok (.ireturn, 1) := by decide +kernel
theorem dX10_reading_44 : decode cX10_reading 44 = .ok (.aload_n 0, 1) := by decide +kernel
theorem dX10_reading_45 : decode cX10_reading 45 = .ok (.getfield 61, 3) := by decide +kernel
theorem dX10_reading_48 : decode cX10_reading 48 = .ok (.aload_n 0, 1) := by decide +kernel
theorem dX10_reading_49 : decode cX10_reading 49 = .ok (.getfield 164, 3) := by decide +kernel
theorem dX10_reading_52 : decode cX10_reading 52 = .ok (.iload_n 1, 1) := by decide +kernel
theorem dX10_reading_53 : decode cX10_reading 53 = .ok (.iastore, 1) := by decide +kernel
theorem dX10_reading_54 : decode cX10_reading 54 = .ok (.aload_n 0, 1) := by decide +kernel
theorem dX10_reading_55 : decode cX10_reading 55 = .ok (.getfield 64, 3) := by decide +kernel
theorem dX10_reading_58 : decode cX10_reading 58 = .ok (.aload_n 0, 1) := by decide +kernel
theorem dX10_reading_59 : decode cX10_reading 59 = .ok (.getfield 164, 3) := by decide +kernel
theorem dX10_reading_62 : decode cX10_reading 62 = .ok (.iload_n 2, 1) := by decide +kernel
theorem dX10_reading_63 : decode cX10_reading 63 = .ok (.iastore, 1) := by decide +kernel
theorem dX10_reading_64 : decode cX10_reading 64 = .ok (.aload_n 0, 1) := by decide +kernel
theorem dX10_reading_65 : decode cX10_reading 65 = .ok (.getfield 67, 3) := by decide +kernel
theorem dX10_reading_68 : decode cX10_reading 68 = .ok (.aload_n 0, 1) := by decide +kernel
theorem dX10_reading_69 : decode cX10_reading 69 = .ok (.getfield 164, 3) := by decide +kernel
theorem dX10_reading_72 : decode cX10_reading 72 = .ok (.iload_n 3, 1) := by decide +kernel
theorem dX10_reading_73 : decode cX10_reading 73 = .ok (.iastore, 1) := by decide +kernel
theorem dX10_reading_74 : decode cX10_reading 74 = .ok (.aload_n 0, 1) := by decide +kernel
theorem dX10_reading_75 : decode cX10_reading 75 = .ok (.dup, 1) := by decide +kernel
theorem dX10_reading_76 : decode cX10_reading 76 = .ok (.getfield 164, 3) := by decide +kernel
theorem dX10_reading_79 : decode cX10_reading 79 = .ok (.iconst 1, 1) := by decide +kernel
theorem dX10_reading_80 : decode cX10_reading 80 = .ok (.iadd, 1) := by decide +kernel
theorem dX10_reading_81 : decode cX10_reading 81 = .ok (.putfield 164, 3) := by decide +kernel
theorem dX10_reading_84 : decode cX10_reading 84 = .ok (.aload_n 0, 1) := by decide +kernel
theorem dX10_reading_85 : decode cX10_reading 85 = .ok (.getfield 164, 3) := by decide +kernel
theorem dX10_reading_88 : decode cX10_reading 88 = .ok (.iconst 1, 1) := by decide +kernel
theorem dX10_reading_89 : decode cX10_reading 89 = .ok (.isub, 1) := by decide +kernel
theorem dX10_reading_90 : decode cX10_reading 90 = .ok (.ireturn, 1) := by decide +kernel
set_option maxRecDepth 20000 in
theorem ggX10_back_X10_in : GoodIn wsX10_back wsX10_in := goodIn_r _ [5] rfl (by decide +kernel)
set_option maxRecDepth 20000 in
theorem gX10_back_X10_in : GoodIn wsX10_back (va_wsS RX10 101 yX10_in wsX10_in) := goodIn_app (goodIn_of _ (by decide +kernel)) ggX10_back_X10_in
theorem dX10_back_0 : decode cX10_back 0 = .ok (.iload_n 1, 1) := by decide +kernel
theorem dX10_back_1 : decode cX10_back 1 = .ok (.i2l, 1) := by decide +kernel
theorem dX10_back_2 : decode cX10_back 2 = .ok (.lconst 0, 1) := by decide +kernel
theorem dX10_back_3 : decode cX10_back 3 = .ok (.aload_n 0, 1) := by decide +kernel
theorem dX10_back_4 : decode cX10_back 4 = .ok (.getfield 164, 3) := by decide +kernel
theorem dX10_back_7 : decode cX10_back 7 = .ok (.i2l, 1) := by decide +kernel
theorem dX10_back_8 : decode cX10_back 8 = .ok (.invokestatic 101, 3) := by decide +kernel
theorem dX10_back_11 : decode cX10_back 11 = .ok (.ifCond .ne 6, 3) := by decide +kernel
theorem dX10_back_14 : decode cX10_back 14 = .ok (.bipush (-2), 2) := by decide +kernel
theorem dX10_back_16 : decode cX10_back 16 = .ok (.ireturn, 1) := by decide +kernel
theorem dX10_back_17 : decode cX10_back 17 = .ok (.aload_n 0, 1) := by decide +kernel
theorem dX10_back_18 : decode cX10_back 18 = .ok (.dup, 1) := by decide +kernel
theorem dX10_back_19 : decode cX10_back 19 = .ok (.getfield 164, 3) := by decide +kernel
theorem dX10_back_22 : decode cX10_back 22 = .ok (.iload_n 1, 1) := by decide +kernel
theorem dX10_back_23 : decode cX10_back 23 = .ok (.isub, 1) := by decide +kernel
theorem dX10_back_24 : decode cX10_back 24 = .ok (.putfield 164, 3) := by decide +kernel
theorem dX10_back_27 : decode cX10_back 27 = .ok (.aload_n 0, 1) := by decide +kernel
theorem dX10_back_28 : decode cX10_back 28 = .ok (.getfield 164, 3) := by decide +kernel
theorem dX10_back_31 : decode cX10_back 31 = .ok (.ireturn, 1) := by decide +kernel
set_option maxRecDepth 20000 in
theorem ggX10_areSo_X10_goTo : GoodIn wsX10_areSo wsX10_goTo := goodIn_r _ [9, 10, 11, 12, 13, 14, 15, 16, 8, 17, 18, 19, 20, 21, 22, 23, 24, 25, 26, 27, 28, 29, 30, 31, 32, 33, 34, 35, 36, 37, 38, 39, 44, 45, 46, 47, 48, 49, 50, 51, 52, 53, 54, 55, 56, 57, 58, 59, 60, 61, 62, 63, 64, 65, 66, 67, 68, 69, 70, 71, 72, 73, 74, 75, 76, 77, 78, 79] rfl (by decide +kernel)
set_option maxRecDepth 20000 in
theorem gX10_areSo_X10_goTo : GoodIn wsX10_areSo (wsV RX10 200 RX10 yX10_goTo wsX10_goTo) := goodIn_app (goodIn_of _ (by decide +kernel)) ggX10_areSo_X10_goTo
set_option maxRecDepth 20000 in
theorem ggX10_areSo_X10_lightOf : GoodIn wsX10_areSo wsX10_lightOf := goodIn_r _ [43, 28, 29, 30, 8, 31, 32, 33, 34, 35, 36, 37, 38, 10, 39, 11, 19, 20, 21, 22, 23, 24, 25, 26, 27, 44, 45, 46, 47, 48, 49, 50, 51, 52, 53, 54, 55, 56, 57, 58, 59, 60, 61, 62, 63, 64, 65, 66, 67, 68, 69, 70, 71, 72, 73, 74, 75, 76, 77, 78, 79] rfl (by decide +kernel)
set_option maxRecDepth 20000 in
theorem gX10_areSo_X10_lightOf : GoodIn wsX10_areSo (wsV RX10 204 RX10 yX10_lightOf wsX10_lightOf) := goodIn_app (goodIn_of _ (by decide +kernel)) ggX10_areSo_X10_lightOf
theorem dX10_areSo_0 : decode cX10_areSo 0 = .ok (.aload_n 0, 1) := by decide +kernel
theorem dX10_areSo_1 : decode cX10_areSo 1 = .ok (.bipush 23, 2) := by decide +kernel
theorem dX10_areSo_3 : decode cX10_areSo 3 = .ok (.invokevirtual 200, 3) := by decide +kernel
theorem dX10_areSo_6 : decode cX10_areSo 6 = .ok (.iconst 1, 1) := by decide +kernel
theorem dX10_areSo_7 : decode cX10_areSo 7 = .ok (.istore_n 1, 1) := by decide +kernel
theorem dX10_areSo_8 : decode cX10_areSo 8 = .ok (.iconst 0, 1) := by decide +kernel
theorem dX10_areSo_9 : decode cX10_areSo 9 = .ok (.istore_n 2, 1) := by decide +kernel
theorem dX10_areSo_10 : decode cX10_areSo 10 = .ok (.iload_n 2, 1) := by decide +kernel
theorem dX10_areSo_11 : decode cX10_areSo 11 = .ok (.aload_n 0, 1) := by decide +kernel
theorem dX10_areSo_12 : decode cX10_areSo 12 = .ok (.getfield 164, 3) := by decide +kernel
theorem dX10_areSo_15 : decode cX10_areSo 15 = .ok (.if_icmp .ge 44, 3) := by decide +kernel
theorem dX10_areSo_18 : decode cX10_areSo 18 = .ok (.iload_n 1, 1) := by decide +kernel
theorem dX10_areSo_19 : decode cX10_areSo 19 = .ok (.ifCond .eq 32, 3) := by decide +kernel
theorem dX10_areSo_22 : decode cX10_areSo 22 = .ok (.aload_n 0, 1) := by decide +kernel
theorem dX10_areSo_23 : decode cX10_areSo 23 = .ok (.aload_n 0, 1) := by decide +kernel
theorem dX10_areSo_24 : decode cX10_areSo 24 = .ok (.getfield 61, 3) := by decide +kernel
theorem dX10_areSo_27 : decode cX10_areSo 27 = .ok (.iload_n 2, 1) := by decide +kernel
theorem dX10_areSo_28 : decode cX10_areSo 28 = .ok (.iaload, 1) := by decide +kernel
theorem dX10_areSo_29 : decode cX10_areSo 29 = .ok (.aload_n 0, 1) := by decide +kernel
theorem dX10_areSo_30 : decode cX10_areSo 30 = .ok (.getfield 64, 3) := by decide +kernel
theorem dX10_areSo_33 : decode cX10_areSo 33 = .ok (.iload_n 2, 1) := by decide +kernel
theorem dX10_areSo_34 : decode cX10_areSo 34 = .ok (.iaload, 1) := by decide +kernel
theorem dX10_areSo_35 : decode cX10_areSo 35 = .ok (.invokevirtual 204, 3) := by decide +kernel
theorem dX10_areSo_38 : decode cX10_areSo 38 = .ok (.aload_n 0, 1) := by decide +kernel
theorem dX10_areSo_39 : decode cX10_areSo 39 = .ok (.getfield 67, 3) := by decide +kernel
theorem dX10_areSo_42 : decode cX10_areSo 42 = .ok (.iload_n 2, 1) := by decide +kernel
theorem dX10_areSo_43 : decode cX10_areSo 43 = .ok (.iaload, 1) := by decide +kernel
theorem dX10_areSo_44 : decode cX10_areSo 44 = .ok (.if_icmp .ne 7, 3) := by decide +kernel
theorem dX10_areSo_47 : decode cX10_areSo 47 = .ok (.iconst 1, 1) := by decide +kernel
theorem dX10_areSo_48 : decode cX10_areSo 48 = .ok (.goto 4, 3) := by decide +kernel
theorem dX10_areSo_51 : decode cX10_areSo 51 = .ok (.iconst 0, 1) := by decide +kernel
theorem dX10_areSo_52 : decode cX10_areSo 52 = .ok (.istore_n 1, 1) := by decide +kernel
theorem dX10_areSo_53 : decode cX10_areSo 53 = .ok (.iinc 2 1, 3) := by decide +kernel
theorem dX10_areSo_56 : decode cX10_areSo 56 = .ok (.goto (-46), 3) := by decide +kernel
theorem dX10_areSo_59 : decode cX10_areSo 59 = .ok (.iload_n 1, 1) := by decide +kernel
theorem dX10_areSo_60 : decode cX10_areSo 60 = .ok (.ireturn, 1) := by decide +kernel
set_option maxRecDepth 20000 in
theorem ggX10_stood_X10_noLamp : GoodIn wsX10_stood wsX10_noLamp := goodIn_r _ [7, 8, 9, 10, 6, 11, 56, 57, 58, 59, 60, 61, 62, 63, 64, 65, 66, 67, 68, 69, 70, 71, 72, 73, 74, 75, 76, 77, 78, 79, 80, 81, 82, 83, 84, 85, 86, 87, 88, 89, 90, 91] rfl (by decide +kernel)
set_option maxRecDepth 20000 in
theorem gX10_stood_X10_noLamp : GoodIn wsX10_stood (wsV RX10 172 RX10 yX10_noLamp wsX10_noLamp) := goodIn_app (goodIn_of _ (by decide +kernel)) ggX10_stood_X10_noLamp
set_option maxRecDepth 20000 in
theorem ggX10_stood_X10_areSo : GoodIn wsX10_stood wsX10_areSo := goodIn_r _ [15, 16, 17, 18, 19, 20, 21, 22, 6, 23, 8, 24, 25, 26, 27, 28, 29, 30, 31, 32, 33, 34, 35, 1, 36, 37, 38, 39, 40, 41, 42, 43, 44, 45, 46, 47, 48, 49, 50, 51, 52, 53, 54, 55, 56, 57, 58, 59, 60, 61, 62, 63, 64, 65, 66, 67, 68, 69, 70, 71, 72, 73, 74, 75, 76, 77, 78, 79, 80, 81, 82, 83, 84, 85, 86, 87, 88, 89, 90, 91] rfl (by decide +kernel)
set_option maxRecDepth 20000 in
theorem gX10_stood_X10_areSo : GoodIn wsX10_stood (wsV RX10 228 RX10 yX10_areSo wsX10_areSo) := goodIn_app (goodIn_of _ (by decide +kernel)) ggX10_stood_X10_areSo
theorem dX10_stood_0 : decode cX10_stood 0 = .ok (.aload_n 0, 1) := by decide +kernel
theorem dX10_stood_1 : decode cX10_stood 1 = .ok (.iload_n 1, 1) := by decide +kernel
theorem dX10_stood_2 : decode cX10_stood 2 = .ok (.invokevirtual 172, 3) := by decide +kernel
theorem dX10_stood_5 : decode cX10_stood 5 = .ok (.ifCond .eq 5, 3) := by decide +kernel
theorem dX10_stood_8 : decode cX10_stood 8 = .ok (.iconst (-1), 1) := by decide +kernel
theorem dX10_stood_9 : decode cX10_stood 9 = .ok (.ireturn, 1) := by decide +kernel
theorem dX10_stood_10 : decode cX10_stood 10 = .ok (.aload_n 0, 1) := by decide +kernel
theorem dX10_stood_11 : decode cX10_stood 11 = .ok (.getfield 19, 3) := by decide +kernel
theorem dX10_stood_14 : decode cX10_stood 14 = .ok (.iload_n 1, 1) := by decide +kernel
theorem dX10_stood_15 : decode cX10_stood 15 = .ok (.iaload, 1) := by decide +kernel
theorem dX10_stood_16 : decode cX10_stood 16 = .ok (.istore_n 2, 1) := by decide +kernel
theorem dX10_stood_17 : decode cX10_stood 17 = .ok (.iconst 0, 1) := by decide +kernel
theorem dX10_stood_18 : decode cX10_stood 18 = .ok (.istore_n 3, 1) := by decide +kernel
theorem dX10_stood_19 : decode cX10_stood 19 = .ok (.iconst 0, 1) := by decide +kernel
theorem dX10_stood_20 : decode cX10_stood 20 = .ok (.istore 4, 2) := by decide +kernel
theorem dX10_stood_22 : decode cX10_stood 22 = .ok (.iload 4, 2) := by decide +kernel
theorem dX10_stood_24 : decode cX10_stood 24 = .ok (.aload_n 0, 1) := by decide +kernel
theorem dX10_stood_25 : decode cX10_stood 25 = .ok (.getfield 98, 3) := by decide +kernel
theorem dX10_stood_28 : decode cX10_stood 28 = .ok (.if_icmp .ge 35, 3) := by decide +kernel
theorem dX10_stood_31 : decode cX10_stood 31 = .ok (.aload_n 0, 1) := by decide +kernel
theorem dX10_stood_32 : decode cX10_stood 32 = .ok (.getfield 19, 3) := by decide +kernel
theorem dX10_stood_35 : decode cX10_stood 35 = .ok (.iload_n 1, 1) := by decide +kernel
theorem dX10_stood_36 : decode cX10_stood 36 = .ok (.iload 4, 2) := by decide +kernel
theorem dX10_stood_38 : decode cX10_stood 38 = .ok (.iastore, 1) := by decide +kernel
theorem dX10_stood_39 : decode cX10_stood 39 = .ok (.iload_n 3, 1) := by decide +kernel
theorem dX10_stood_40 : decode cX10_stood 40 = .ok (.aload_n 0, 1) := by decide +kernel
theorem dX10_stood_41 : decode cX10_stood 41 = .ok (.invokevirtual 228, 3) := by decide +kernel
theorem dX10_stood_44 : decode cX10_stood 44 = .ok (.ifCond .eq 10, 3) := by decide +kernel
theorem dX10_stood_47 : decode cX10_stood 47 = .ok (.iconst 1, 1) := by decide +kernel
theorem dX10_stood_48 : decode cX10_stood 48 = .ok (.iload 4, 2) := by decide +kernel
theorem dX10_stood_50 : decode cX10_stood 50 = .ok (.ishl, 1) := by decide +kernel
theorem dX10_stood_51 : decode cX10_stood 51 = .ok (.goto 4, 3) := by decide +kernel
theorem dX10_stood_54 : decode cX10_stood 54 = .ok (.iconst 0, 1) := by decide +kernel
theorem dX10_stood_55 : decode cX10_stood 55 = .ok (.ior, 1) := by decide +kernel
theorem dX10_stood_56 : decode cX10_stood 56 = .ok (.istore_n 3, 1) := by decide +kernel
theorem dX10_stood_57 : decode cX10_stood 57 = .ok (.iinc 4 1, 3) := by decide +kernel
theorem dX10_stood_60 : decode cX10_stood 60 = .ok (.goto (-38), 3) := by decide +kernel
theorem dX10_stood_63 : decode cX10_stood 63 = .ok (.aload_n 0, 1) := by decide +kernel
theorem dX10_stood_64 : decode cX10_stood 64 = .ok (.getfield 19, 3) := by decide +kernel
theorem dX10_stood_67 : decode cX10_stood 67 = .ok (.iload_n 1, 1) := by decide +kernel
theorem dX10_stood_68 : decode cX10_stood 68 = .ok (.iload_n 2, 1) := by decide +kernel
theorem dX10_stood_69 : decode cX10_stood 69 = .ok (.iastore, 1) := by decide +kernel
theorem dX10_stood_70 : decode cX10_stood 70 = .ok (.iload_n 3, 1) := by decide +kernel
theorem dX10_stood_71 : decode cX10_stood 71 = .ok (.ireturn, 1) := by decide +kernel
set_option maxRecDepth 20000 in
theorem ggX10_kinds_X10_noLamp : GoodIn wsX10_kinds wsX10_noLamp := goodIn_r _ [6, 7, 8, 9, 5, 10, 55, 56, 57, 58, 59, 60, 61, 62, 63, 64, 65, 66, 67, 68, 69, 70, 71, 72, 73, 74, 75, 76, 77, 78, 79, 80, 81, 82, 83, 84, 85, 86, 87, 88, 89, 90] rfl (by decide +kernel)
set_option maxRecDepth 20000 in
theorem gX10_kinds_X10_noLamp : GoodIn wsX10_kinds (wsV RX10 172 RX10 yX10_noLamp wsX10_noLamp) := goodIn_app (goodIn_of _ (by decide +kernel)) ggX10_kinds_X10_noLamp
set_option maxRecDepth 20000 in
theorem ggX10_kinds_X10_areSo : GoodIn wsX10_kinds wsX10_areSo := goodIn_r _ [14, 15, 16, 17, 18, 19, 20, 21, 5, 22, 7, 23, 24, 25, 26, 27, 28, 29, 1, 30, 31, 32, 33, 34, 35, 36, 37, 38, 39, 40, 41, 42, 43, 44, 45, 46, 47, 48, 49, 50, 51, 52, 53, 54, 55, 56, 57, 58, 59, 60, 61, 62, 63, 64, 65, 66, 67, 68, 69, 70, 71, 72, 73, 74, 75, 76, 77, 78, 79, 80, 81, 82, 83, 84, 85, 86, 87, 88, 89, 90] rfl (by decide +kernel)
set_option maxRecDepth 20000 in
theorem gX10_kinds_X10_areSo : GoodIn wsX10_kinds (wsV RX10 228 RX10 yX10_areSo wsX10_areSo) := goodIn_app (goodIn_of _ (by decide +kernel)) ggX10_kinds_X10_areSo
theorem dX10_kinds_0 : decode cX10_kinds 0 = .ok (.aload_n 0, 1) := by decide +kernel
theorem dX10_kinds_1 : decode cX10_kinds 1 = .ok (.iload_n 1, 1) := by decide +kernel
theorem dX10_kinds_2 : decode cX10_kinds 2 = .ok (.invokevirtual 172, 3) := by decide +kernel
theorem dX10_kinds_5 : decode cX10_kinds 5 = .ok (.ifCond .eq 5, 3) := by decide +kernel
theorem dX10_kinds_8 : decode cX10_kinds 8 = .ok (.iconst (-1), 1) := by decide +kernel
theorem dX10_kinds_9 : decode cX10_kinds 9 = .ok (.ireturn, 1) := by decide +kernel
theorem dX10_kinds_10 : decode cX10_kinds 10 = .ok (.aload_n 0, 1) := by decide +kernel
theorem dX10_kinds_11 : decode cX10_kinds 11 = .ok (.getfield 16, 3) := by decide +kernel
theorem dX10_kinds_14 : decode cX10_kinds 14 = .ok (.iload_n 1, 1) := by decide +kernel
theorem dX10_kinds_15 : decode cX10_kinds 15 = .ok (.iaload, 1) := by decide +kernel
theorem dX10_kinds_16 : decode cX10_kinds 16 = .ok (.istore_n 2, 1) := by decide +kernel
theorem dX10_kinds_17 : decode cX10_kinds 17 = .ok (.iconst 0, 1) := by decide +kernel
theorem dX10_kinds_18 : decode cX10_kinds 18 = .ok (.istore_n 3, 1) := by decide +kernel
theorem dX10_kinds_19 : decode cX10_kinds 19 = .ok (.iconst 0, 1) := by decide +kernel
theorem dX10_kinds_20 : decode cX10_kinds 20 = .ok (.istore 4, 2) := by decide +kernel
theorem dX10_kinds_22 : decode cX10_kinds 22 = .ok (.iload 4, 2) := by decide +kernel
theorem dX10_kinds_24 : decode cX10_kinds 24 = .ok (.iconst 3, 1) := by decide +kernel
theorem dX10_kinds_25 : decode cX10_kinds 25 = .ok (.if_icmp .ge 35, 3) := by decide +kernel
theorem dX10_kinds_28 : decode cX10_kinds 28 = .ok (.aload_n 0, 1) := by decide +kernel
theorem dX10_kinds_29 : decode cX10_kinds 29 = .ok (.getfield 16, 3) := by decide +kernel
theorem dX10_kinds_32 : decode cX10_kinds 32 = .ok (.iload_n 1, 1) := by decide +kernel
theorem dX10_kinds_33 : decode cX10_kinds 33 = .ok (.iload 4, 2) := by decide +kernel
theorem dX10_kinds_35 : decode cX10_kinds 35 = .ok (.iastore, 1) := by decide +kernel
theorem dX10_kinds_36 : decode cX10_kinds 36 = .ok (.iload_n 3, 1) := by decide +kernel
theorem dX10_kinds_37 : decode cX10_kinds 37 = .ok (.aload_n 0, 1) := by decide +kernel
theorem dX10_kinds_38 : decode cX10_kinds 38 = .ok (.invokevirtual 228, 3) := by decide +kernel
theorem dX10_kinds_41 : decode cX10_kinds 41 = .ok (.ifCond .eq 10, 3) := by decide +kernel
theorem dX10_kinds_44 : decode cX10_kinds 44 = .ok (.iconst 1, 1) := by decide +kernel
theorem dX10_kinds_45 : decode cX10_kinds 45 = .ok (.iload 4, 2) := by decide +kernel
theorem dX10_kinds_47 : decode cX10_kinds 47 = .ok (.ishl, 1) := by decide +kernel
theorem dX10_kinds_48 : decode cX10_kinds 48 = .ok (.goto 4, 3) := by decide +kernel
theorem dX10_kinds_51 : decode cX10_kinds 51 = .ok (.iconst 0, 1) := by decide +kernel
theorem dX10_kinds_52 : decode cX10_kinds 52 = .ok (.ior, 1) := by decide +kernel
theorem dX10_kinds_53 : decode cX10_kinds 53 = .ok (.istore_n 3, 1) := by decide +kernel
theorem dX10_kinds_54 : decode cX10_kinds 54 = .ok (.iinc 4 1, 3) := by decide +kernel
theorem dX10_kinds_57 : decode cX10_kinds 57 = .ok (.goto (-35), 3) := by decide +kernel
theorem dX10_kinds_60 : decode cX10_kinds 60 = .ok (.aload_n 0, 1) := by decide +kernel
theorem dX10_kinds_61 : decode cX10_kinds 61 = .ok (.getfield 16, 3) := by decide +kernel
theorem dX10_kinds_64 : decode cX10_kinds 64 = .ok (.iload_n 1, 1) := by decide +kernel
theorem dX10_kinds_65 : decode cX10_kinds 65 = .ok (.iload_n 2, 1) := by decide +kernel
theorem dX10_kinds_66 : decode cX10_kinds 66 = .ok (.iastore, 1) := by decide +kernel
theorem dX10_kinds_67 : decode cX10_kinds 67 = .ok (.iload_n 3, 1) := by decide +kernel
theorem dX10_kinds_68 : decode cX10_kinds 68 = .ok (.ireturn, 1) := by decide +kernel
set_option maxRecDepth 20000 in
theorem ggX10_ages_X10_areSo : GoodIn wsX10_ages wsX10_areSo := goodIn_r _ [7, 8, 9, 10, 11, 12, 13, 14, 6, 15, 1, 16, 2, 17, 18, 19, 20, 21, 22, 23, 24, 25, 26, 27, 28, 29, 30, 31, 32, 33, 34, 35, 36, 37, 38, 39, 40, 41, 42, 43, 44, 45, 46, 47, 48, 49, 50, 51, 52, 53, 54, 55, 56, 57, 58, 59, 60, 61, 62, 63, 64, 65, 66, 67, 68, 69, 70, 71, 72, 73, 74, 75, 76, 77, 78, 79, 80, 81, 82, 83] rfl (by decide +kernel)
set_option maxRecDepth 20000 in
theorem gX10_ages_X10_areSo : GoodIn wsX10_ages (wsV RX10 228 RX10 yX10_areSo wsX10_areSo) := goodIn_app (goodIn_of _ (by decide +kernel)) ggX10_ages_X10_areSo
theorem dX10_ages_0 : decode cX10_ages 0 = .ok (.aload_n 0, 1) := by decide +kernel
theorem dX10_ages_1 : decode cX10_ages 1 = .ok (.getfield 105, 3) := by decide +kernel
theorem dX10_ages_4 : decode cX10_ages 4 = .ok (.ifCond .ne 6, 3) := by decide +kernel
theorem dX10_ages_7 : decode cX10_ages 7 = .ok (.bipush (-3), 2) := by decide +kernel
theorem dX10_ages_9 : decode cX10_ages 9 = .ok (.ireturn, 1) := by decide +kernel
theorem dX10_ages_10 : decode cX10_ages 10 = .ok (.aload_n 0, 1) := by decide +kernel
theorem dX10_ages_11 : decode cX10_ages 11 = .ok (.getfield 158, 3) := by decide +kernel
theorem dX10_ages_14 : decode cX10_ages 14 = .ok (.istore_n 1, 1) := by decide +kernel
theorem dX10_ages_15 : decode cX10_ages 15 = .ok (.iconst 0, 1) := by decide +kernel
theorem dX10_ages_16 : decode cX10_ages 16 = .ok (.istore_n 2, 1) := by decide +kernel
theorem dX10_ages_17 : decode cX10_ages 17 = .ok (.iconst 1, 1) := by decide +kernel
theorem dX10_ages_18 : decode cX10_ages 18 = .ok (.istore_n 3, 1) := by decide +kernel
theorem dX10_ages_19 : decode cX10_ages 19 = .ok (.iload_n 3, 1) := by decide +kernel
theorem dX10_ages_20 : decode cX10_ages 20 = .ok (.bipush 13, 2) := by decide +kernel
theorem dX10_ages_22 : decode cX10_ages 22 = .ok (.if_icmp .ge 31, 3) := by decide +kernel
theorem dX10_ages_25 : decode cX10_ages 25 = .ok (.aload_n 0, 1) := by decide +kernel
theorem dX10_ages_26 : decode cX10_ages 26 = .ok (.iload_n 3, 1) := by decide +kernel
theorem dX10_ages_27 : decode cX10_ages 27 = .ok (.putfield 158, 3) := by decide +kernel
theorem dX10_ages_30 : decode cX10_ages 30 = .ok (.iload_n 2, 1) := by decide +kernel
theorem dX10_ages_31 : decode cX10_ages 31 = .ok (.aload_n 0, 1) := by decide +kernel
theorem dX10_ages_32 : decode cX10_ages 32 = .ok (.invokevirtual 228, 3) := by decide +kernel
theorem dX10_ages_35 : decode cX10_ages 35 = .ok (.ifCond .eq 9, 3) := by decide +kernel
theorem dX10_ages_38 : decode cX10_ages 38 = .ok (.iconst 1, 1) := by decide +kernel
theorem dX10_ages_39 : decode cX10_ages 39 = .ok (.iload_n 3, 1) := by decide +kernel
theorem dX10_ages_40 : decode cX10_ages 40 = .ok (.ishl, 1) := by decide +kernel
theorem dX10_ages_41 : decode cX10_ages 41 = .ok (.goto 4, 3) := by decide +kernel
theorem dX10_ages_44 : decode cX10_ages 44 = .ok (.iconst 0, 1) := by decide +kernel
theorem dX10_ages_45 : decode cX10_ages 45 = .ok (.ior, 1) := by decide +kernel
theorem dX10_ages_46 : decode cX10_ages 46 = .ok (.istore_n 2, 1) := by decide +kernel
theorem dX10_ages_47 : decode cX10_ages 47 = .ok (.iinc 3 1, 3) := by decide +kernel
theorem dX10_ages_50 : decode cX10_ages 50 = .ok (.goto (-31), 3) := by decide +kernel
theorem dX10_ages_53 : decode cX10_ages 53 = .ok (.aload_n 0, 1) := by decide +kernel
theorem dX10_ages_54 : decode cX10_ages 54 = .ok (.iload_n 1, 1) := by decide +kernel
theorem dX10_ages_55 : decode cX10_ages 55 = .ok (.putfield 158, 3) := by decide +kernel
theorem dX10_ages_58 : decode cX10_ages 58 = .ok (.iload_n 2, 1) := by decide +kernel
theorem dX10_ages_59 : decode cX10_ages 59 = .ok (.ireturn, 1) := by decide +kernel
set_option maxRecDepth 20000 in
theorem ggX10_clouds_X10_in : GoodIn wsX10_clouds wsX10_in := goodIn_r _ [7] rfl (by decide +kernel)
set_option maxRecDepth 20000 in
theorem gX10_clouds_X10_in : GoodIn wsX10_clouds (va_wsS RX10 101 yX10_in wsX10_in) := goodIn_app (goodIn_of _ (by decide +kernel)) ggX10_clouds_X10_in
set_option maxRecDepth 20000 in
theorem ggX10_clouds_X10_areSo : GoodIn wsX10_clouds wsX10_areSo := goodIn_r _ [11, 12, 13, 14, 15, 16, 17, 18, 6, 19, 2, 20, 21, 22, 23, 24, 25, 26, 27, 28, 29, 30, 31, 32, 33, 34, 35, 36, 37, 38, 39, 40, 41, 42, 3, 43, 44, 45, 46, 47, 48, 49, 50, 51, 52, 53, 54, 55, 56, 57, 58, 59, 60, 61, 62, 63, 64, 65, 66, 67, 68, 69, 70, 71, 72, 73, 74, 75, 76, 77, 78, 79, 80, 81, 82, 83, 84, 85, 86, 87] rfl (by decide +kernel)
set_option maxRecDepth 20000 in
theorem gX10_clouds_X10_areSo : GoodIn wsX10_clouds (wsV RX10 228 RX10 yX10_areSo wsX10_areSo) := goodIn_app (goodIn_of _ (by decide +kernel)) ggX10_clouds_X10_areSo
theorem dX10_clouds_0 : decode cX10_clouds 0 = .ok (.iload_n 1, 1) := by decide +kernel
theorem dX10_clouds_1 : decode cX10_clouds 1 = .ok (.i2l, 1) := by decide +kernel
theorem dX10_clouds_2 : decode cX10_clouds 2 = .ok (.lconst 0, 1) := by decide +kernel
theorem dX10_clouds_3 : decode cX10_clouds 3 = .ok (.ldc2_w 175, 3) := by decide +kernel
theorem dX10_clouds_6 : decode cX10_clouds 6 = .ok (.invokestatic 101, 3) := by decide +kernel
theorem dX10_clouds_9 : decode cX10_clouds 9 = .ok (.ifCond .ne 6, 3) := by decide +kernel
theorem dX10_clouds_12 : decode cX10_clouds 12 = .ok (.bipush (-2), 2) := by decide +kernel
theorem dX10_clouds_14 : decode cX10_clouds 14 = .ok (.ireturn, 1) := by decide +kernel
theorem dX10_clouds_15 : decode cX10_clouds 15 = .ok (.aload_n 0, 1) := by decide +kernel
theorem dX10_clouds_16 : decode cX10_clouds 16 = .ok (.getfield 105, 3) := by decide +kernel
theorem dX10_clouds_19 : decode cX10_clouds 19 = .ok (.ifCond .ne 6, 3) := by decide +kernel
theorem dX10_clouds_22 : decode cX10_clouds 22 = .ok (.bipush (-3), 2) := by decide +kernel
theorem dX10_clouds_24 : decode cX10_clouds 24 = .ok (.ireturn, 1) := by decide +kernel
theorem dX10_clouds_25 : decode cX10_clouds 25 = .ok (.aload_n 0, 1) := by decide +kernel
theorem dX10_clouds_26 : decode cX10_clouds 26 = .ok (.getfield 22, 3) := by decide +kernel
theorem dX10_clouds_29 : decode cX10_clouds 29 = .ok (.iload_n 1, 1) := by decide +kernel
theorem dX10_clouds_30 : decode cX10_clouds 30 = .ok (.iaload, 1) := by decide +kernel
theorem dX10_clouds_31 : decode cX10_clouds 31 = .ok (.istore_n 2, 1) := by decide +kernel
theorem dX10_clouds_32 : decode cX10_clouds 32 = .ok (.iconst 0, 1) := by decide +kernel
theorem dX10_clouds_33 : decode cX10_clouds 33 = .ok (.istore_n 3, 1) := by decide +kernel
theorem dX10_clouds_34 : decode cX10_clouds 34 = .ok (.iconst 0, 1) := by decide +kernel
theorem dX10_clouds_35 : decode cX10_clouds 35 = .ok (.istore 4, 2) := by decide +kernel
theorem dX10_clouds_37 : decode cX10_clouds 37 = .ok (.iload 4, 2) := by decide +kernel
theorem dX10_clouds_39 : decode cX10_clouds 39 = .ok (.bipush 10, 2) := by decide +kernel
theorem dX10_clouds_41 : decode cX10_clouds 41 = .ok (.if_icmp .ge 35, 3) := by decide +kernel
theorem dX10_clouds_44 : decode cX10_clouds 44 = .ok (.aload_n 0, 1) := by decide +kernel
theorem dX10_clouds_45 : decode cX10_clouds 45 = .ok (.getfield 22, 3) := by decide +kernel
theorem dX10_clouds_48 : decode cX10_clouds 48 = .ok (.iload_n 1, 1) := by decide +kernel
theorem dX10_clouds_49 : decode cX10_clouds 49 = .ok (.iload 4, 2) := by decide +kernel
theorem dX10_clouds_51 : decode cX10_clouds 51 = .ok (.iastore, 1) := by decide +kernel
theorem dX10_clouds_52 : decode cX10_clouds 52 = .ok (.iload_n 3, 1) := by decide +kernel
theorem dX10_clouds_53 : decode cX10_clouds 53 = .ok (.aload_n 0, 1) := by decide +kernel
theorem dX10_clouds_54 : decode cX10_clouds 54 = .ok (.invokevirtual 228, 3) := by decide +kernel
theorem dX10_clouds_57 : decode cX10_clouds 57 = .ok (.ifCond .eq 10, 3) := by decide +kernel
theorem dX10_clouds_60 : decode cX10_clouds 60 = .ok (.iconst 1, 1) := by decide +kernel
theorem dX10_clouds_61 : decode cX10_clouds 61 = .ok (.iload 4, 2) := by decide +kernel
theorem dX10_clouds_63 : decode cX10_clouds 63 = .ok (.ishl, 1) := by decide +kernel
theorem dX10_clouds_64 : decode cX10_clouds 64 = .ok (.goto 4, 3) := by decide +kernel
theorem dX10_clouds_67 : decode cX10_clouds 67 = .ok (.iconst 0, 1) := by decide +kernel
theorem dX10_clouds_68 : decode cX10_clouds 68 = .ok (.ior, 1) := by decide +kernel
theorem dX10_clouds_69 : decode cX10_clouds 69 = .ok (.istore_n 3, 1) := by decide +kernel
theorem dX10_clouds_70 : decode cX10_clouds 70 = .ok (.iinc 4 1, 3) := by decide +kernel
theorem dX10_clouds_73 : decode cX10_clouds 73 = .ok (.goto (-36), 3) := by decide +kernel
theorem dX10_clouds_76 : decode cX10_clouds 76 = .ok (.aload_n 0, 1) := by decide +kernel
theorem dX10_clouds_77 : decode cX10_clouds 77 = .ok (.getfield 22, 3) := by decide +kernel
theorem dX10_clouds_80 : decode cX10_clouds 80 = .ok (.iload_n 1, 1) := by decide +kernel
theorem dX10_clouds_81 : decode cX10_clouds 81 = .ok (.iload_n 2, 1) := by decide +kernel
theorem dX10_clouds_82 : decode cX10_clouds 82 = .ok (.iastore, 1) := by decide +kernel
theorem dX10_clouds_83 : decode cX10_clouds 83 = .ok (.iload_n 3, 1) := by decide +kernel
theorem dX10_clouds_84 : decode cX10_clouds 84 = .ok (.ireturn, 1) := by decide +kernel
set_option maxRecDepth 20000 in
theorem ggX10_odds_X10_noSpot : GoodIn wsX10_odds wsX10_noSpot := goodIn_r _ [9, 10, 11, 12, 8, 13, 66, 67, 68, 69, 70, 71, 72, 73, 74, 75, 76, 77, 78, 79, 80, 81, 82, 83, 84, 85, 86, 87, 88, 89, 90, 91, 92, 93, 94, 95, 96, 97, 98, 99, 100, 101] rfl (by decide +kernel)
set_option maxRecDepth 20000 in
theorem gX10_odds_X10_noSpot : GoodIn wsX10_odds (wsV RX10 169 RX10 yX10_noSpot wsX10_noSpot) := goodIn_app (goodIn_of _ (by decide +kernel)) ggX10_odds_X10_noSpot
set_option maxRecDepth 20000 in
theorem ggX10_odds_X10_isWatch : GoodIn wsX10_odds wsX10_isWatch := goodIn_r _ [16, 17, 11, 12, 8, 13] rfl (by decide +kernel)
set_option maxRecDepth 20000 in
theorem gX10_odds_X10_isWatch : GoodIn wsX10_odds (va_wsS RX10 181 yX10_isWatch wsX10_isWatch) := goodIn_app (goodIn_of _ (by decide +kernel)) ggX10_odds_X10_isWatch
set_option maxRecDepth 20000 in
theorem ggX10_odds_X10_in : GoodIn wsX10_odds wsX10_in := goodIn_r _ [13] rfl (by decide +kernel)
set_option maxRecDepth 20000 in
theorem gX10_odds_X10_in : GoodIn wsX10_odds (va_wsS RX10 101 yX10_in wsX10_in) := goodIn_app (goodIn_of _ (by decide +kernel)) ggX10_odds_X10_in
set_option maxRecDepth 20000 in
theorem ggX10_odds_X10_lost : GoodIn wsX10_odds wsX10_lost := goodIn_r _ [20, 21] rfl (by decide +kernel)
set_option maxRecDepth 20000 in
theorem gX10_odds_X10_lost : GoodIn wsX10_odds (va_wsS RX10 94 yX10_lost wsX10_lost) := goodIn_app (goodIn_of _ (by decide +kernel)) ggX10_odds_X10_lost
set_option maxRecDepth 20000 in
theorem ggX10_odds_X10_lightBy : GoodIn wsX10_odds wsX10_lightBy := goodIn_r _ [25, 26, 27, 28, 8, 29, 30, 31, 32, 33, 34, 35, 36, 37, 38, 39, 40, 41, 42, 43, 44, 45, 46, 47, 48, 49, 50, 51, 52, 53, 3, 54, 55, 56, 57, 58, 59, 60, 61, 62, 66, 67, 68, 69, 70, 71, 72, 73, 74, 75, 76, 77, 78, 79, 80, 81, 82, 83, 84, 85, 86, 87, 88, 89, 90, 91, 92, 93, 94, 95, 96, 97, 98, 99, 100, 101] rfl (by decide +kernel)
set_option maxRecDepth 20000 in
theorem gX10_odds_X10_lightBy : GoodIn wsX10_odds (wsV RX10 207 RX10 yX10_lightBy wsX10_lightBy) := goodIn_app (goodIn_of _ (by decide +kernel)) ggX10_odds_X10_lightBy
set_option maxRecDepth 20000 in
theorem ggX10_odds_X10_told : GoodIn wsX10_odds wsX10_told := goodIn_r _ [65] rfl (by decide +kernel)
set_option maxRecDepth 20000 in
theorem gX10_odds_X10_told : GoodIn wsX10_odds (va_wsS RX10 234 yX10_told wsX10_told) := goodIn_app (goodIn_of _ (by decide +kernel)) ggX10_odds_X10_told
theorem dX10_odds_0 : decode cX10_odds 0 = .ok (.aload_n 0, 1) := by decide +kernel
theorem dX10_odds_1 : decode cX10_odds 1 = .ok (.iload_n 1, 1) := by decide +kernel
theorem dX10_odds_2 : decode cX10_odds 2 = .ok (.invokevirtual 169, 3) := by decide +kernel
theorem dX10_odds_5 : decode cX10_odds 5 = .ok (.ifCond .ne 33, 3) := by decide +kernel
theorem dX10_odds_8 : decode cX10_odds 8 = .ok (.iload_n 2, 1) := by decide +kernel
theorem dX10_odds_9 : decode cX10_odds 9 = .ok (.invokestatic 181, 3) := by decide +kernel
theorem dX10_odds_12 : decode cX10_odds 12 = .ok (.ifCond .eq 26, 3) := by decide +kernel
theorem dX10_odds_15 : decode cX10_odds 15 = .ok (.iload_n 3, 1) := by decide +kernel
theorem dX10_odds_16 : decode cX10_odds 16 = .ok (.i2l, 1) := by decide +kernel
theorem dX10_odds_17 : decode cX10_odds 17 = .ok (.lconst 0, 1) := by decide +kernel
theorem dX10_odds_18 : decode cX10_odds 18 = .ok (.ldc2_w 210, 3) := by decide +kernel
theorem dX10_odds_21 : decode cX10_odds 21 = .ok (.invokestatic 101, 3) := by decide +kernel
theorem dX10_odds_24 : decode cX10_odds 24 = .ok (.ifCond .eq 14, 3) := by decide +kernel
theorem dX10_odds_27 : decode cX10_odds 27 = .ok (.iload 4, 2) := by decide +kernel
theorem dX10_odds_29 : decode cX10_odds 29 = .ok (.i2l, 1) := by decide +kernel
theorem dX10_odds_30 : decode cX10_odds 30 = .ok (.lconst 0, 1) := by decide +kernel
theorem dX10_odds_31 : decode cX10_odds 31 = .ok (.lconst 1, 1) := by decide +kernel
theorem dX10_odds_32 : decode cX10_odds 32 = .ok (.invokestatic 101, 3) := by decide +kernel
theorem dX10_odds_35 : decode cX10_odds 35 = .ok (.ifCond .ne 7, 3) := by decide +kernel
theorem dX10_odds_38 : decode cX10_odds 38 = .ok (.invokestatic 94, 3) := by decide +kernel
theorem dX10_odds_41 : decode cX10_odds 41 = .ok (.lreturn, 1) := by decide +kernel
theorem dX10_odds_42 : decode cX10_odds 42 = .ok (.iconst 0, 1) := by decide +kernel
theorem dX10_odds_43 : decode cX10_odds 43 = .ok (.istore 5, 2) := by decide +kernel
theorem dX10_odds_45 : decode cX10_odds 45 = .ok (.iload 5, 2) := by decide +kernel
theorem dX10_odds_47 : decode cX10_odds 47 = .ok (.iconst 4, 1) := by decide +kernel
theorem dX10_odds_48 : decode cX10_odds 48 = .ok (.if_icmp .ge 23, 3) := by decide +kernel
theorem dX10_odds_51 : decode cX10_odds 51 = .ok (.aload_n 0, 1) := by decide +kernel
theorem dX10_odds_52 : decode cX10_odds 52 = .ok (.getfield 70, 3) := by decide +kernel
theorem dX10_odds_55 : decode cX10_odds 55 = .ok (.iload 5, 2) := by decide +kernel
theorem dX10_odds_57 : decode cX10_odds 57 = .ok (.aload_n 0, 1) := by decide +kernel
theorem dX10_odds_58 : decode cX10_odds 58 = .ok (.getfield 22, 3) := by decide +kernel
theorem dX10_odds_61 : decode cX10_odds 61 = .ok (.iload 5, 2) := by decide +kernel
theorem dX10_odds_63 : decode cX10_odds 63 = .ok (.iaload, 1) := by decide +kernel
theorem dX10_odds_64 : decode cX10_odds 64 = .ok (.iastore, 1) := by decide +kernel
theorem dX10_odds_65 : decode cX10_odds 65 = .ok (.iinc 5 1, 3) := by decide +kernel
theorem dX10_odds_68 : decode cX10_odds 68 = .ok (.goto (-23), 3) := by decide +kernel
theorem dX10_odds_71 : decode cX10_odds 71 = .ok (.lconst 0, 1) := by decide +kernel
theorem dX10_odds_72 : decode cX10_odds 72 = .ok (.lstore 5, 2) := by decide +kernel
theorem dX10_odds_74 : decode cX10_odds 74 = .ok (.iconst 0, 1) := by decide +kernel
theorem dX10_odds_75 : decode cX10_odds 75 = .ok (.istore 7, 2) := by decide +kernel
theorem dX10_odds_77 : decode cX10_odds 77 = .ok (.iload 7, 2) := by decide +kernel
theorem dX10_odds_79 : decode cX10_odds 79 = .ok (.bipush 16, 2) := by decide +kernel
theorem dX10_odds_81 : decode cX10_odds 81 = .ok (.if_icmp .ge 68, 3) := by decide +kernel
theorem dX10_odds_84 : decode cX10_odds 84 = .ok (.iconst 0, 1) := by decide +kernel
theorem dX10_odds_85 : decode cX10_odds 85 = .ok (.istore 8, 2) := by decide +kernel
theorem dX10_odds_87 : decode cX10_odds 87 = .ok (.iload 8, 2) := by decide +kernel
theorem dX10_odds_89 : decode cX10_odds 89 = .ok (.iconst 4, 1) := by decide +kernel
theorem dX10_odds_90 : decode cX10_odds 90 = .ok (.if_icmp .ge 33, 3) := by decide +kernel
theorem dX10_odds_93 : decode cX10_odds 93 = .ok (.aload_n 0, 1) := by decide +kernel
theorem dX10_odds_94 : decode cX10_odds 94 = .ok (.getfield 22, 3) := by decide +kernel
theorem dX10_odds_97 : decode cX10_odds 97 = .ok (.iload 8, 2) := by decide +kernel
theorem dX10_odds_99 : decode cX10_odds 99 = .ok (.iload 7, 2) := by decide +kernel
theorem dX10_odds_101 : decode cX10_odds 101 = .ok (.iload 8, 2) := by decide +kernel
theorem dX10_odds_103 : decode cX10_odds 103 = .ok (.ishr, 1) := by decide +kernel
theorem dX10_odds_104 : decode cX10_odds 104 = .ok (.iconst 1, 1) := by decide +kernel
theorem dX10_odds_105 : decode cX10_odds 105 = .ok (.iand, 1) := by decide +kernel
theorem dX10_odds_106 : decode cX10_odds 106 = .ok (.iconst 1, 1) := by decide +kernel
theorem dX10_odds_107 : decode cX10_odds 107 = .ok (.if_icmp .ne 8, 3) := by decide +kernel
theorem dX10_odds_110 : decode cX10_odds 110 = .ok (.bipush 9, 2) := by decide +kernel
theorem dX10_odds_112 : decode cX10_odds 112 = .ok (.goto 4, 3) := by decide +kernel
theorem dX10_odds_115 : decode cX10_odds 115 = .ok (.iconst 0, 1) := by decide +kernel
theorem dX10_odds_116 : decode cX10_odds 116 = .ok (.iastore, 1) := by decide +kernel
theorem dX10_odds_117 : decode cX10_odds 117 = .ok (.iinc 8 1, 3) := by decide +kernel
theorem dX10_odds_120 : decode cX10_odds 120 = .ok (.goto (-33), 3) := by decide +kernel
theorem dX10_odds_123 : decode cX10_odds 123 = .ok (.lload 5, 2) := by decide +kernel
theorem dX10_odds_125 : decode cX10_odds 125 = .ok (.aload_n 0, 1) := by decide +kernel
theorem dX10_odds_126 : decode cX10_odds 126 = .ok (.iload_n 1, 1) := by decide +kernel
theorem dX10_odds_127 : decode cX10_odds 127 = .ok (.iload_n 2, 1) := by decide +kernel
theorem dX10_odds_128 : decode cX10_odds 128 = .ok (.invokevirtual 207, 3) := by decide +kernel
theorem dX10_odds_131 : decode cX10_odds 131 = .ok (.iload_n 3, 1) := by decide +kernel
theorem dX10_odds_132 : decode cX10_odds 132 = .ok (.if_icmp .lt 7, 3) := by decide +kernel
theorem dX10_odds_135 : decode cX10_odds 135 = .ok (.lconst 1, 1) := by decide +kernel
theorem dX10_odds_136 : decode cX10_odds 136 = .ok (.goto 4, 3) := by decide +kernel
theorem dX10_odds_139 : decode cX10_odds 139 = .ok (.lconst 0, 1) := by decide +kernel
theorem dX10_odds_140 : decode cX10_odds 140 = .ok (.ladd, 1) := by decide +kernel
theorem dX10_odds_141 : decode cX10_odds 141 = .ok (.lstore 5, 2) := by decide +kernel
theorem dX10_odds_143 : decode cX10_odds 143 = .ok (.iinc 7 1, 3) := by decide +kernel
theorem dX10_odds_146 : decode cX10_odds 146 = .ok (.goto (-69), 3) := by decide +kernel
theorem dX10_odds_149 : decode cX10_odds 149 = .ok (.iconst 0, 1) := by decide +kernel
theorem dX10_odds_150 : decode cX10_odds 150 = .ok (.istore 7, 2) := by decide +kernel
theorem dX10_odds_152 : decode cX10_odds 152 = .ok (.iload 7, 2) := by decide +kernel
theorem dX10_odds_154 : decode cX10_odds 154 = .ok (.iconst 4, 1) := by decide +kernel
theorem dX10_odds_155 : decode cX10_odds 155 = .ok (.if_icmp .ge 23, 3) := by decide +kernel
theorem dX10_odds_158 : decode cX10_odds 158 = .ok (.aload_n 0, 1) := by decide +kernel
theorem dX10_odds_159 : decode cX10_odds 159 = .ok (.getfield 22, 3) := by decide +kernel
theorem dX10_odds_162 : decode cX10_odds 162 = .ok (.iload 7, 2) := by decide +kernel
theorem dX10_odds_164 : decode cX10_odds 164 = .ok (.aload_n 0, 1) := by decide +kernel
theorem dX10_odds_165 : decode cX10_odds 165 = .ok (.getfield 70, 3) := by decide +kernel
theorem dX10_odds_168 : decode cX10_odds 168 = .ok (.iload 7, 2) := by decide +kernel
theorem dX10_odds_170 : decode cX10_odds 170 = .ok (.iaload, 1) := by decide +kernel
theorem dX10_odds_171 : decode cX10_odds 171 = .ok (.iastore, 1) := by decide +kernel
theorem dX10_odds_172 : decode cX10_odds 172 = .ok (.iinc 7 1, 3) := by decide +kernel
theorem dX10_odds_175 : decode cX10_odds 175 = .ok (.goto (-23), 3) := by decide +kernel
theorem dX10_odds_178 : decode cX10_odds 178 = .ok (.lload 5, 2) := by decide +kernel
theorem dX10_odds_180 : decode cX10_odds 180 = .ok (.ldc2_w 232, 3) := by decide +kernel
theorem dX10_odds_183 : decode cX10_odds 183 = .ok (.iload 4, 2) := by decide +kernel
theorem dX10_odds_185 : decode cX10_odds 185 = .ok (.invokestatic 234, 3) := by decide +kernel
theorem dX10_odds_188 : decode cX10_odds 188 = .ok (.lreturn, 1) := by decide +kernel
set_option maxRecDepth 20000 in
theorem ggX10_noSheet_X10_in : GoodIn wsX10_noSheet wsX10_in := goodIn_r _ [5] rfl (by decide +kernel)
set_option maxRecDepth 20000 in
theorem gX10_noSheet_X10_in : GoodIn wsX10_noSheet (va_wsS RX10 101 yX10_in wsX10_in) := goodIn_app (goodIn_of _ (by decide +kernel)) ggX10_noSheet_X10_in
theorem dX10_noSheet_0 : decode cX10_noSheet 0 = .ok (.iload_n 0, 1) := by decide +kernel
theorem dX10_noSheet_1 : decode cX10_noSheet 1 = .ok (.i2l, 1) := by decide +kernel
theorem dX10_noSheet_2 : decode cX10_noSheet 2 = .ok (.lconst 0, 1) := by decide +kernel
theorem dX10_noSheet_3 : decode cX10_noSheet 3 = .ok (.ldc2_w 175, 3) := by decide +kernel
theorem dX10_noSheet_6 : decode cX10_noSheet 6 = .ok (.invokestatic 101, 3) := by decide +kernel
theorem dX10_noSheet_9 : decode cX10_noSheet 9 = .ok (.ifCond .ne 7, 3) := by decide +kernel
theorem dX10_noSheet_12 : decode cX10_noSheet 12 = .ok (.iconst 1, 1) := by decide +kernel
theorem dX10_noSheet_13 : decode cX10_noSheet 13 = .ok (.goto 4, 3) := by decide +kernel
theorem dX10_noSheet_16 : decode cX10_noSheet 16 = .ok (.iconst 0, 1) := by decide +kernel
theorem dX10_noSheet_17 : decode cX10_noSheet 17 = .ok (.ireturn, 1) := by decide +kernel
set_option maxRecDepth 20000 in
theorem ggX10_sheet_X10_noSheet : GoodIn wsX10_sheet wsX10_noSheet := goodIn_r _ [8, 9, 10, 11, 7, 12] rfl (by decide +kernel)
set_option maxRecDepth 20000 in
theorem gX10_sheet_X10_noSheet : GoodIn wsX10_sheet (va_wsS RX10 142 yX10_noSheet wsX10_noSheet) := goodIn_app (goodIn_of _ (by decide +kernel)) ggX10_sheet_X10_noSheet
set_option maxRecDepth 20000 in
theorem ggX10_sheet_X10_refused : GoodIn wsX10_sheet wsX10_refused := goodIn_r _ [16, 17, 22, 23, 24, 25, 26, 27, 28, 29, 30, 31, 32, 33, 34, 35, 36, 37, 38, 39, 40, 41, 42, 43, 44, 45, 46, 47, 48, 49, 50, 51, 52, 53, 54, 55, 56, 57] rfl (by decide +kernel)
set_option maxRecDepth 20000 in
theorem gX10_sheet_X10_refused : GoodIn wsX10_sheet (wsV RX10 146 RX10 yX10_refused wsX10_refused) := goodIn_app (goodIn_of _ (by decide +kernel)) ggX10_sheet_X10_refused
set_option maxRecDepth 20000 in
theorem ggX10_sheet_X10_in : GoodIn wsX10_sheet wsX10_in := goodIn_r _ [12] rfl (by decide +kernel)
set_option maxRecDepth 20000 in
theorem gX10_sheet_X10_in : GoodIn wsX10_sheet (va_wsS RX10 101 yX10_in wsX10_in) := goodIn_app (goodIn_of _ (by decide +kernel)) ggX10_sheet_X10_in
set_option maxRecDepth 20000 in
theorem ggX10_sheet_X10_failed : GoodIn wsX10_sheet wsX10_failed := goodIn_r _ [21, 17, 22, 23, 24, 25, 26, 27, 28, 29, 30, 31, 32, 33, 34, 35, 36, 37, 38, 39, 40, 41, 42, 43, 44, 45, 46, 47, 48, 49, 50, 51, 52, 53, 54, 55, 56, 57] rfl (by decide +kernel)
set_option maxRecDepth 20000 in
theorem gX10_sheet_X10_failed : GoodIn wsX10_sheet (wsV RX10 134 RX10 yX10_failed wsX10_failed) := goodIn_app (goodIn_of _ (by decide +kernel)) ggX10_sheet_X10_failed
theorem dX10_sheet_0 : decode cX10_sheet 0 = .ok (.iload_n 1, 1) := by decide +kernel
theorem dX10_sheet_1 : decode cX10_sheet 1 = .ok (.invokestatic 142, 3) := by decide +kernel
theorem dX10_sheet_4 : decode cX10_sheet 4 = .ok (.ifCond .eq 9, 3) := by decide +kernel
theorem dX10_sheet_7 : decode cX10_sheet 7 = .ok (.aload_n 0, 1) := by decide +kernel
theorem dX10_sheet_8 : decode cX10_sheet 8 = .ok (.iconst (-1), 1) := by decide +kernel
theorem dX10_sheet_9 : decode cX10_sheet 9 = .ok (.invokevirtual 146, 3) := by decide +kernel
theorem dX10_sheet_12 : decode cX10_sheet 12 = .ok (.ireturn, 1) := by decide +kernel
theorem dX10_sheet_13 : decode cX10_sheet 13 = .ok (.iload_n 2, 1) := by decide +kernel
theorem dX10_sheet_14 : decode cX10_sheet 14 = .ok (.i2l, 1) := by decide +kernel
theorem dX10_sheet_15 : decode cX10_sheet 15 = .ok (.lconst 0, 1) := by decide +kernel
theorem dX10_sheet_16 : decode cX10_sheet 16 = .ok (.ldc2_w 149, 3) := by decide +kernel
theorem dX10_sheet_19 : decode cX10_sheet 19 = .ok (.invokestatic 101, 3) := by decide +kernel
theorem dX10_sheet_22 : decode cX10_sheet 22 = .ok (.ifCond .eq 9, 3) := by decide +kernel
theorem dX10_sheet_25 : decode cX10_sheet 25 = .ok (.iload_n 3, 1) := by decide +kernel
theorem dX10_sheet_26 : decode cX10_sheet 26 = .ok (.bipush 60, 2) := by decide +kernel
theorem dX10_sheet_28 : decode cX10_sheet 28 = .ok (.if_icmp .le 10, 3) := by decide +kernel
theorem dX10_sheet_31 : decode cX10_sheet 31 = .ok (.aload_n 0, 1) := by decide +kernel
theorem dX10_sheet_32 : decode cX10_sheet 32 = .ok (.bipush (-2), 2) := by decide +kernel
theorem dX10_sheet_34 : decode cX10_sheet 34 = .ok (.invokevirtual 146, 3) := by decide +kernel
theorem dX10_sheet_37 : decode cX10_sheet 37 = .ok (.ireturn, 1) := by decide +kernel
theorem dX10_sheet_38 : decode cX10_sheet 38 = .ok (.iload_n 3, 1) := by decide +kernel
theorem dX10_sheet_39 : decode cX10_sheet 39 = .ok (.ifCond .ge 9, 3) := by decide +kernel
theorem dX10_sheet_42 : decode cX10_sheet 42 = .ok (.aload_n 0, 1) := by decide +kernel
theorem dX10_sheet_43 : decode cX10_sheet 43 = .ok (.iconst 4, 1) := by decide +kernel
theorem dX10_sheet_44 : decode cX10_sheet 44 = .ok (.invokevirtual 134, 3) := by decide +kernel
theorem dX10_sheet_47 : decode cX10_sheet 47 = .ok (.ireturn, 1) := by decide +kernel
theorem dX10_sheet_48 : decode cX10_sheet 48 = .ok (.aload_n 0, 1) := by decide +kernel
theorem dX10_sheet_49 : decode cX10_sheet 49 = .ok (.getfield 73, 3) := by decide +kernel
theorem dX10_sheet_52 : decode cX10_sheet 52 = .ok (.iload_n 1, 1) := by decide +kernel
theorem dX10_sheet_53 : decode cX10_sheet 53 = .ok (.iload_n 3, 1) := by decide +kernel
theorem dX10_sheet_54 : decode cX10_sheet 54 = .ok (.iastore, 1) := by decide +kernel
theorem dX10_sheet_55 : decode cX10_sheet 55 = .ok (.aload_n 0, 1) := by decide +kernel
theorem dX10_sheet_56 : decode cX10_sheet 56 = .ok (.getfield 76, 3) := by decide +kernel
theorem dX10_sheet_59 : decode cX10_sheet 59 = .ok (.iload_n 1, 1) := by decide +kernel
theorem dX10_sheet_60 : decode cX10_sheet 60 = .ok (.iload_n 2, 1) := by decide +kernel
theorem dX10_sheet_61 : decode cX10_sheet 61 = .ok (.iastore, 1) := by decide +kernel
theorem dX10_sheet_62 : decode cX10_sheet 62 = .ok (.iconst 0, 1) := by decide +kernel
theorem dX10_sheet_63 : decode cX10_sheet 63 = .ok (.istore 4, 2) := by decide +kernel
theorem dX10_sheet_65 : decode cX10_sheet 65 = .ok (.iload 4, 2) := by decide +kernel
theorem dX10_sheet_67 : decode cX10_sheet 67 = .ok (.iload_n 3, 1) := by decide +kernel
theorem dX10_sheet_68 : decode cX10_sheet 68 = .ok (.if_icmp .ge 22, 3) := by decide +kernel
theorem dX10_sheet_71 : decode cX10_sheet 71 = .ok (.aload_n 0, 1) := by decide +kernel
theorem dX10_sheet_72 : decode cX10_sheet 72 = .ok (.getfield 79, 3) := by decide +kernel
theorem dX10_sheet_75 : decode cX10_sheet 75 = .ok (.bipush 60, 2) := by decide +kernel
theorem dX10_sheet_77 : decode cX10_sheet 77 = .ok (.iload_n 1, 1) := by decide +kernel
theorem dX10_sheet_78 : decode cX10_sheet 78 = .ok (.imul, 1) := by decide +kernel
theorem dX10_sheet_79 : decode cX10_sheet 79 = .ok (.iload 4, 2) := by decide +kernel
theorem dX10_sheet_81 : decode cX10_sheet 81 = .ok (.iadd, 1) := by decide +kernel
theorem dX10_sheet_82 : decode cX10_sheet 82 = .ok (.iconst 0, 1) := by decide +kernel
theorem dX10_sheet_83 : decode cX10_sheet 83 = .ok (.iastore, 1) := by decide +kernel
theorem dX10_sheet_84 : decode cX10_sheet 84 = .ok (.iinc 4 1, 3) := by decide +kernel
theorem dX10_sheet_87 : decode cX10_sheet 87 = .ok (.goto (-22), 3) := by decide +kernel
theorem dX10_sheet_90 : decode cX10_sheet 90 = .ok (.aload_n 0, 1) := by decide +kernel
theorem dX10_sheet_91 : decode cX10_sheet 91 = .ok (.iconst 1, 1) := by decide +kernel
theorem dX10_sheet_92 : decode cX10_sheet 92 = .ok (.invokevirtual 146, 3) := by decide +kernel
theorem dX10_sheet_95 : decode cX10_sheet 95 = .ok (.ireturn, 1) := by decide +kernel
set_option maxRecDepth 20000 in
theorem ggX10_lose_X10_noSheet : GoodIn wsX10_lose wsX10_noSheet := goodIn_r _ [5, 6, 7, 8, 4, 9] rfl (by decide +kernel)
set_option maxRecDepth 20000 in
theorem gX10_lose_X10_noSheet : GoodIn wsX10_lose (va_wsS RX10 142 yX10_noSheet wsX10_noSheet) := goodIn_app (goodIn_of _ (by decide +kernel)) ggX10_lose_X10_noSheet
theorem dX10_lose_0 : decode cX10_lose 0 = .ok (.iload_n 1, 1) := by decide +kernel
theorem dX10_lose_1 : decode cX10_lose 1 = .ok (.invokestatic 142, 3) := by decide +kernel
theorem dX10_lose_4 : decode cX10_lose 4 = .ok (.ifCond .eq 5, 3) := by decide +kernel
theorem dX10_lose_7 : decode cX10_lose 7 = .ok (.iconst (-1), 1) := by decide +kernel
theorem dX10_lose_8 : decode cX10_lose 8 = .ok (.ireturn, 1) := by decide +kernel
theorem dX10_lose_9 : decode cX10_lose 9 = .ok (.aload_n 0, 1) := by decide +kernel
theorem dX10_lose_10 : decode cX10_lose 10 = .ok (.getfield 73, 3) := by decide +kernel
theorem dX10_lose_13 : decode cX10_lose 13 = .ok (.iload_n 1, 1) := by decide +kernel
theorem dX10_lose_14 : decode cX10_lose 14 = .ok (.iaload, 1) := by decide +kernel
theorem dX10_lose_15 : decode cX10_lose 15 = .ok (.ifCond .ge 7, 3) := by decide +kernel
theorem dX10_lose_18 : decode cX10_lose 18 = .ok (.iconst 0, 1) := by decide +kernel
theorem dX10_lose_19 : decode cX10_lose 19 = .ok (.goto 4, 3) := by decide +kernel
theorem dX10_lose_22 : decode cX10_lose 22 = .ok (.iconst 1, 1) := by decide +kernel
theorem dX10_lose_23 : decode cX10_lose 23 = .ok (.istore_n 2, 1) := by decide +kernel
theorem dX10_lose_24 : decode cX10_lose 24 = .ok (.aload_n 0, 1) := by decide +kernel
theorem dX10_lose_25 : decode cX10_lose 25 = .ok (.getfield 73, 3) := by decide +kernel
theorem dX10_lose_28 : decode cX10_lose 28 = .ok (.iload_n 1, 1) := by decide +kernel
theorem dX10_lose_29 : decode cX10_lose 29 = .ok (.iconst (-1), 1) := by decide +kernel
theorem dX10_lose_30 : decode cX10_lose 30 = .ok (.iastore, 1) := by decide +kernel
theorem dX10_lose_31 : decode cX10_lose 31 = .ok (.iload_n 2, 1) := by decide +kernel
theorem dX10_lose_32 : decode cX10_lose 32 = .ok (.ireturn, 1) := by decide +kernel
set_option maxRecDepth 20000 in
theorem ggX10_noCell_X10_in : GoodIn wsX10_noCell wsX10_in := goodIn_r _ [5] rfl (by decide +kernel)
set_option maxRecDepth 20000 in
theorem gX10_noCell_X10_in : GoodIn wsX10_noCell (va_wsS RX10 101 yX10_in wsX10_in) := goodIn_app (goodIn_of _ (by decide +kernel)) ggX10_noCell_X10_in
theorem dX10_noCell_0 : decode cX10_noCell 0 = .ok (.aload_n 0, 1) := by decide +kernel
theorem dX10_noCell_1 : decode cX10_noCell 1 = .ok (.getfield 73, 3) := by decide +kernel
theorem dX10_noCell_4 : decode cX10_noCell 4 = .ok (.iload_n 1, 1) := by decide +kernel
theorem dX10_noCell_5 : decode cX10_noCell 5 = .ok (.iaload, 1) := by decide +kernel
theorem dX10_noCell_6 : decode cX10_noCell 6 = .ok (.ifCond .ge 7, 3) := by decide +kernel
theorem dX10_noCell_9 : decode cX10_noCell 9 = .ok (.iconst 1, 1) := by decide +kernel
theorem dX10_noCell_10 : decode cX10_noCell 10 = .ok (.goto 26, 3) := by decide +kernel
theorem dX10_noCell_13 : decode cX10_noCell 13 = .ok (.iload_n 2, 1) := by decide +kernel
theorem dX10_noCell_14 : decode cX10_noCell 14 = .ok (.i2l, 1) := by decide +kernel
theorem dX10_noCell_15 : decode cX10_noCell 15 = .ok (.lconst 0, 1) := by decide +kernel
theorem dX10_noCell_16 : decode cX10_noCell 16 = .ok (.aload_n 0, 1) := by decide +kernel
theorem dX10_noCell_17 : decode cX10_noCell 17 = .ok (.getfield 73, 3) := by decide +kernel
theorem dX10_noCell_20 : decode cX10_noCell 20 = .ok (.iload_n 1, 1) := by decide +kernel
theorem dX10_noCell_21 : decode cX10_noCell 21 = .ok (.iaload, 1) := by decide +kernel
theorem dX10_noCell_22 : decode cX10_noCell 22 = .ok (.i2l, 1) := by decide +kernel
theorem dX10_noCell_23 : decode cX10_noCell 23 = .ok (.lconst 1, 1) := by decide +kernel
theorem dX10_noCell_24 : decode cX10_noCell 24 = .ok (.lsub, 1) := by decide +kernel
theorem dX10_noCell_25 : decode cX10_noCell 25 = .ok (.invokestatic 101, 3) := by decide +kernel
theorem dX10_noCell_28 : decode cX10_noCell 28 = .ok (.ifCond .eq 7, 3) := by decide +kernel
theorem dX10_noCell_31 : decode cX10_noCell 31 = .ok (.iconst 0, 1) := by decide +kernel
theorem dX10_noCell_32 : decode cX10_noCell 32 = .ok (.goto 4, 3) := by decide +kernel
theorem dX10_noCell_35 : decode cX10_noCell 35 = .ok (.iconst 3, 1) := by decide +kernel
theorem dX10_noCell_36 : decode cX10_noCell 36 = .ok (.ireturn, 1) := by decide +kernel
set_option maxRecDepth 20000 in
theorem ggX10_put_X10_noSheet : GoodIn wsX10_put wsX10_noSheet := goodIn_r _ [6, 7, 8, 9, 5, 10] rfl (by decide +kernel)
set_option maxRecDepth 20000 in
theorem gX10_put_X10_noSheet : GoodIn wsX10_put (va_wsS RX10 142 yX10_noSheet wsX10_noSheet) := goodIn_app (goodIn_of _ (by decide +kernel)) ggX10_put_X10_noSheet
set_option maxRecDepth 20000 in
theorem ggX10_put_X10_refused : GoodIn wsX10_put wsX10_refused := goodIn_r _ [14, 15, 25, 26, 27, 28, 29, 30, 31, 32, 33, 34, 35, 36, 37, 38, 39, 40, 41, 42, 43, 44, 45, 46, 47, 48, 49, 50, 51, 52, 53, 54, 55, 56, 57, 58, 59, 60] rfl (by decide +kernel)
set_option maxRecDepth 20000 in
theorem gX10_put_X10_refused : GoodIn wsX10_put (wsV RX10 146 RX10 yX10_refused wsX10_refused) := goodIn_app (goodIn_of _ (by decide +kernel)) ggX10_put_X10_refused
set_option maxRecDepth 20000 in
theorem ggX10_put_X10_noCell : GoodIn wsX10_put wsX10_noCell := goodIn_r _ [19, 20, 8, 9, 5, 10, 25, 26, 27, 28, 29, 30, 31, 32, 33, 34, 35, 36, 37, 38, 39, 40, 41, 42, 43, 44, 45, 46, 47, 48, 49, 50, 51, 52, 53, 54, 55, 56, 57, 58, 59, 60] rfl (by decide +kernel)
set_option maxRecDepth 20000 in
theorem gX10_put_X10_noCell : GoodIn wsX10_put (wsV RX10 238 RX10 yX10_noCell wsX10_noCell) := goodIn_app (goodIn_of _ (by decide +kernel)) ggX10_put_X10_noCell
set_option maxRecDepth 20000 in
theorem ggX10_put_X10_failed : GoodIn wsX10_put wsX10_failed := goodIn_r _ [24, 15, 25, 26, 27, 28, 29, 30, 31, 32, 33, 34, 35, 36, 37, 38, 39, 40, 41, 42, 43, 44, 45, 46, 47, 48, 49, 50, 51, 52, 53, 54, 55, 56, 57, 58, 59, 60] rfl (by decide +kernel)
set_option maxRecDepth 20000 in
theorem gX10_put_X10_failed : GoodIn wsX10_put (wsV RX10 134 RX10 yX10_failed wsX10_failed) := goodIn_app (goodIn_of _ (by decide +kernel)) ggX10_put_X10_failed
theorem dX10_put_0 : decode cX10_put 0 = .ok (.iload_n 1, 1) := by decide +kernel
theorem dX10_put_1 : decode cX10_put 1 = .ok (.invokestatic 142, 3) := by decide +kernel
theorem dX10_put_4 : decode cX10_put 4 = .ok (.ifCond .eq 9, 3) := by decide +kernel
theorem dX10_put_7 : decode cX10_put 7 = .ok (.aload_n 0, 1) := by decide +kernel
theorem dX10_put_8 : decode cX10_put 8 = .ok (.iconst (-1), 1) := by decide +kernel
theorem dX10_put_9 : decode cX10_put 9 = .ok (.invokevirtual 146, 3) := by decide +kernel
theorem dX10_put_12 : decode cX10_put 12 = .ok (.ireturn, 1) := by decide +kernel
theorem dX10_put_13 : decode cX10_put 13 = .ok (.aload_n 0, 1) := by decide +kernel
theorem dX10_put_14 : decode cX10_put 14 = .ok (.iload_n 1, 1) := by decide +kernel
theorem dX10_put_15 : decode cX10_put 15 = .ok (.iload_n 2, 1) := by decide +kernel
theorem dX10_put_16 : decode cX10_put 16 = .ok (.invokevirtual 238, 3) := by decide +kernel
theorem dX10_put_19 : decode cX10_put 19 = .ok (.ifCond .le 14, 3) := by decide +kernel
theorem dX10_put_22 : decode cX10_put 22 = .ok (.aload_n 0, 1) := by decide +kernel
theorem dX10_put_23 : decode cX10_put 23 = .ok (.aload_n 0, 1) := by decide +kernel
theorem dX10_put_24 : decode cX10_put 24 = .ok (.iload_n 1, 1) := by decide +kernel
theorem dX10_put_25 : decode cX10_put 25 = .ok (.iload_n 2, 1) := by decide +kernel
theorem dX10_put_26 : decode cX10_put 26 = .ok (.invokevirtual 238, 3) := by decide +kernel
theorem dX10_put_29 : decode cX10_put 29 = .ok (.invokevirtual 134, 3) := by decide +kernel
theorem dX10_put_32 : decode cX10_put 32 = .ok (.ireturn, 1) := by decide +kernel
theorem dX10_put_33 : decode cX10_put 33 = .ok (.aload_n 0, 1) := by decide +kernel
theorem dX10_put_34 : decode cX10_put 34 = .ok (.getfield 79, 3) := by decide +kernel
theorem dX10_put_37 : decode cX10_put 37 = .ok (.bipush 60, 2) := by decide +kernel
theorem dX10_put_39 : decode cX10_put 39 = .ok (.iload_n 1, 1) := by decide +kernel
theorem dX10_put_40 : decode cX10_put 40 = .ok (.imul, 1) := by decide +kernel
theorem dX10_put_41 : decode cX10_put 41 = .ok (.iload_n 2, 1) := by decide +kernel
theorem dX10_put_42 : decode cX10_put 42 = .ok (.iadd, 1) := by decide +kernel
theorem dX10_put_43 : decode cX10_put 43 = .ok (.aload_n 0, 1) := by decide +kernel
theorem dX10_put_44 : decode cX10_put 44 = .ok (.getfield 76, 3) := by decide +kernel
theorem dX10_put_47 : decode cX10_put 47 = .ok (.iload_n 1, 1) := by decide +kernel
theorem dX10_put_48 : decode cX10_put 48 = .ok (.iaload, 1) := by decide +kernel
theorem dX10_put_49 : decode cX10_put 49 = .ok (.ifCond .ne 8, 3) := by decide +kernel
theorem dX10_put_52 : decode cX10_put 52 = .ok (.iload_n 3, 1) := by decide +kernel
theorem dX10_put_53 : decode cX10_put 53 = .ok (.i2b, 1) := by decide +kernel
theorem dX10_put_54 : decode cX10_put 54 = .ok (.goto 19, 3) := by decide +kernel
theorem dX10_put_57 : decode cX10_put 57 = .ok (.aload_n 0, 1) := by decide +kernel
theorem dX10_put_58 : decode cX10_put 58 = .ok (.getfield 76, 3) := by decide +kernel
theorem dX10_put_61 : decode cX10_put 61 = .ok (.iload_n 1, 1) := by decide +kernel
theorem dX10_put_62 : decode cX10_put 62 = .ok (.iaload, 1) := by decide +kernel
theorem dX10_put_63 : decode cX10_put 63 = .ok (.iconst 1, 1) := by decide +kernel
theorem dX10_put_64 : decode cX10_put 64 = .ok (.if_icmp .ne 8, 3) := by decide +kernel
theorem dX10_put_67 : decode cX10_put 67 = .ok (.iload_n 3, 1) := by decide +kernel
theorem dX10_put_68 : decode cX10_put 68 = .ok (.i2s, 1) := by decide +kernel
theorem dX10_put_69 : decode cX10_put 69 = .ok (.goto 4, 3) := by decide +kernel
theorem dX10_put_72 : decode cX10_put 72 = .ok (.iload_n 3, 1) := by decide +kernel
theorem dX10_put_73 : decode cX10_put 73 = .ok (.iastore, 1) := by decide +kernel
theorem dX10_put_74 : decode cX10_put 74 = .ok (.aload_n 0, 1) := by decide +kernel
theorem dX10_put_75 : decode cX10_put 75 = .ok (.iconst 1, 1) := by decide +kernel
theorem dX10_put_76 : decode cX10_put 76 = .ok (.invokevirtual 146, 3) := by decide +kernel
theorem dX10_put_79 : decode cX10_put 79 = .ok (.ireturn, 1) := by decide +kernel
set_option maxRecDepth 20000 in
theorem ggX10_cell_X10_noSheet : GoodIn wsX10_cell wsX10_noSheet := goodIn_r _ [9, 10, 11, 12, 8, 13] rfl (by decide +kernel)
set_option maxRecDepth 20000 in
theorem gX10_cell_X10_noSheet : GoodIn wsX10_cell (va_wsS RX10 142 yX10_noSheet wsX10_noSheet) := goodIn_app (goodIn_of _ (by decide +kernel)) ggX10_cell_X10_noSheet
set_option maxRecDepth 20000 in
theorem ggX10_cell_X10_in : GoodIn wsX10_cell wsX10_in := goodIn_r _ [13] rfl (by decide +kernel)
set_option maxRecDepth 20000 in
theorem gX10_cell_X10_in : GoodIn wsX10_cell (va_wsS RX10 101 yX10_in wsX10_in) := goodIn_app (goodIn_of _ (by decide +kernel)) ggX10_cell_X10_in
set_option maxRecDepth 20000 in
theorem ggX10_cell_X10_lost : GoodIn wsX10_cell wsX10_lost := goodIn_r _ [16, 17] rfl (by decide +kernel)
set_option maxRecDepth 20000 in
theorem gX10_cell_X10_lost : GoodIn wsX10_cell (va_wsS RX10 94 yX10_lost wsX10_lost) := goodIn_app (goodIn_of _ (by decide +kernel)) ggX10_cell_X10_lost
set_option maxRecDepth 20000 in
theorem ggX10_cell_X10_failedLong : GoodIn wsX10_cell wsX10_failedLong := goodIn_r _ [21, 1, 14, 15, 8, 16, 17, 26, 27, 28, 29, 30, 31, 32, 33, 34, 35, 36, 37, 38, 39, 40, 41, 42, 43, 44, 45, 46, 47, 48, 49, 50, 51, 52, 53, 54, 55, 56, 57, 58, 59, 60, 61] rfl (by decide +kernel)
set_option maxRecDepth 20000 in
theorem gX10_cell_X10_failedLong : GoodIn wsX10_cell (wsV RX10 241 RX10 yX10_failedLong wsX10_failedLong) := goodIn_app (goodIn_of _ (by decide +kernel)) ggX10_cell_X10_failedLong
set_option maxRecDepth 20000 in
theorem ggX10_cell_X10_noCell : GoodIn wsX10_cell wsX10_noCell := goodIn_r _ [25, 3, 11, 12, 8, 13, 26, 27, 28, 29, 30, 31, 32, 33, 34, 35, 36, 37, 38, 39, 40, 41, 42, 43, 44, 45, 46, 47, 48, 49, 50, 51, 52, 53, 54, 55, 56, 57, 58, 59, 60, 61] rfl (by decide +kernel)
set_option maxRecDepth 20000 in
theorem gX10_cell_X10_noCell : GoodIn wsX10_cell (wsV RX10 238 RX10 yX10_noCell wsX10_noCell) := goodIn_app (goodIn_of _ (by decide +kernel)) ggX10_cell_X10_noCell
theorem dX10_cell_0 : decode cX10_cell 0 = .ok (.aload_n 0, 1) := by decide +kernel
theorem dX10_cell_1 : decode cX10_cell 1 = .ok (.iconst 0, 1) := by decide +kernel
theorem dX10_cell_2 : decode cX10_cell 2 = .ok (.putfield 91, 3) := by decide +kernel
theorem dX10_cell_5 : decode cX10_cell 5 = .ok (.iload_n 1, 1) := by decide +kernel
theorem dX10_cell_6 : decode cX10_cell 6 = .ok (.invokestatic 142, 3) := by decide +kernel
theorem dX10_cell_9 : decode cX10_cell 9 = .ok (.ifCond .ne 15, 3) := by decide +kernel
theorem dX10_cell_12 : decode cX10_cell 12 = .ok (.iload_n 3, 1) := by decide +kernel
theorem dX10_cell_13 : decode cX10_cell 13 = .ok (.i2l, 1) := by decide +kernel
theorem dX10_cell_14 : decode cX10_cell 14 = .ok (.lconst 0, 1) := by decide +kernel
theorem dX10_cell_15 : decode cX10_cell 15 = .ok (.ldc2_w 149, 3) := by decide +kernel
theorem dX10_cell_18 : decode cX10_cell 18 = .ok (.invokestatic 101, 3) := by decide +kernel
theorem dX10_cell_21 : decode cX10_cell 21 = .ok (.ifCond .ne 7, 3) := by decide +kernel
theorem dX10_cell_24 : decode cX10_cell 24 = .ok (.invokestatic 94, 3) := by decide +kernel
theorem dX10_cell_27 : decode cX10_cell 27 = .ok (.lreturn, 1) := by decide +kernel
theorem dX10_cell_28 : decode cX10_cell 28 = .ok (.aload_n 0, 1) := by decide +kernel
theorem dX10_cell_29 : decode cX10_cell 29 = .ok (.getfield 73, 3) := by decide +kernel
theorem dX10_cell_32 : decode cX10_cell 32 = .ok (.iload_n 1, 1) := by decide +kernel
theorem dX10_cell_33 : decode cX10_cell 33 = .ok (.iaload, 1) := by decide +kernel
theorem dX10_cell_34 : decode cX10_cell 34 = .ok (.ifCond .lt 19, 3) := by decide +kernel
theorem dX10_cell_37 : decode cX10_cell 37 = .ok (.aload_n 0, 1) := by decide +kernel
theorem dX10_cell_38 : decode cX10_cell 38 = .ok (.getfield 76, 3) := by decide +kernel
theorem dX10_cell_41 : decode cX10_cell 41 = .ok (.iload_n 1, 1) := by decide +kernel
theorem dX10_cell_42 : decode cX10_cell 42 = .ok (.iaload, 1) := by decide +kernel
theorem dX10_cell_43 : decode cX10_cell 43 = .ok (.iload_n 3, 1) := by decide +kernel
theorem dX10_cell_44 : decode cX10_cell 44 = .ok (.if_icmp .eq 9, 3) := by decide +kernel
theorem dX10_cell_47 : decode cX10_cell 47 = .ok (.aload_n 0, 1) := by decide +kernel
theorem dX10_cell_48 : decode cX10_cell 48 = .ok (.iconst 2, 1) := by decide +kernel
theorem dX10_cell_49 : decode cX10_cell 49 = .ok (.invokevirtual 241, 3) := by decide +kernel
theorem dX10_cell_52 : decode cX10_cell 52 = .ok (.lreturn, 1) := by decide +kernel
theorem dX10_cell_53 : decode cX10_cell 53 = .ok (.aload_n 0, 1) := by decide +kernel
theorem dX10_cell_54 : decode cX10_cell 54 = .ok (.iload_n 1, 1) := by decide +kernel
theorem dX10_cell_55 : decode cX10_cell 55 = .ok (.iload_n 2, 1) := by decide +kernel
theorem dX10_cell_56 : decode cX10_cell 56 = .ok (.invokevirtual 238, 3) := by decide +kernel
theorem dX10_cell_59 : decode cX10_cell 59 = .ok (.ifCond .le 16, 3) := by decide +kernel
theorem dX10_cell_62 : decode cX10_cell 62 = .ok (.aload_n 0, 1) := by decide +kernel
theorem dX10_cell_63 : decode cX10_cell 63 = .ok (.aload_n 0, 1) := by decide +kernel
theorem dX10_cell_64 : decode cX10_cell 64 = .ok (.iload_n 1, 1) := by decide +kernel
theorem dX10_cell_65 : decode cX10_cell 65 = .ok (.iload_n 2, 1) := by decide +kernel
theorem dX10_cell_66 : decode cX10_cell 66 = .ok (.invokevirtual 238, 3) := by decide +kernel
theorem dX10_cell_69 : decode cX10_cell 69 = .ok (.invokevirtual 241, 3) := by decide +kernel
theorem dX10_cell_72 : decode cX10_cell 72 = .ok (.goto 15, 3) := by decide +kernel
theorem dX10_cell_75 : decode cX10_cell 75 = .ok (.aload_n 0, 1) := by decide +kernel
theorem dX10_cell_76 : decode cX10_cell 76 = .ok (.getfield 79, 3) := by decide +kernel
theorem dX10_cell_79 : decode cX10_cell 79 = .ok (.bipush 60, 2) := by decide +kernel
theorem dX10_cell_81 : decode cX10_cell 81 = .ok (.iload_n 1, 1) := by decide +kernel
theorem dX10_cell_82 : decode cX10_cell 82 = .ok (.imul, 1) := by decide +kernel
theorem dX10_cell_83 : decode cX10_cell 83 = .ok (.iload_n 2, 1) := by decide +kernel
theorem dX10_cell_84 : decode cX10_cell 84 = .ok (.iadd, 1) := by decide +kernel
theorem dX10_cell_85 : decode cX10_cell 85 = .ok (.iaload, 1) := by decide +kernel
theorem dX10_cell_86 : decode cX10_cell 86 = .ok (.i2l, 1) := by decide +kernel
theorem dX10_cell_87 : decode cX10_cell 87 = .ok (.lreturn, 1) := by decide +kernel
theorem dX10_isBeyond_0 : decode cX10_isBeyond 0 = .ok (.iload_n 0, 1) := by decide +kernel
theorem dX10_isBeyond_1 : decode cX10_isBeyond 1 = .ok (.ifCond .lt 19, 3) := by decide +kernel
theorem dX10_isBeyond_4 : decode cX10_isBeyond 4 = .ok (.lload_n 1, 1) := by decide +kernel
theorem dX10_isBeyond_5 : decode cX10_isBeyond 5 = .ok (.lconst 0, 1) := by decide +kernel
theorem dX10_isBeyond_6 : decode cX10_isBeyond 6 = .ok (.lcmp, 1) := by decide +kernel
theorem dX10_isBeyond_7 : decode cX10_isBeyond 7 = .ok (.ifCond .lt 13, 3) := by decide +kernel
theorem dX10_isBeyond_10 : decode cX10_isBeyond 10 = .ok (.iload_n 0, 1) := by decide +kernel
theorem dX10_isBeyond_11 : decode cX10_isBeyond 11 = .ok (.i2l, 1) := by decide +kernel
theorem dX10_isBeyond_12 : decode cX10_isBeyond 12 = .ok (.lload_n 1, 1) := by decide +kernel
theorem dX10_isBeyond_13 : decode cX10_isBeyond 13 = .ok (.ladd, 1) := by decide +kernel
theorem dX10_isBeyond_14 : decode cX10_isBeyond 14 = .ok (.iload_n 3, 1) := by decide +kernel
theorem dX10_isBeyond_15 : decode cX10_isBeyond 15 = .ok (.i2l, 1) := by decide +kernel
theorem dX10_isBeyond_16 : decode cX10_isBeyond 16 = .ok (.lcmp, 1) := by decide +kernel
theorem dX10_isBeyond_17 : decode cX10_isBeyond 17 = .ok (.ifCond .le 7, 3) := by decide +kernel
theorem dX10_isBeyond_20 : decode cX10_isBeyond 20 = .ok (.iconst 1, 1) := by decide +kernel
theorem dX10_isBeyond_21 : decode cX10_isBeyond 21 = .ok (.goto 4, 3) := by decide +kernel
theorem dX10_isBeyond_24 : decode cX10_isBeyond 24 = .ok (.iconst 0, 1) := by decide +kernel
theorem dX10_isBeyond_25 : decode cX10_isBeyond 25 = .ok (.ireturn, 1) := by decide +kernel
set_option maxRecDepth 20000 in
theorem ggX10_copy_X10_noSheet : GoodIn wsX10_copy wsX10_noSheet := goodIn_r _ [8, 9, 10, 11, 7, 12] rfl (by decide +kernel)
set_option maxRecDepth 20000 in
theorem gX10_copy_X10_noSheet : GoodIn wsX10_copy (va_wsS RX10 142 yX10_noSheet wsX10_noSheet) := goodIn_app (goodIn_of _ (by decide +kernel)) ggX10_copy_X10_noSheet
set_option maxRecDepth 20000 in
theorem ggX10_copy_X10_refused : GoodIn wsX10_copy wsX10_refused := goodIn_r _ [16, 17, 25, 26, 27, 28, 29, 30, 31, 32, 33, 34, 35, 36, 37, 38, 39, 40, 41, 42, 43, 44, 45, 46, 47, 48, 49, 50, 51, 52, 53, 54, 55, 56, 57, 58, 59, 60] rfl (by decide +kernel)
set_option maxRecDepth 20000 in
theorem gX10_copy_X10_refused : GoodIn wsX10_copy (wsV RX10 146 RX10 yX10_refused wsX10_refused) := goodIn_app (goodIn_of _ (by decide +kernel)) ggX10_copy_X10_refused
set_option maxRecDepth 20000 in
theorem ggX10_copy_X10_failed : GoodIn wsX10_copy wsX10_failed := goodIn_r _ [21, 17, 25, 26, 27, 28, 29, 30, 31, 32, 33, 34, 35, 36, 37, 38, 39, 40, 41, 42, 43, 44, 45, 46, 47, 48, 49, 50, 51, 52, 53, 54, 55, 56, 57, 58, 59, 60] rfl (by decide +kernel)
set_option maxRecDepth 20000 in
theorem gX10_copy_X10_failed : GoodIn wsX10_copy (wsV RX10 134 RX10 yX10_failed wsX10_failed) := goodIn_app (goodIn_of _ (by decide +kernel)) ggX10_copy_X10_failed
set_option maxRecDepth 20000 in
theorem ggX10_copy_X10_isBeyond : GoodIn wsX10_copy wsX10_isBeyond := goodIn_r _ [24] rfl (by decide +kernel)
set_option maxRecDepth 20000 in
theorem gX10_copy_X10_isBeyond : GoodIn wsX10_copy (va_wsS RX10 138 yX10_isBeyond wsX10_isBeyond) := goodIn_app (goodIn_of _ (by decide +kernel)) ggX10_copy_X10_isBeyond
theorem dX10_copy_0 : decode cX10_copy 0 = .ok (.iload_n 1, 1) := by decide +kernel
theorem dX10_copy_1 : decode cX10_copy 1 = .ok (.invokestatic 142, 3) := by decide +kernel
theorem dX10_copy_4 : decode cX10_copy 4 = .ok (.ifCond .ne 10, 3) := by decide +kernel
theorem dX10_copy_7 : decode cX10_copy 7 = .ok (.iload_n 3, 1) := by decide +kernel
theorem dX10_copy_8 : decode cX10_copy 8 = .ok (.invokestatic 142, 3) := by decide +kernel
theorem dX10_copy_11 : decode cX10_copy 11 = .ok (.ifCond .eq 9, 3) := by decide +kernel
theorem dX10_copy_14 : decode cX10_copy 14 = .ok (.aload_n 0, 1) := by decide +kernel
theorem dX10_copy_15 : decode cX10_copy 15 = .ok (.iconst (-1), 1) := by decide +kernel
theorem dX10_copy_16 : decode cX10_copy 16 = .ok (.invokevirtual 146, 3) := by decide +kernel
theorem dX10_copy_19 : decode cX10_copy 19 = .ok (.ireturn, 1) := by decide +kernel
theorem dX10_copy_20 : decode cX10_copy 20 = .ok (.aload_n 0, 1) := by decide +kernel
theorem dX10_copy_21 : decode cX10_copy 21 = .ok (.getfield 73, 3) := by decide +kernel
theorem dX10_copy_24 : decode cX10_copy 24 = .ok (.iload_n 1, 1) := by decide +kernel
theorem dX10_copy_25 : decode cX10_copy 25 = .ok (.iaload, 1) := by decide +kernel
theorem dX10_copy_26 : decode cX10_copy 26 = .ok (.ifCond .lt 12, 3) := by decide +kernel
theorem dX10_copy_29 : decode cX10_copy 29 = .ok (.aload_n 0, 1) := by decide +kernel
theorem dX10_copy_30 : decode cX10_copy 30 = .ok (.getfield 73, 3) := by decide +kernel
theorem dX10_copy_33 : decode cX10_copy 33 = .ok (.iload_n 3, 1) := by decide +kernel
theorem dX10_copy_34 : decode cX10_copy 34 = .ok (.iaload, 1) := by decide +kernel
theorem dX10_copy_35 : decode cX10_copy 35 = .ok (.ifCond .ge 9, 3) := by decide +kernel
theorem dX10_copy_38 : decode cX10_copy 38 = .ok (.aload_n 0, 1) := by decide +kernel
theorem dX10_copy_39 : decode cX10_copy 39 = .ok (.iconst 1, 1) := by decide +kernel
theorem dX10_copy_40 : decode cX10_copy 40 = .ok (.invokevirtual 134, 3) := by decide +kernel
theorem dX10_copy_43 : decode cX10_copy 43 = .ok (.ireturn, 1) := by decide +kernel
theorem dX10_copy_44 : decode cX10_copy 44 = .ok (.aload_n 0, 1) := by decide +kernel
theorem dX10_copy_45 : decode cX10_copy 45 = .ok (.getfield 76, 3) := by decide +kernel
theorem dX10_copy_48 : decode cX10_copy 48 = .ok (.iload_n 1, 1) := by decide +kernel
theorem dX10_copy_49 : decode cX10_copy 49 = .ok (.iaload, 1) := by decide +kernel
theorem dX10_copy_50 : decode cX10_copy 50 = .ok (.aload_n 0, 1) := by decide +kernel
theorem dX10_copy_51 : decode cX10_copy 51 = .ok (.getfield 76, 3) := by decide +kernel
theorem dX10_copy_54 : decode cX10_copy 54 = .ok (.iload_n 3, 1) := by decide +kernel
theorem dX10_copy_55 : decode cX10_copy 55 = .ok (.iaload, 1) := by decide +kernel
theorem dX10_copy_56 : decode cX10_copy 56 = .ok (.if_icmp .eq 9, 3) := by decide +kernel
theorem dX10_copy_59 : decode cX10_copy 59 = .ok (.aload_n 0, 1) := by decide +kernel
theorem dX10_copy_60 : decode cX10_copy 60 = .ok (.iconst 2, 1) := by decide +kernel
theorem dX10_copy_61 : decode cX10_copy 61 = .ok (.invokevirtual 134, 3) := by decide +kernel
theorem dX10_copy_64 : decode cX10_copy 64 = .ok (.ireturn, 1) := by decide +kernel
theorem dX10_copy_65 : decode cX10_copy 65 = .ok (.iload_n 2, 1) := by decide +kernel
theorem dX10_copy_66 : decode cX10_copy 66 = .ok (.iload 5, 2) := by decide +kernel
theorem dX10_copy_68 : decode cX10_copy 68 = .ok (.i2l, 1) := by decide +kernel
theorem dX10_copy_69 : decode cX10_copy 69 = .ok (.aload_n 0, 1) := by decide +kernel
theorem dX10_copy_70 : decode cX10_copy 70 = .ok (.getfield 73, 3) := by decide +kernel
theorem dX10_copy_73 : decode cX10_copy 73 = .ok (.iload_n 1, 1) := by decide +kernel
theorem dX10_copy_74 : decode cX10_copy 74 = .ok (.iaload, 1) := by decide +kernel
theorem dX10_copy_75 : decode cX10_copy 75 = .ok (.invokestatic 138, 3) := by decide +kernel
theorem dX10_copy_78 : decode cX10_copy 78 = .ok (.ifCond .ne 20, 3) := by decide +kernel
theorem dX10_copy_81 : decode cX10_copy 81 = .ok (.iload 4, 2) := by decide +kernel
theorem dX10_copy_83 : decode cX10_copy 83 = .ok (.iload 5, 2) := by decide +kernel
theorem dX10_copy_85 : decode cX10_copy 85 = .ok (.i2l, 1) := by decide +kernel
theorem dX10_copy_86 : decode cX10_copy 86 = .ok (.aload_n 0, 1) := by decide +kernel
theorem dX10_copy_87 : decode cX10_copy 87 = .ok (.getfield 73, 3) := by decide +kernel
theorem dX10_copy_90 : decode cX10_copy 90 = .ok (.iload_n 3, 1) := by decide +kernel
theorem dX10_copy_91 : decode cX10_copy 91 = .ok (.iaload, 1) := by decide +kernel
theorem dX10_copy_92 : decode cX10_copy 92 = .ok (.invokestatic 138, 3) := by decide +kernel
theorem dX10_copy_95 : decode cX10_copy 95 = .ok (.ifCond .eq 9, 3) := by decide +kernel
theorem dX10_copy_98 : decode cX10_copy 98 = .ok (.aload_n 0, 1) := by decide +kernel
theorem dX10_copy_99 : decode cX10_copy 99 = .ok (.iconst 3, 1) := by decide +kernel
theorem dX10_copy_100 : decode cX10_copy 100 = .ok (.invokevirtual 134, 3) := by decide +kernel
theorem dX10_copy_103 : decode cX10_copy 103 = .ok (.ireturn, 1) := by decide +kernel
theorem dX10_copy_104 : decode cX10_copy 104 = .ok (.iconst 0, 1) := by decide +kernel
theorem dX10_copy_105 : decode cX10_copy 105 = .ok (.istore 6, 2) := by decide +kernel
theorem dX10_copy_107 : decode cX10_copy 107 = .ok (.iload 6, 2) := by decide +kernel
theorem dX10_copy_109 : decode cX10_copy 109 = .ok (.iload 5, 2) := by decide +kernel
theorem dX10_copy_111 : decode cX10_copy 111 = .ok (.if_icmp .ge 30, 3) := by decide +kernel
theorem dX10_copy_114 : decode cX10_copy 114 = .ok (.aload_n 0, 1) := by decide +kernel
theorem dX10_copy_115 : decode cX10_copy 115 = .ok (.getfield 82, 3) := by decide +kernel
theorem dX10_copy_118 : decode cX10_copy 118 = .ok (.iload 6, 2) := by decide +kernel
theorem dX10_copy_120 : decode cX10_copy 120 = .ok (.aload_n 0, 1) := by decide +kernel
theorem dX10_copy_121 : decode cX10_copy 121 = .ok (.getfield 79, 3) := by decide +kernel
theorem dX10_copy_124 : decode cX10_copy 124 = .ok (.bipush 60, 2) := by decide +kernel
theorem dX10_copy_126 : decode cX10_copy 126 = .ok (.iload_n 1, 1) := by decide +kernel
theorem dX10_copy_127 : decode cX10_copy 127 = .ok (.imul, 1) := by decide +kernel
theorem dX10_copy_128 : decode cX10_copy 128 = .ok (.iload_n 2, 1) := by decide +kernel
theorem dX10_copy_129 : decode cX10_copy 129 = .ok (.iadd, 1) := by decide +kernel
theorem dX10_copy_130 : decode cX10_copy 130 = .ok (.iload 6, 2) := by decide +kernel
theorem dX10_copy_132 : decode cX10_copy 132 = .ok (.iadd, 1) := by decide +kernel
theorem dX10_copy_133 : decode cX10_copy 133 = .ok (.iaload, 1) := by decide +kernel
theorem dX10_copy_134 : decode cX10_copy 134 = .ok (.iastore, 1) := by decide +kernel
theorem dX10_copy_135 : decode cX10_copy 135 = .ok (.iinc 6 1, 3) := by decide +kernel
theorem dX10_copy_138 : decode cX10_copy 138 = .ok (.goto (-31), 3) := by decide +kernel
theorem dX10_copy_141 : decode cX10_copy 141 = .ok (.iconst 0, 1) := by decide +kernel
theorem dX10_copy_142 : decode cX10_copy 142 = .ok (.istore 6, 2) := by decide +kernel
theorem dX10_copy_144 : decode cX10_copy 144 = .ok (.iload 6, 2) := by decide +kernel
theorem dX10_copy_146 : decode cX10_copy 146 = .ok (.iload 5, 2) := by decide +kernel
theorem dX10_copy_148 : decode cX10_copy 148 = .ok (.if_icmp .ge 31, 3) := by decide +kernel
theorem dX10_copy_151 : decode cX10_copy 151 = .ok (.aload_n 0, 1) := by decide +kernel
theorem dX10_copy_152 : decode cX10_copy 152 = .ok (.getfield 79, 3) := by decide +kernel
theorem dX10_copy_155 : decode cX10_copy 155 = .ok (.bipush 60, 2) := by decide +kernel
theorem dX10_copy_157 : decode cX10_copy 157 = .ok (.iload_n 3, 1) := by decide +kernel
theorem dX10_copy_158 : decode cX10_copy 158 = .ok (.imul, 1) := by decide +kernel
theorem dX10_copy_159 : decode cX10_copy 159 = .ok (.iload 4, 2) := by decide +kernel
theorem dX10_copy_161 : decode cX10_copy 161 = .ok (.iadd, 1) := by decide +kernel
theorem dX10_copy_162 : decode cX10_copy 162 = .ok (.iload 6, 2) := by decide +kernel
theorem dX10_copy_164 : decode cX10_copy 164 = .ok (.iadd, 1) := by decide +kernel
theorem dX10_copy_165 : decode cX10_copy 165 = .ok (.aload_n 0, 1) := by decide +kernel
theorem dX10_copy_166 : decode cX10_copy 166 = .ok (.getfield 82, 3) := by decide +kernel
theorem dX10_copy_169 : decode cX10_copy 169 = .ok (.iload 6, 2) := by decide +kernel
theorem dX10_copy_171 : decode cX10_copy 171 = .ok (.iaload, 1) := by decide +kernel
theorem dX10_copy_172 : decode cX10_copy 172 = .ok (.iastore, 1) := by decide +kernel
theorem dX10_copy_173 : decode cX10_copy 173 = .ok (.iinc 6 1, 3) := by decide +kernel
theorem dX10_copy_176 : decode cX10_copy 176 = .ok (.goto (-32), 3) := by decide +kernel
theorem dX10_copy_179 : decode cX10_copy 179 = .ok (.aload_n 0, 1) := by decide +kernel
theorem dX10_copy_180 : decode cX10_copy 180 = .ok (.iload 5, 2) := by decide +kernel
theorem dX10_copy_182 : decode cX10_copy 182 = .ok (.invokevirtual 146, 3) := by decide +kernel
theorem dX10_copy_185 : decode cX10_copy 185 = .ok (.ireturn, 1) := by decide +kernel
theorem dX10_traced_0 : decode cX10_traced 0 = .ok (.aload_n 0, 1) := by decide +kernel
theorem dX10_traced_1 : decode cX10_traced 1 = .ok (.bipush 31, 2) := by decide +kernel
theorem dX10_traced_3 : decode cX10_traced 3 = .ok (.aload_n 0, 1) := by decide +kernel
theorem dX10_traced_4 : decode cX10_traced 4 = .ok (.getfield 245, 3) := by decide +kernel
theorem dX10_traced_7 : decode cX10_traced 7 = .ok (.imul, 1) := by decide +kernel
theorem dX10_traced_8 : decode cX10_traced 8 = .ok (.iload_n 1, 1) := by decide +kernel
theorem dX10_traced_9 : decode cX10_traced 9 = .ok (.iadd, 1) := by decide +kernel
theorem dX10_traced_10 : decode cX10_traced 10 = .ok (.putfield 245, 3) := by decide +kernel
theorem dX10_traced_13 : decode cX10_traced 13 = .ok (.return_, 1) := by decide +kernel
set_option maxRecDepth 20000 in
theorem ggX10_tell_X10_noLamp : GoodIn wsX10_tell wsX10_noLamp := goodIn_r _ [7, 8, 9, 10, 6, 11, 17, 18, 19, 20, 21, 22, 23, 24, 25, 26, 27, 28, 29, 30, 31, 32, 33, 34, 35, 36, 37, 38, 39, 40, 41, 42, 43, 44, 45, 46, 47, 48, 49, 50, 51, 52] rfl (by decide +kernel)
set_option maxRecDepth 20000 in
theorem gX10_tell_X10_noLamp : GoodIn wsX10_tell (wsV RX10 172 RX10 yX10_noLamp wsX10_noLamp) := goodIn_app (goodIn_of _ (by decide +kernel)) ggX10_tell_X10_noLamp
set_option maxRecDepth 20000 in
theorem ggX10_tell_X10_traced : GoodIn wsX10_tell wsX10_traced := goodIn_r _ [15, 16, 17, 18, 19, 20, 21, 22, 23, 24, 25, 26, 27, 28, 29, 30, 31, 32, 33, 34, 35, 36, 37, 38, 39, 40, 41, 42, 43, 44, 45, 46, 47, 48, 49, 50, 51, 52] rfl (by decide +kernel)
set_option maxRecDepth 20000 in
theorem gX10_tell_X10_traced : GoodIn wsX10_tell (wsV RX10 248 RX10 yX10_traced wsX10_traced) := goodIn_app (goodIn_of _ (by decide +kernel)) ggX10_tell_X10_traced
theorem dX10_tell_0 : decode cX10_tell 0 = .ok (.aload_n 0, 1) := by decide +kernel
theorem dX10_tell_1 : decode cX10_tell 1 = .ok (.iload_n 1, 1) := by decide +kernel
theorem dX10_tell_2 : decode cX10_tell 2 = .ok (.invokevirtual 172, 3) := by decide +kernel
theorem dX10_tell_5 : decode cX10_tell 5 = .ok (.ifCond .eq 5, 3) := by decide +kernel
theorem dX10_tell_8 : decode cX10_tell 8 = .ok (.iconst (-1), 1) := by decide +kernel
theorem dX10_tell_9 : decode cX10_tell 9 = .ok (.ireturn, 1) := by decide +kernel
theorem dX10_tell_10 : decode cX10_tell 10 = .ok (.aload_n 0, 1) := by decide +kernel
theorem dX10_tell_11 : decode cX10_tell 11 = .ok (.getfield 16, 3) := by decide +kernel
theorem dX10_tell_14 : decode cX10_tell 14 = .ok (.iload_n 1, 1) := by decide +kernel
theorem dX10_tell_15 : decode cX10_tell 15 = .ok (.iaload, 1) := by decide +kernel
theorem dX10_tell_16 : decode cX10_tell 16 = .ok (.istore_n 2, 1) := by decide +kernel
theorem dX10_tell_17 : decode cX10_tell 17 = .ok (.iload_n 2, 1) := by decide +kernel
theorem dX10_tell_18 : decode cX10_tell 18 = .ok (.iconst 2, 1) := by decide +kernel
theorem dX10_tell_19 : decode cX10_tell 19 = .ok (.if_icmp .ne 8, 3) := by decide +kernel
theorem dX10_tell_22 : decode cX10_tell 22 = .ok (.aload_n 0, 1) := by decide +kernel
theorem dX10_tell_23 : decode cX10_tell 23 = .ok (.iconst 3, 1) := by decide +kernel
theorem dX10_tell_24 : decode cX10_tell 24 = .ok (.invokevirtual 248, 3) := by decide +kernel
theorem dX10_tell_27 : decode cX10_tell 27 = .ok (.iload_n 2, 1) := by decide +kernel
theorem dX10_tell_28 : decode cX10_tell 28 = .ok (.ifCond .le 8, 3) := by decide +kernel
theorem dX10_tell_31 : decode cX10_tell 31 = .ok (.aload_n 0, 1) := by decide +kernel
theorem dX10_tell_32 : decode cX10_tell 32 = .ok (.iconst 2, 1) := by decide +kernel
theorem dX10_tell_33 : decode cX10_tell 33 = .ok (.invokevirtual 248, 3) := by decide +kernel
theorem dX10_tell_36 : decode cX10_tell 36 = .ok (.aload_n 0, 1) := by decide +kernel
theorem dX10_tell_37 : decode cX10_tell 37 = .ok (.iconst 1, 1) := by decide +kernel
theorem dX10_tell_38 : decode cX10_tell 38 = .ok (.invokevirtual 248, 3) := by decide +kernel
theorem dX10_tell_41 : decode cX10_tell 41 = .ok (.iload_n 2, 1) := by decide +kernel
theorem dX10_tell_42 : decode cX10_tell 42 = .ok (.iconst 2, 1) := by decide +kernel
theorem dX10_tell_43 : decode cX10_tell 43 = .ok (.if_icmp .ne 8, 3) := by decide +kernel
theorem dX10_tell_46 : decode cX10_tell 46 = .ok (.aload_n 0, 1) := by decide +kernel
theorem dX10_tell_47 : decode cX10_tell 47 = .ok (.iconst 1, 1) := by decide +kernel
theorem dX10_tell_48 : decode cX10_tell 48 = .ok (.invokevirtual 248, 3) := by decide +kernel
theorem dX10_tell_51 : decode cX10_tell 51 = .ok (.aload_n 0, 1) := by decide +kernel
theorem dX10_tell_52 : decode cX10_tell 52 = .ok (.getfield 19, 3) := by decide +kernel
theorem dX10_tell_55 : decode cX10_tell 55 = .ok (.iload_n 1, 1) := by decide +kernel
theorem dX10_tell_56 : decode cX10_tell 56 = .ok (.iaload, 1) := by decide +kernel
theorem dX10_tell_57 : decode cX10_tell 57 = .ok (.istore_n 3, 1) := by decide +kernel
theorem dX10_tell_58 : decode cX10_tell 58 = .ok (.iload_n 2, 1) := by decide +kernel
theorem dX10_tell_59 : decode cX10_tell 59 = .ok (.ifCond .ne 7, 3) := by decide +kernel
theorem dX10_tell_62 : decode cX10_tell 62 = .ok (.iload_n 3, 1) := by decide +kernel
theorem dX10_tell_63 : decode cX10_tell 63 = .ok (.goto 21, 3) := by decide +kernel
theorem dX10_tell_66 : decode cX10_tell 66 = .ok (.iload_n 2, 1) := by decide +kernel
theorem dX10_tell_67 : decode cX10_tell 67 = .ok (.iconst 1, 1) := by decide +kernel
theorem dX10_tell_68 : decode cX10_tell 68 = .ok (.if_icmp .ne 10, 3) := by decide +kernel
theorem dX10_tell_71 : decode cX10_tell 71 = .ok (.iload_n 3, 1) := by decide +kernel
theorem dX10_tell_72 : decode cX10_tell 72 = .ok (.bipush 100, 2) := by decide +kernel
theorem dX10_tell_74 : decode cX10_tell 74 = .ok (.iadd, 1) := by decide +kernel
theorem dX10_tell_75 : decode cX10_tell 75 = .ok (.goto 9, 3) := by decide +kernel
theorem dX10_tell_78 : decode cX10_tell 78 = .ok (.iconst 2, 1) := by decide +kernel
theorem dX10_tell_79 : decode cX10_tell 79 = .ok (.iload_n 3, 1) := by decide +kernel
theorem dX10_tell_80 : decode cX10_tell 80 = .ok (.imul, 1) := by decide +kernel
theorem dX10_tell_81 : decode cX10_tell 81 = .ok (.bipush 100, 2) := by decide +kernel
theorem dX10_tell_83 : decode cX10_tell 83 = .ok (.iadd, 1) := by decide +kernel
theorem dX10_tell_84 : decode cX10_tell 84 = .ok (.ireturn, 1) := by decide +kernel
set_option maxRecDepth 20000 in
theorem ggX10_see_X10_noLamp : GoodIn wsX10_see wsX10_noLamp := goodIn_r _ [6, 7, 8, 9, 5, 10, 16, 17, 18, 19, 20, 21, 22, 23, 24, 25, 26, 27, 28, 29, 30, 31, 32, 33, 34, 35, 36, 37, 38, 39, 40, 41, 42, 43, 44, 45, 46, 47, 48, 49, 50, 51] rfl (by decide +kernel)
set_option maxRecDepth 20000 in
theorem gX10_see_X10_noLamp : GoodIn wsX10_see (wsV RX10 172 RX10 yX10_noLamp wsX10_noLamp) := goodIn_app (goodIn_of _ (by decide +kernel)) ggX10_see_X10_noLamp
set_option maxRecDepth 20000 in
theorem ggX10_see_X10_traced : GoodIn wsX10_see wsX10_traced := goodIn_r _ [14, 15, 16, 17, 18, 19, 20, 21, 22, 23, 24, 25, 26, 27, 28, 29, 30, 31, 32, 33, 34, 35, 36, 37, 38, 39, 40, 41, 42, 43, 44, 45, 46, 47, 48, 49, 50, 51] rfl (by decide +kernel)
set_option maxRecDepth 20000 in
theorem gX10_see_X10_traced : GoodIn wsX10_see (wsV RX10 248 RX10 yX10_traced wsX10_traced) := goodIn_app (goodIn_of _ (by decide +kernel)) ggX10_see_X10_traced
theorem dX10_see_0 : decode cX10_see 0 = .ok (.aload_n 0, 1) := by decide +kernel
theorem dX10_see_1 : decode cX10_see 1 = .ok (.iload_n 1, 1) := by decide +kernel
theorem dX10_see_2 : decode cX10_see 2 = .ok (.invokevirtual 172, 3) := by decide +kernel
theorem dX10_see_5 : decode cX10_see 5 = .ok (.ifCond .eq 5, 3) := by decide +kernel
theorem dX10_see_8 : decode cX10_see 8 = .ok (.iconst (-1), 1) := by decide +kernel
theorem dX10_see_9 : decode cX10_see 9 = .ok (.ireturn, 1) := by decide +kernel
theorem dX10_see_10 : decode cX10_see 10 = .ok (.aload_n 0, 1) := by decide +kernel
theorem dX10_see_11 : decode cX10_see 11 = .ok (.aload_n 0, 1) := by decide +kernel
theorem dX10_see_12 : decode cX10_see 12 = .ok (.getfield 16, 3) := by decide +kernel
theorem dX10_see_15 : decode cX10_see 15 = .ok (.iload_n 1, 1) := by decide +kernel
theorem dX10_see_16 : decode cX10_see 16 = .ok (.iaload, 1) := by decide +kernel
theorem dX10_see_17 : decode cX10_see 17 = .ok (.iconst 2, 1) := by decide +kernel
theorem dX10_see_18 : decode cX10_see 18 = .ok (.if_icmp .ne 7, 3) := by decide +kernel
theorem dX10_see_21 : decode cX10_see 21 = .ok (.iconst 5, 1) := by decide +kernel
theorem dX10_see_22 : decode cX10_see 22 = .ok (.goto 4, 3) := by decide +kernel
theorem dX10_see_25 : decode cX10_see 25 = .ok (.iconst 4, 1) := by decide +kernel
theorem dX10_see_26 : decode cX10_see 26 = .ok (.invokevirtual 248, 3) := by decide +kernel
theorem dX10_see_29 : decode cX10_see 29 = .ok (.aload_n 0, 1) := by decide +kernel
theorem dX10_see_30 : decode cX10_see 30 = .ok (.getfield 16, 3) := by decide +kernel
theorem dX10_see_33 : decode cX10_see 33 = .ok (.iload_n 1, 1) := by decide +kernel
theorem dX10_see_34 : decode cX10_see 34 = .ok (.iaload, 1) := by decide +kernel
theorem dX10_see_35 : decode cX10_see 35 = .ok (.iconst 2, 1) := by decide +kernel
theorem dX10_see_36 : decode cX10_see 36 = .ok (.if_icmp .ne 8, 3) := by decide +kernel
theorem dX10_see_39 : decode cX10_see 39 = .ok (.bipush 60, 2) := by decide +kernel
theorem dX10_see_41 : decode cX10_see 41 = .ok (.goto 4, 3) := by decide +kernel
theorem dX10_see_44 : decode cX10_see 44 = .ok (.iload_n 1, 1) := by decide +kernel
theorem dX10_see_45 : decode cX10_see 45 = .ok (.ireturn, 1) := by decide +kernel
set_option maxRecDepth 20000 in
theorem ggX10_as_X10_noLamp : GoodIn wsX10_as wsX10_noLamp := goodIn_r _ [7, 8, 9, 10, 6, 11, 21, 22, 23, 24, 25, 26, 27, 28, 29, 30, 31, 32, 33, 34, 35, 36, 37, 38, 39, 40, 41, 42, 43, 44, 45, 46, 47, 48, 49, 50, 51, 52, 53, 54, 55, 56] rfl (by decide +kernel)
set_option maxRecDepth 20000 in
theorem gX10_as_X10_noLamp : GoodIn wsX10_as (wsV RX10 172 RX10 yX10_noLamp wsX10_noLamp) := goodIn_app (goodIn_of _ (by decide +kernel)) ggX10_as_X10_noLamp
set_option maxRecDepth 20000 in
theorem ggX10_as_X10_refused : GoodIn wsX10_as wsX10_refused := goodIn_r _ [15, 16, 21, 22, 23, 24, 25, 26, 27, 28, 29, 30, 31, 32, 33, 34, 35, 36, 37, 38, 39, 40, 41, 42, 43, 44, 45, 46, 47, 48, 49, 50, 51, 52, 53, 54, 55, 56] rfl (by decide +kernel)
set_option maxRecDepth 20000 in
theorem gX10_as_X10_refused : GoodIn wsX10_as (wsV RX10 146 RX10 yX10_refused wsX10_refused) := goodIn_app (goodIn_of _ (by decide +kernel)) ggX10_as_X10_refused
set_option maxRecDepth 20000 in
theorem ggX10_as_X10_in : GoodIn wsX10_as wsX10_in := goodIn_r _ [11] rfl (by decide +kernel)
set_option maxRecDepth 20000 in
theorem gX10_as_X10_in : GoodIn wsX10_as (va_wsS RX10 101 yX10_in wsX10_in) := goodIn_app (goodIn_of _ (by decide +kernel)) ggX10_as_X10_in
set_option maxRecDepth 20000 in
theorem ggX10_as_X10_failed : GoodIn wsX10_as wsX10_failed := goodIn_r _ [20, 16, 21, 22, 23, 24, 25, 26, 27, 28, 29, 30, 31, 32, 33, 34, 35, 36, 37, 38, 39, 40, 41, 42, 43, 44, 45, 46, 47, 48, 49, 50, 51, 52, 53, 54, 55, 56] rfl (by decide +kernel)
set_option maxRecDepth 20000 in
theorem gX10_as_X10_failed : GoodIn wsX10_as (wsV RX10 134 RX10 yX10_failed wsX10_failed) := goodIn_app (goodIn_of _ (by decide +kernel)) ggX10_as_X10_failed
theorem dX10_as_0 : decode cX10_as 0 = .ok (.aload_n 0, 1) := by decide +kernel
theorem dX10_as_1 : decode cX10_as 1 = .ok (.iload_n 1, 1) := by decide +kernel
theorem dX10_as_2 : decode cX10_as 2 = .ok (.invokevirtual 172, 3) := by decide +kernel
theorem dX10_as_5 : decode cX10_as 5 = .ok (.ifCond .eq 9, 3) := by decide +kernel
theorem dX10_as_8 : decode cX10_as 8 = .ok (.aload_n 0, 1) := by decide +kernel
theorem dX10_as_9 : decode cX10_as 9 = .ok (.iconst (-1), 1) := by decide +kernel
theorem dX10_as_10 : decode cX10_as 10 = .ok (.invokevirtual 146, 3) := by decide +kernel
theorem dX10_as_13 : decode cX10_as 13 = .ok (.ireturn, 1) := by decide +kernel
theorem dX10_as_14 : decode cX10_as 14 = .ok (.iload_n 2, 1) := by decide +kernel
theorem dX10_as_15 : decode cX10_as 15 = .ok (.i2l, 1) := by decide +kernel
theorem dX10_as_16 : decode cX10_as 16 = .ok (.lconst 0, 1) := by decide +kernel
theorem dX10_as_17 : decode cX10_as 17 = .ok (.ldc2_w 149, 3) := by decide +kernel
theorem dX10_as_20 : decode cX10_as 20 = .ok (.invokestatic 101, 3) := by decide +kernel
theorem dX10_as_23 : decode cX10_as 23 = .ok (.ifCond .ne 10, 3) := by decide +kernel
theorem dX10_as_26 : decode cX10_as 26 = .ok (.aload_n 0, 1) := by decide +kernel
theorem dX10_as_27 : decode cX10_as 27 = .ok (.bipush (-2), 2) := by decide +kernel
theorem dX10_as_29 : decode cX10_as 29 = .ok (.invokevirtual 146, 3) := by decide +kernel
theorem dX10_as_32 : decode cX10_as 32 = .ok (.ireturn, 1) := by decide +kernel
theorem dX10_as_33 : decode cX10_as 33 = .ok (.aload_n 0, 1) := by decide +kernel
theorem dX10_as_34 : decode cX10_as 34 = .ok (.getfield 16, 3) := by decide +kernel
theorem dX10_as_37 : decode cX10_as 37 = .ok (.iload_n 1, 1) := by decide +kernel
theorem dX10_as_38 : decode cX10_as 38 = .ok (.iaload, 1) := by decide +kernel
theorem dX10_as_39 : decode cX10_as 39 = .ok (.iload_n 2, 1) := by decide +kernel
theorem dX10_as_40 : decode cX10_as 40 = .ok (.if_icmp .lt 11, 3) := by decide +kernel
theorem dX10_as_43 : decode cX10_as 43 = .ok (.aload_n 0, 1) := by decide +kernel
theorem dX10_as_44 : decode cX10_as 44 = .ok (.iconst 1, 1) := by decide +kernel
theorem dX10_as_45 : decode cX10_as 45 = .ok (.invokevirtual 146, 3) := by decide +kernel
theorem dX10_as_48 : decode cX10_as 48 = .ok (.goto 8, 3) := by decide +kernel
theorem dX10_as_51 : decode cX10_as 51 = .ok (.aload_n 0, 1) := by decide +kernel
theorem dX10_as_52 : decode cX10_as 52 = .ok (.iconst 2, 1) := by decide +kernel
theorem dX10_as_53 : decode cX10_as 53 = .ok (.invokevirtual 134, 3) := by decide +kernel
theorem dX10_as_56 : decode cX10_as 56 = .ok (.ireturn, 1) := by decide +kernel
theorem dX10_trace_0 : decode cX10_trace 0 = .ok (.aload_n 0, 1) := by decide +kernel
theorem dX10_trace_1 : decode cX10_trace 1 = .ok (.getfield 245, 3) := by decide +kernel
theorem dX10_trace_4 : decode cX10_trace 4 = .ok (.ireturn, 1) := by decide +kernel
theorem dX10_fault_0 : decode cX10_fault 0 = .ok (.aload_n 0, 1) := by decide +kernel
theorem dX10_fault_1 : decode cX10_fault 1 = .ok (.getfield 91, 3) := by decide +kernel
theorem dX10_fault_4 : decode cX10_fault 4 = .ok (.ireturn, 1) := by decide +kernel
theorem dX10_many_0 : decode cX10_many 0 = .ok (.iload_n 1, 1) := by decide +kernel
theorem dX10_many_1 : decode cX10_many 1 = .ok (.tableswitch 60 0 4 #[35, 40, 45, 50, 55], 35) := by decide +kernel
theorem dX10_many_36 : decode cX10_many 36 = .ok (.aload_n 0, 1) := by decide +kernel
theorem dX10_many_37 : decode cX10_many 37 = .ok (.getfield 105, 3) := by decide +kernel
theorem dX10_many_40 : decode cX10_many 40 = .ok (.ireturn, 1) := by decide +kernel
theorem dX10_many_41 : decode cX10_many 41 = .ok (.aload_n 0, 1) := by decide +kernel
theorem dX10_many_42 : decode cX10_many 42 = .ok (.getfield 98, 3) := by decide +kernel
theorem dX10_many_45 : decode cX10_many 45 = .ok (.ireturn, 1) := by decide +kernel
theorem dX10_many_46 : decode cX10_many 46 = .ok (.aload_n 0, 1) := by decide +kernel
theorem dX10_many_47 : decode cX10_many 47 = .ok (.getfield 161, 3) := by decide +kernel
theorem dX10_many_50 : decode cX10_many 50 = .ok (.ireturn, 1) := by decide +kernel
theorem dX10_many_51 : decode cX10_many 51 = .ok (.aload_n 0, 1) := by decide +kernel
theorem dX10_many_52 : decode cX10_many 52 = .ok (.getfield 164, 3) := by decide +kernel
theorem dX10_many_55 : decode cX10_many 55 = .ok (.ireturn, 1) := by decide +kernel
theorem dX10_many_56 : decode cX10_many 56 = .ok (.aload_n 0, 1) := by decide +kernel
theorem dX10_many_57 : decode cX10_many 57 = .ok (.getfield 158, 3) := by decide +kernel
theorem dX10_many_60 : decode cX10_many 60 = .ok (.ireturn, 1) := by decide +kernel
theorem dX10_many_61 : decode cX10_many 61 = .ok (.bipush (-2), 2) := by decide +kernel
theorem dX10_many_63 : decode cX10_many 63 = .ok (.ireturn, 1) := by decide +kernel
theorem dJ9_max_7cf53_0 : decode cJ9_max_7cf53 0 = .ok (.iload_n 0, 1) := by decide +kernel
theorem dJ9_max_7cf53_1 : decode cJ9_max_7cf53 1 = .ok (.iload_n 1, 1) := by decide +kernel
theorem dJ9_max_7cf53_2 : decode cJ9_max_7cf53 2 = .ok (.if_icmp .lt 7, 3) := by decide +kernel
theorem dJ9_max_7cf53_5 : decode cJ9_max_7cf53 5 = .ok (.iload_n 0, 1) := by decide +kernel
theorem dJ9_max_7cf53_6 : decode cJ9_max_7cf53 6 = .ok (.goto 4, 3) := by decide +kernel
theorem dJ9_max_7cf53_9 : decode cJ9_max_7cf53 9 = .ok (.iload_n 1, 1) := by decide +kernel
theorem dJ9_max_7cf53_10 : decode cJ9_max_7cf53 10 = .ok (.ireturn, 1) := by decide +kernel
theorem dJ9_min_7cf53_0 : decode cJ9_min_7cf53 0 = .ok (.iload_n 0, 1) := by decide +kernel
theorem dJ9_min_7cf53_1 : decode cJ9_min_7cf53 1 = .ok (.iload_n 1, 1) := by decide +kernel
theorem dJ9_min_7cf53_2 : decode cJ9_min_7cf53 2 = .ok (.if_icmp .gt 7, 3) := by decide +kernel
theorem dJ9_min_7cf53_5 : decode cJ9_min_7cf53 5 = .ok (.iload_n 0, 1) := by decide +kernel
theorem dJ9_min_7cf53_6 : decode cJ9_min_7cf53 6 = .ok (.goto 4, 3) := by decide +kernel
theorem dJ9_min_7cf53_9 : decode cJ9_min_7cf53 9 = .ok (.iload_n 1, 1) := by decide +kernel
theorem dJ9_min_7cf53_10 : decode cJ9_min_7cf53 10 = .ok (.ireturn, 1) := by decide +kernel
