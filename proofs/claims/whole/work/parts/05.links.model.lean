theorem d_D_init_0 : decode c_D_init 0 = .ok (.aload_n 0, 1) := by decide +kernel
theorem d_D_init_1 : decode c_D_init 1 = .ok (.invokespecial 1, 3) := by decide +kernel
theorem d_D_init_4 : decode c_D_init 4 = .ok (.aload_n 0, 1) := by decide +kernel
theorem d_D_init_5 : decode c_D_init 5 = .ok (.iconst 5, 1) := by decide +kernel
theorem d_D_init_6 : decode c_D_init 6 = .ok (.newarray .boolean, 2) := by decide +kernel
theorem d_D_init_8 : decode c_D_init 8 = .ok (.putfield 7, 3) := by decide +kernel
theorem d_D_init_11 : decode c_D_init 11 = .ok (.aload_n 0, 1) := by decide +kernel
theorem d_D_init_12 : decode c_D_init 12 = .ok (.iconst 5, 1) := by decide +kernel
theorem d_D_init_13 : decode c_D_init 13 = .ok (.newarray .int, 2) := by decide +kernel
theorem d_D_init_15 : decode c_D_init 15 = .ok (.putfield 13, 3) := by decide +kernel
theorem d_D_init_18 : decode c_D_init 18 = .ok (.aload_n 0, 1) := by decide +kernel
theorem d_D_init_19 : decode c_D_init 19 = .ok (.iconst 5, 1) := by decide +kernel
theorem d_D_init_20 : decode c_D_init 20 = .ok (.newarray .int, 2) := by decide +kernel
theorem d_D_init_22 : decode c_D_init 22 = .ok (.putfield 17, 3) := by decide +kernel
theorem d_D_init_25 : decode c_D_init 25 = .ok (.aload_n 0, 1) := by decide +kernel
theorem d_D_init_26 : decode c_D_init 26 = .ok (.iconst 5, 1) := by decide +kernel
theorem d_D_init_27 : decode c_D_init 27 = .ok (.newarray .int, 2) := by decide +kernel
theorem d_D_init_29 : decode c_D_init 29 = .ok (.putfield 20, 3) := by decide +kernel
theorem d_D_init_32 : decode c_D_init 32 = .ok (.aload_n 0, 1) := by decide +kernel
theorem d_D_init_33 : decode c_D_init 33 = .ok (.iconst 5, 1) := by decide +kernel
theorem d_D_init_34 : decode c_D_init 34 = .ok (.newarray .int, 2) := by decide +kernel
theorem d_D_init_36 : decode c_D_init 36 = .ok (.putfield 23, 3) := by decide +kernel
theorem d_D_init_39 : decode c_D_init 39 = .ok (.aload_n 0, 1) := by decide +kernel
theorem d_D_init_40 : decode c_D_init 40 = .ok (.iconst 5, 1) := by decide +kernel
theorem d_D_init_41 : decode c_D_init 41 = .ok (.newarray .int, 2) := by decide +kernel
theorem d_D_init_43 : decode c_D_init 43 = .ok (.putfield 26, 3) := by decide +kernel
theorem d_D_init_46 : decode c_D_init 46 = .ok (.aload_n 0, 1) := by decide +kernel
theorem d_D_init_47 : decode c_D_init 47 = .ok (.bipush (20), 2) := by decide +kernel
theorem d_D_init_49 : decode c_D_init 49 = .ok (.newarray .int, 2) := by decide +kernel
theorem d_D_init_51 : decode c_D_init 51 = .ok (.putfield 29, 3) := by decide +kernel
theorem d_D_init_54 : decode c_D_init 54 = .ok (.aload_n 0, 1) := by decide +kernel
theorem d_D_init_55 : decode c_D_init 55 = .ok (.iconst 5, 1) := by decide +kernel
theorem d_D_init_56 : decode c_D_init 56 = .ok (.newarray .int, 2) := by decide +kernel
theorem d_D_init_58 : decode c_D_init 58 = .ok (.putfield 32, 3) := by decide +kernel
theorem d_D_init_61 : decode c_D_init 61 = .ok (.aload_n 0, 1) := by decide +kernel
theorem d_D_init_62 : decode c_D_init 62 = .ok (.sipush (240), 3) := by decide +kernel
theorem d_D_init_65 : decode c_D_init 65 = .ok (.newarray .int, 2) := by decide +kernel
theorem d_D_init_67 : decode c_D_init 67 = .ok (.putfield 35, 3) := by decide +kernel
theorem d_D_init_70 : decode c_D_init 70 = .ok (.aload_n 0, 1) := by decide +kernel
theorem d_D_init_71 : decode c_D_init 71 = .ok (.sipush (240), 3) := by decide +kernel
theorem d_D_init_74 : decode c_D_init 74 = .ok (.newarray .int, 2) := by decide +kernel
theorem d_D_init_76 : decode c_D_init 76 = .ok (.putfield 38, 3) := by decide +kernel
theorem d_D_init_79 : decode c_D_init 79 = .ok (.aload_n 0, 1) := by decide +kernel
theorem d_D_init_80 : decode c_D_init 80 = .ok (.sipush (240), 3) := by decide +kernel
theorem d_D_init_83 : decode c_D_init 83 = .ok (.newarray .int, 2) := by decide +kernel
theorem d_D_init_85 : decode c_D_init 85 = .ok (.putfield 41, 3) := by decide +kernel
theorem d_D_init_88 : decode c_D_init 88 = .ok (.aload_n 0, 1) := by decide +kernel
theorem d_D_init_89 : decode c_D_init 89 = .ok (.sipush (240), 3) := by decide +kernel
theorem d_D_init_92 : decode c_D_init 92 = .ok (.newarray .int, 2) := by decide +kernel
theorem d_D_init_94 : decode c_D_init 94 = .ok (.putfield 44, 3) := by decide +kernel
theorem d_D_init_97 : decode c_D_init 97 = .ok (.aload_n 0, 1) := by decide +kernel
theorem d_D_init_98 : decode c_D_init 98 = .ok (.iconst 5, 1) := by decide +kernel
theorem d_D_init_99 : decode c_D_init 99 = .ok (.newarray .int, 2) := by decide +kernel
theorem d_D_init_101 : decode c_D_init 101 = .ok (.putfield 47, 3) := by decide +kernel
theorem d_D_init_104 : decode c_D_init 104 = .ok (.aload_n 0, 1) := by decide +kernel
theorem d_D_init_105 : decode c_D_init 105 = .ok (.iconst 5, 1) := by decide +kernel
theorem d_D_init_106 : decode c_D_init 106 = .ok (.newarray .int, 2) := by decide +kernel
theorem d_D_init_108 : decode c_D_init 108 = .ok (.putfield 50, 3) := by decide +kernel
theorem d_D_init_111 : decode c_D_init 111 = .ok (.aload_n 0, 1) := by decide +kernel
theorem d_D_init_112 : decode c_D_init 112 = .ok (.iconst 5, 1) := by decide +kernel
theorem d_D_init_113 : decode c_D_init 113 = .ok (.newarray .boolean, 2) := by decide +kernel
theorem d_D_init_115 : decode c_D_init 115 = .ok (.putfield 53, 3) := by decide +kernel
theorem d_D_init_118 : decode c_D_init 118 = .ok (.aload_n 0, 1) := by decide +kernel
theorem d_D_init_119 : decode c_D_init 119 = .ok (.iconst 5, 1) := by decide +kernel
theorem d_D_init_120 : decode c_D_init 120 = .ok (.newarray .int, 2) := by decide +kernel
theorem d_D_init_122 : decode c_D_init 122 = .ok (.putfield 56, 3) := by decide +kernel
theorem d_D_init_125 : decode c_D_init 125 = .ok (.aload_n 0, 1) := by decide +kernel
theorem d_D_init_126 : decode c_D_init 126 = .ok (.bipush (25), 2) := by decide +kernel
theorem d_D_init_128 : decode c_D_init 128 = .ok (.newarray .int, 2) := by decide +kernel
theorem d_D_init_130 : decode c_D_init 130 = .ok (.putfield 59, 3) := by decide +kernel
theorem d_D_init_133 : decode c_D_init 133 = .ok (.aload_n 0, 1) := by decide +kernel
theorem d_D_init_134 : decode c_D_init 134 = .ok (.bipush (25), 2) := by decide +kernel
theorem d_D_init_136 : decode c_D_init 136 = .ok (.newarray .int, 2) := by decide +kernel
theorem d_D_init_138 : decode c_D_init 138 = .ok (.putfield 62, 3) := by decide +kernel
theorem d_D_init_141 : decode c_D_init 141 = .ok (.aload_n 0, 1) := by decide +kernel
theorem d_D_init_142 : decode c_D_init 142 = .ok (.bipush (25), 2) := by decide +kernel
theorem d_D_init_144 : decode c_D_init 144 = .ok (.newarray .int, 2) := by decide +kernel
theorem d_D_init_146 : decode c_D_init 146 = .ok (.putfield 65, 3) := by decide +kernel
theorem d_D_init_149 : decode c_D_init 149 = .ok (.aload_n 0, 1) := by decide +kernel
theorem d_D_init_150 : decode c_D_init 150 = .ok (.iconst 5, 1) := by decide +kernel
theorem d_D_init_151 : decode c_D_init 151 = .ok (.newarray .int, 2) := by decide +kernel
theorem d_D_init_153 : decode c_D_init 153 = .ok (.putfield 68, 3) := by decide +kernel
theorem d_D_init_156 : decode c_D_init 156 = .ok (.aload_n 0, 1) := by decide +kernel
theorem d_D_init_157 : decode c_D_init 157 = .ok (.bipush (60), 2) := by decide +kernel
theorem d_D_init_159 : decode c_D_init 159 = .ok (.newarray .int, 2) := by decide +kernel
theorem d_D_init_161 : decode c_D_init 161 = .ok (.putfield 71, 3) := by decide +kernel
theorem d_D_init_164 : decode c_D_init 164 = .ok (.aload_n 0, 1) := by decide +kernel
theorem d_D_init_165 : decode c_D_init 165 = .ok (.bipush (60), 2) := by decide +kernel
theorem d_D_init_167 : decode c_D_init 167 = .ok (.newarray .int, 2) := by decide +kernel
theorem d_D_init_169 : decode c_D_init 169 = .ok (.putfield 74, 3) := by decide +kernel
theorem d_D_init_172 : decode c_D_init 172 = .ok (.aload_n 0, 1) := by decide +kernel
theorem d_D_init_173 : decode c_D_init 173 = .ok (.bipush (60), 2) := by decide +kernel
theorem d_D_init_175 : decode c_D_init 175 = .ok (.newarray .int, 2) := by decide +kernel
theorem d_D_init_177 : decode c_D_init 177 = .ok (.putfield 77, 3) := by decide +kernel
theorem d_D_init_180 : decode c_D_init 180 = .ok (.aload_n 0, 1) := by decide +kernel
theorem d_D_init_181 : decode c_D_init 181 = .ok (.bipush (60), 2) := by decide +kernel
theorem d_D_init_183 : decode c_D_init 183 = .ok (.newarray .int, 2) := by decide +kernel
theorem d_D_init_185 : decode c_D_init 185 = .ok (.putfield 80, 3) := by decide +kernel
theorem d_D_init_188 : decode c_D_init 188 = .ok (.aload_n 0, 1) := by decide +kernel
theorem d_D_init_189 : decode c_D_init 189 = .ok (.bipush (60), 2) := by decide +kernel
theorem d_D_init_191 : decode c_D_init 191 = .ok (.newarray .int, 2) := by decide +kernel
theorem d_D_init_193 : decode c_D_init 193 = .ok (.putfield 83, 3) := by decide +kernel
theorem d_D_init_196 : decode c_D_init 196 = .ok (.aload_n 0, 1) := by decide +kernel
theorem d_D_init_197 : decode c_D_init 197 = .ok (.sipush (960), 3) := by decide +kernel
theorem d_D_init_200 : decode c_D_init 200 = .ok (.newarray .int, 2) := by decide +kernel
theorem d_D_init_202 : decode c_D_init 202 = .ok (.putfield 86, 3) := by decide +kernel
theorem d_D_init_205 : decode c_D_init 205 = .ok (.aload_n 0, 1) := by decide +kernel
theorem d_D_init_206 : decode c_D_init 206 = .ok (.bipush (20), 2) := by decide +kernel
theorem d_D_init_208 : decode c_D_init 208 = .ok (.newarray .int, 2) := by decide +kernel
theorem d_D_init_210 : decode c_D_init 210 = .ok (.putfield 89, 3) := by decide +kernel
theorem d_D_init_213 : decode c_D_init 213 = .ok (.iconst 0, 1) := by decide +kernel
theorem d_D_init_214 : decode c_D_init 214 = .ok (.istore_n 2, 1) := by decide +kernel
theorem d_D_init_215 : decode c_D_init 215 = .ok (.iload_n 2, 1) := by decide +kernel
theorem d_D_init_216 : decode c_D_init 216 = .ok (.iconst 5, 1) := by decide +kernel
theorem d_D_init_217 : decode c_D_init 217 = .ok (.if_icmp .ge (37), 3) := by decide +kernel
theorem d_D_init_220 : decode c_D_init 220 = .ok (.aload_n 0, 1) := by decide +kernel
theorem d_D_init_221 : decode c_D_init 221 = .ok (.getfield 17, 3) := by decide +kernel
theorem d_D_init_224 : decode c_D_init 224 = .ok (.iload_n 2, 1) := by decide +kernel
theorem d_D_init_225 : decode c_D_init 225 = .ok (.iconst (-1), 1) := by decide +kernel
theorem d_D_init_226 : decode c_D_init 226 = .ok (.iastore, 1) := by decide +kernel
theorem d_D_init_227 : decode c_D_init 227 = .ok (.aload_n 0, 1) := by decide +kernel
theorem d_D_init_228 : decode c_D_init 228 = .ok (.getfield 26, 3) := by decide +kernel
theorem d_D_init_231 : decode c_D_init 231 = .ok (.iload_n 2, 1) := by decide +kernel
theorem d_D_init_232 : decode c_D_init 232 = .ok (.iload_n 1, 1) := by decide +kernel
theorem d_D_init_233 : decode c_D_init 233 = .ok (.bipush (31), 2) := by decide +kernel
theorem d_D_init_235 : decode c_D_init 235 = .ok (.iand, 1) := by decide +kernel
theorem d_D_init_236 : decode c_D_init 236 = .ok (.ifCond .ne (7), 3) := by decide +kernel
theorem d_D_init_239 : decode c_D_init 239 = .ok (.iconst 1, 1) := by decide +kernel
theorem d_D_init_240 : decode c_D_init 240 = .ok (.goto (7), 3) := by decide +kernel
theorem d_D_init_243 : decode c_D_init 243 = .ok (.iload_n 1, 1) := by decide +kernel
theorem d_D_init_244 : decode c_D_init 244 = .ok (.bipush (31), 2) := by decide +kernel
theorem d_D_init_246 : decode c_D_init 246 = .ok (.iand, 1) := by decide +kernel
theorem d_D_init_247 : decode c_D_init 247 = .ok (.iastore, 1) := by decide +kernel
theorem d_D_init_248 : decode c_D_init 248 = .ok (.iinc 2 (1), 3) := by decide +kernel
theorem d_D_init_251 : decode c_D_init 251 = .ok (.goto (-36), 3) := by decide +kernel
theorem d_D_init_254 : decode c_D_init 254 = .ok (.return_, 1) := by decide +kernel
theorem d_D_thrown_0 : decode c_D_thrown 0 = .ok (.aload_n 0, 1) := by decide +kernel
theorem d_D_thrown_1 : decode c_D_thrown 1 = .ok (.getfield 92, 3) := by decide +kernel
theorem d_D_thrown_4 : decode c_D_thrown 4 = .ok (.ireturn, 1) := by decide +kernel
theorem d_D_timer_0 : decode c_D_timer 0 = .ok (.aload_n 0, 1) := by decide +kernel
theorem d_D_timer_1 : decode c_D_timer 1 = .ok (.iconst 0, 1) := by decide +kernel
theorem d_D_timer_2 : decode c_D_timer 2 = .ok (.putfield 92, 3) := by decide +kernel
theorem d_D_timer_5 : decode c_D_timer 5 = .ok (.iload_n 1, 1) := by decide +kernel
theorem d_D_timer_6 : decode c_D_timer 6 = .ok (.invokestatic 143, 3) := by decide +kernel
theorem d_D_timer_9 : decode c_D_timer 9 = .ok (.ifCond .eq (41), 3) := by decide +kernel
theorem d_D_timer_12 : decode c_D_timer 12 = .ok (.aload_n 0, 1) := by decide +kernel
theorem d_D_timer_13 : decode c_D_timer 13 = .ok (.getfield 7, 3) := by decide +kernel
theorem d_D_timer_16 : decode c_D_timer 16 = .ok (.iload_n 1, 1) := by decide +kernel
theorem d_D_timer_17 : decode c_D_timer 17 = .ok (.baload, 1) := by decide +kernel
theorem d_D_timer_18 : decode c_D_timer 18 = .ok (.ifCond .ne (32), 3) := by decide +kernel
theorem d_D_timer_21 : decode c_D_timer 21 = .ok (.aload_n 0, 1) := by decide +kernel
theorem d_D_timer_22 : decode c_D_timer 22 = .ok (.getfield 47, 3) := by decide +kernel
theorem d_D_timer_25 : decode c_D_timer 25 = .ok (.iload_n 1, 1) := by decide +kernel
theorem d_D_timer_26 : decode c_D_timer 26 = .ok (.iaload, 1) := by decide +kernel
theorem d_D_timer_27 : decode c_D_timer 27 = .ok (.iconst 3, 1) := by decide +kernel
theorem d_D_timer_28 : decode c_D_timer 28 = .ok (.if_icmp .eq (22), 3) := by decide +kernel
theorem d_D_timer_31 : decode c_D_timer 31 = .ok (.aload_n 0, 1) := by decide +kernel
theorem d_D_timer_32 : decode c_D_timer 32 = .ok (.iload_n 1, 1) := by decide +kernel
theorem d_D_timer_33 : decode c_D_timer 33 = .ok (.invokevirtual 147, 3) := by decide +kernel
theorem d_D_timer_36 : decode c_D_timer 36 = .ok (.ifCond .eq (14), 3) := by decide +kernel
theorem d_D_timer_39 : decode c_D_timer 39 = .ok (.aload_n 0, 1) := by decide +kernel
theorem d_D_timer_40 : decode c_D_timer 40 = .ok (.getfield 32, 3) := by decide +kernel
theorem d_D_timer_43 : decode c_D_timer 43 = .ok (.iload_n 1, 1) := by decide +kernel
theorem d_D_timer_44 : decode c_D_timer 44 = .ok (.iaload, 1) := by decide +kernel
theorem d_D_timer_45 : decode c_D_timer 45 = .ok (.bipush (40), 2) := by decide +kernel
theorem d_D_timer_47 : decode c_D_timer 47 = .ok (.if_icmp .lt (5), 3) := by decide +kernel
theorem d_D_timer_50 : decode c_D_timer 50 = .ok (.iconst 0, 1) := by decide +kernel
theorem d_D_timer_51 : decode c_D_timer 51 = .ok (.ireturn, 1) := by decide +kernel
theorem d_D_timer_52 : decode c_D_timer 52 = .ok (.aload_n 0, 1) := by decide +kernel
theorem d_D_timer_53 : decode c_D_timer 53 = .ok (.getfield 53, 3) := by decide +kernel
theorem d_D_timer_56 : decode c_D_timer 56 = .ok (.iload_n 1, 1) := by decide +kernel
theorem d_D_timer_57 : decode c_D_timer 57 = .ok (.iconst 0, 1) := by decide +kernel
theorem d_D_timer_58 : decode c_D_timer 58 = .ok (.bastore, 1) := by decide +kernel
theorem d_D_timer_59 : decode c_D_timer 59 = .ok (.aload_n 0, 1) := by decide +kernel
theorem d_D_timer_60 : decode c_D_timer 60 = .ok (.getfield 47, 3) := by decide +kernel
theorem d_D_timer_63 : decode c_D_timer 63 = .ok (.iload_n 1, 1) := by decide +kernel
theorem d_D_timer_64 : decode c_D_timer 64 = .ok (.iconst 1, 1) := by decide +kernel
theorem d_D_timer_65 : decode c_D_timer 65 = .ok (.iastore, 1) := by decide +kernel
theorem d_D_timer_66 : decode c_D_timer 66 = .ok (.aload_n 0, 1) := by decide +kernel
theorem d_D_timer_67 : decode c_D_timer 67 = .ok (.getfield 56, 3) := by decide +kernel
theorem d_D_timer_70 : decode c_D_timer 70 = .ok (.iload_n 1, 1) := by decide +kernel
theorem d_D_timer_71 : decode c_D_timer 71 = .ok (.iconst 1, 1) := by decide +kernel
theorem d_D_timer_72 : decode c_D_timer 72 = .ok (.iload_n 1, 1) := by decide +kernel
theorem d_D_timer_73 : decode c_D_timer 73 = .ok (.ishl, 1) := by decide +kernel
theorem d_D_timer_74 : decode c_D_timer 74 = .ok (.iastore, 1) := by decide +kernel
theorem d_D_timer_75 : decode c_D_timer 75 = .ok (.aload_n 0, 1) := by decide +kernel
theorem d_D_timer_76 : decode c_D_timer 76 = .ok (.iload_n 1, 1) := by decide +kernel
theorem d_D_timer_77 : decode c_D_timer 77 = .ok (.iconst 0, 1) := by decide +kernel
theorem d_D_timer_78 : decode c_D_timer 78 = .ok (.aload_n 0, 1) := by decide +kernel
theorem d_D_timer_79 : decode c_D_timer 79 = .ok (.getfield 13, 3) := by decide +kernel
theorem d_D_timer_82 : decode c_D_timer 82 = .ok (.iload_n 1, 1) := by decide +kernel
theorem d_D_timer_83 : decode c_D_timer 83 = .ok (.iaload, 1) := by decide +kernel
theorem d_D_timer_84 : decode c_D_timer 84 = .ok (.iconst 1, 1) := by decide +kernel
theorem d_D_timer_85 : decode c_D_timer 85 = .ok (.iadd, 1) := by decide +kernel
theorem d_D_timer_86 : decode c_D_timer 86 = .ok (.invokevirtual 150, 3) := by decide +kernel
theorem d_D_timer_89 : decode c_D_timer 89 = .ok (.aload_n 0, 1) := by decide +kernel
theorem d_D_timer_90 : decode c_D_timer 90 = .ok (.iload_n 1, 1) := by decide +kernel
theorem d_D_timer_91 : decode c_D_timer 91 = .ok (.invokevirtual 154, 3) := by decide +kernel
theorem d_D_timer_94 : decode c_D_timer 94 = .ok (.iconst 1, 1) := by decide +kernel
theorem d_D_timer_95 : decode c_D_timer 95 = .ok (.ireturn, 1) := by decide +kernel
theorem d_D_isServer_0 : decode c_D_isServer 0 = .ok (.iload_n 0, 1) := by decide +kernel
theorem d_D_isServer_1 : decode c_D_isServer 1 = .ok (.ifCond .lt (12), 3) := by decide +kernel
theorem d_D_isServer_4 : decode c_D_isServer 4 = .ok (.iload_n 0, 1) := by decide +kernel
theorem d_D_isServer_5 : decode c_D_isServer 5 = .ok (.iconst 5, 1) := by decide +kernel
theorem d_D_isServer_6 : decode c_D_isServer 6 = .ok (.if_icmp .ge (7), 3) := by decide +kernel
theorem d_D_isServer_9 : decode c_D_isServer 9 = .ok (.iconst 1, 1) := by decide +kernel
theorem d_D_isServer_10 : decode c_D_isServer 10 = .ok (.goto (4), 3) := by decide +kernel
theorem d_D_isServer_13 : decode c_D_isServer 13 = .ok (.iconst 0, 1) := by decide +kernel
theorem d_D_isServer_14 : decode c_D_isServer 14 = .ok (.ireturn, 1) := by decide +kernel
theorem d_D_isMine_0 : decode c_D_isMine 0 = .ok (.aload_n 0, 1) := by decide +kernel
theorem d_D_isMine_1 : decode c_D_isMine 1 = .ok (.iload_n 1, 1) := by decide +kernel
theorem d_D_isMine_2 : decode c_D_isMine 2 = .ok (.invokevirtual 113, 3) := by decide +kernel
theorem d_D_isMine_5 : decode c_D_isMine 5 = .ok (.iload_n 1, 1) := by decide +kernel
theorem d_D_isMine_6 : decode c_D_isMine 6 = .ok (.ishr, 1) := by decide +kernel
theorem d_D_isMine_7 : decode c_D_isMine 7 = .ok (.iconst 1, 1) := by decide +kernel
theorem d_D_isMine_8 : decode c_D_isMine 8 = .ok (.iand, 1) := by decide +kernel
theorem d_D_isMine_9 : decode c_D_isMine 9 = .ok (.iconst 1, 1) := by decide +kernel
theorem d_D_isMine_10 : decode c_D_isMine 10 = .ok (.if_icmp .ne (7), 3) := by decide +kernel
theorem d_D_isMine_13 : decode c_D_isMine 13 = .ok (.iconst 1, 1) := by decide +kernel
theorem d_D_isMine_14 : decode c_D_isMine 14 = .ok (.goto (4), 3) := by decide +kernel
theorem d_D_isMine_17 : decode c_D_isMine 17 = .ok (.iconst 0, 1) := by decide +kernel
theorem d_D_isMine_18 : decode c_D_isMine 18 = .ok (.ireturn, 1) := by decide +kernel
theorem d_D_config_0 : decode c_D_config 0 = .ok (.aload_n 0, 1) := by decide +kernel
theorem d_D_config_1 : decode c_D_config 1 = .ok (.iload_n 1, 1) := by decide +kernel
theorem d_D_config_2 : decode c_D_config 2 = .ok (.aload_n 0, 1) := by decide +kernel
theorem d_D_config_3 : decode c_D_config 3 = .ok (.iload_n 1, 1) := by decide +kernel
theorem d_D_config_4 : decode c_D_config 4 = .ok (.invokevirtual 96, 3) := by decide +kernel
theorem d_D_config_7 : decode c_D_config 7 = .ok (.invokevirtual 110, 3) := by decide +kernel
theorem d_D_config_10 : decode c_D_config 10 = .ok (.ireturn, 1) := by decide +kernel
theorem d_D_last_0 : decode c_D_last 0 = .ok (.aload_n 0, 1) := by decide +kernel
theorem d_D_last_1 : decode c_D_last 1 = .ok (.getfield 20, 3) := by decide +kernel
theorem d_D_last_4 : decode c_D_last 4 = .ok (.iload_n 1, 1) := by decide +kernel
theorem d_D_last_5 : decode c_D_last 5 = .ok (.iaload, 1) := by decide +kernel
theorem d_D_last_6 : decode c_D_last 6 = .ok (.aload_n 0, 1) := by decide +kernel
theorem d_D_last_7 : decode c_D_last 7 = .ok (.getfield 32, 3) := by decide +kernel
theorem d_D_last_10 : decode c_D_last 10 = .ok (.iload_n 1, 1) := by decide +kernel
theorem d_D_last_11 : decode c_D_last 11 = .ok (.iaload, 1) := by decide +kernel
theorem d_D_last_12 : decode c_D_last 12 = .ok (.iadd, 1) := by decide +kernel
theorem d_D_last_13 : decode c_D_last 13 = .ok (.ireturn, 1) := by decide +kernel
theorem d_D_membersAt_0 : decode c_D_membersAt 0 = .ok (.aload_n 0, 1) := by decide +kernel
theorem d_D_membersAt_1 : decode c_D_membersAt 1 = .ok (.iload_n 1, 1) := by decide +kernel
theorem d_D_membersAt_2 : decode c_D_membersAt 2 = .ok (.iload_n 2, 1) := by decide +kernel
theorem d_D_membersAt_3 : decode c_D_membersAt 3 = .ok (.invokevirtual 107, 3) := by decide +kernel
theorem d_D_membersAt_6 : decode c_D_membersAt 6 = .ok (.istore_n 3, 1) := by decide +kernel
theorem d_D_membersAt_7 : decode c_D_membersAt 7 = .ok (.iload_n 3, 1) := by decide +kernel
theorem d_D_membersAt_8 : decode c_D_membersAt 8 = .ok (.ifCond .ne (12), 3) := by decide +kernel
theorem d_D_membersAt_11 : decode c_D_membersAt 11 = .ok (.aload_n 0, 1) := by decide +kernel
theorem d_D_membersAt_12 : decode c_D_membersAt 12 = .ok (.getfield 26, 3) := by decide +kernel
theorem d_D_membersAt_15 : decode c_D_membersAt 15 = .ok (.iload_n 1, 1) := by decide +kernel
theorem d_D_membersAt_16 : decode c_D_membersAt 16 = .ok (.iaload, 1) := by decide +kernel
theorem d_D_membersAt_17 : decode c_D_membersAt 17 = .ok (.goto (14), 3) := by decide +kernel
theorem d_D_membersAt_20 : decode c_D_membersAt 20 = .ok (.aload_n 0, 1) := by decide +kernel
theorem d_D_membersAt_21 : decode c_D_membersAt 21 = .ok (.getfield 41, 3) := by decide +kernel
theorem d_D_membersAt_24 : decode c_D_membersAt 24 = .ok (.aload_n 0, 1) := by decide +kernel
theorem d_D_membersAt_25 : decode c_D_membersAt 25 = .ok (.iload_n 1, 1) := by decide +kernel
theorem d_D_membersAt_26 : decode c_D_membersAt 26 = .ok (.iload_n 3, 1) := by decide +kernel
theorem d_D_membersAt_27 : decode c_D_membersAt 27 = .ok (.invokevirtual 100, 3) := by decide +kernel
theorem d_D_membersAt_30 : decode c_D_membersAt 30 = .ok (.iaload, 1) := by decide +kernel
theorem d_D_membersAt_31 : decode c_D_membersAt 31 = .ok (.ireturn, 1) := by decide +kernel
theorem d_D_latestMembers_0 : decode c_D_latestMembers 0 = .ok (.iconst 0, 1) := by decide +kernel
theorem d_D_latestMembers_1 : decode c_D_latestMembers 1 = .ok (.istore_n 3, 1) := by decide +kernel
theorem d_D_latestMembers_2 : decode c_D_latestMembers 2 = .ok (.aload_n 0, 1) := by decide +kernel
theorem d_D_latestMembers_3 : decode c_D_latestMembers 3 = .ok (.getfield 20, 3) := by decide +kernel
theorem d_D_latestMembers_6 : decode c_D_latestMembers 6 = .ok (.iload_n 1, 1) := by decide +kernel
theorem d_D_latestMembers_7 : decode c_D_latestMembers 7 = .ok (.iaload, 1) := by decide +kernel
theorem d_D_latestMembers_8 : decode c_D_latestMembers 8 = .ok (.iconst 1, 1) := by decide +kernel
theorem d_D_latestMembers_9 : decode c_D_latestMembers 9 = .ok (.iadd, 1) := by decide +kernel
theorem d_D_latestMembers_10 : decode c_D_latestMembers 10 = .ok (.istore 4, 2) := by decide +kernel
theorem d_D_latestMembers_12 : decode c_D_latestMembers 12 = .ok (.iload 4, 2) := by decide +kernel
theorem d_D_latestMembers_14 : decode c_D_latestMembers 14 = .ok (.iload_n 2, 1) := by decide +kernel
theorem d_D_latestMembers_15 : decode c_D_latestMembers 15 = .ok (.if_icmp .gt (28), 3) := by decide +kernel
theorem d_D_latestMembers_18 : decode c_D_latestMembers 18 = .ok (.aload_n 0, 1) := by decide +kernel
theorem d_D_latestMembers_19 : decode c_D_latestMembers 19 = .ok (.getfield 38, 3) := by decide +kernel
theorem d_D_latestMembers_22 : decode c_D_latestMembers 22 = .ok (.aload_n 0, 1) := by decide +kernel
theorem d_D_latestMembers_23 : decode c_D_latestMembers 23 = .ok (.iload_n 1, 1) := by decide +kernel
theorem d_D_latestMembers_24 : decode c_D_latestMembers 24 = .ok (.iload 4, 2) := by decide +kernel
theorem d_D_latestMembers_26 : decode c_D_latestMembers 26 = .ok (.invokevirtual 100, 3) := by decide +kernel
theorem d_D_latestMembers_29 : decode c_D_latestMembers 29 = .ok (.iaload, 1) := by decide +kernel
theorem d_D_latestMembers_30 : decode c_D_latestMembers 30 = .ok (.iconst 2, 1) := by decide +kernel
theorem d_D_latestMembers_31 : decode c_D_latestMembers 31 = .ok (.if_icmp .ne (6), 3) := by decide +kernel
theorem d_D_latestMembers_34 : decode c_D_latestMembers 34 = .ok (.iload 4, 2) := by decide +kernel
theorem d_D_latestMembers_36 : decode c_D_latestMembers 36 = .ok (.istore_n 3, 1) := by decide +kernel
theorem d_D_latestMembers_37 : decode c_D_latestMembers 37 = .ok (.iinc 4 (1), 3) := by decide +kernel
theorem d_D_latestMembers_40 : decode c_D_latestMembers 40 = .ok (.goto (-28), 3) := by decide +kernel
theorem d_D_latestMembers_43 : decode c_D_latestMembers 43 = .ok (.iload_n 3, 1) := by decide +kernel
theorem d_D_latestMembers_44 : decode c_D_latestMembers 44 = .ok (.ireturn, 1) := by decide +kernel
theorem d_D_cell_0 : decode c_D_cell 0 = .ok (.iload_n 2, 1) := by decide +kernel
theorem d_D_cell_1 : decode c_D_cell 1 = .ok (.aload_n 0, 1) := by decide +kernel
theorem d_D_cell_2 : decode c_D_cell 2 = .ok (.getfield 20, 3) := by decide +kernel
theorem d_D_cell_5 : decode c_D_cell 5 = .ok (.iload_n 1, 1) := by decide +kernel
theorem d_D_cell_6 : decode c_D_cell 6 = .ok (.iaload, 1) := by decide +kernel
theorem d_D_cell_7 : decode c_D_cell 7 = .ok (.if_icmp .le (30), 3) := by decide +kernel
theorem d_D_cell_10 : decode c_D_cell 10 = .ok (.iload_n 2, 1) := by decide +kernel
theorem d_D_cell_11 : decode c_D_cell 11 = .ok (.aload_n 0, 1) := by decide +kernel
theorem d_D_cell_12 : decode c_D_cell 12 = .ok (.iload_n 1, 1) := by decide +kernel
theorem d_D_cell_13 : decode c_D_cell 13 = .ok (.invokevirtual 96, 3) := by decide +kernel
theorem d_D_cell_16 : decode c_D_cell 16 = .ok (.if_icmp .gt (21), 3) := by decide +kernel
theorem d_D_cell_19 : decode c_D_cell 19 = .ok (.bipush (48), 2) := by decide +kernel
theorem d_D_cell_21 : decode c_D_cell 21 = .ok (.iload_n 1, 1) := by decide +kernel
theorem d_D_cell_22 : decode c_D_cell 22 = .ok (.imul, 1) := by decide +kernel
theorem d_D_cell_23 : decode c_D_cell 23 = .ok (.iload_n 2, 1) := by decide +kernel
theorem d_D_cell_24 : decode c_D_cell 24 = .ok (.iadd, 1) := by decide +kernel
theorem d_D_cell_25 : decode c_D_cell 25 = .ok (.aload_n 0, 1) := by decide +kernel
theorem d_D_cell_26 : decode c_D_cell 26 = .ok (.getfield 20, 3) := by decide +kernel
theorem d_D_cell_29 : decode c_D_cell 29 = .ok (.iload_n 1, 1) := by decide +kernel
theorem d_D_cell_30 : decode c_D_cell 30 = .ok (.iaload, 1) := by decide +kernel
theorem d_D_cell_31 : decode c_D_cell 31 = .ok (.isub, 1) := by decide +kernel
theorem d_D_cell_32 : decode c_D_cell 32 = .ok (.iconst 1, 1) := by decide +kernel
theorem d_D_cell_33 : decode c_D_cell 33 = .ok (.isub, 1) := by decide +kernel
theorem d_D_cell_34 : decode c_D_cell 34 = .ok (.goto (4), 3) := by decide +kernel
theorem d_D_cell_37 : decode c_D_cell 37 = .ok (.iconst (-1), 1) := by decide +kernel
theorem d_D_cell_38 : decode c_D_cell 38 = .ok (.ireturn, 1) := by decide +kernel
theorem d_D_askAll_0 : decode c_D_askAll 0 = .ok (.aload_n 0, 1) := by decide +kernel
theorem d_D_askAll_1 : decode c_D_askAll 1 = .ok (.iload_n 1, 1) := by decide +kernel
theorem d_D_askAll_2 : decode c_D_askAll 2 = .ok (.invokevirtual 113, 3) := by decide +kernel
theorem d_D_askAll_5 : decode c_D_askAll 5 = .ok (.istore 4, 2) := by decide +kernel
theorem d_D_askAll_7 : decode c_D_askAll 7 = .ok (.iconst 0, 1) := by decide +kernel
theorem d_D_askAll_8 : decode c_D_askAll 8 = .ok (.istore 5, 2) := by decide +kernel
theorem d_D_askAll_10 : decode c_D_askAll 10 = .ok (.iload 5, 2) := by decide +kernel
theorem d_D_askAll_12 : decode c_D_askAll 12 = .ok (.iconst 5, 1) := by decide +kernel
theorem d_D_askAll_13 : decode c_D_askAll 13 = .ok (.if_icmp .ge (63), 3) := by decide +kernel
theorem d_D_askAll_16 : decode c_D_askAll 16 = .ok (.iload 5, 2) := by decide +kernel
theorem d_D_askAll_18 : decode c_D_askAll 18 = .ok (.iload_n 1, 1) := by decide +kernel
theorem d_D_askAll_19 : decode c_D_askAll 19 = .ok (.if_icmp .eq (51), 3) := by decide +kernel
theorem d_D_askAll_22 : decode c_D_askAll 22 = .ok (.iload 4, 2) := by decide +kernel
theorem d_D_askAll_24 : decode c_D_askAll 24 = .ok (.iload 5, 2) := by decide +kernel
theorem d_D_askAll_26 : decode c_D_askAll 26 = .ok (.ishr, 1) := by decide +kernel
theorem d_D_askAll_27 : decode c_D_askAll 27 = .ok (.iconst 1, 1) := by decide +kernel
theorem d_D_askAll_28 : decode c_D_askAll 28 = .ok (.iand, 1) := by decide +kernel
theorem d_D_askAll_29 : decode c_D_askAll 29 = .ok (.ifCond .ne (6), 3) := by decide +kernel
theorem d_D_askAll_32 : decode c_D_askAll 32 = .ok (.goto (38), 3) := by decide +kernel
theorem d_D_askAll_35 : decode c_D_askAll 35 = .ok (.aload_n 0, 1) := by decide +kernel
theorem d_D_askAll_36 : decode c_D_askAll 36 = .ok (.iload_n 2, 1) := by decide +kernel
theorem d_D_askAll_37 : decode c_D_askAll 37 = .ok (.iload_n 1, 1) := by decide +kernel
theorem d_D_askAll_38 : decode c_D_askAll 38 = .ok (.iload 5, 2) := by decide +kernel
theorem d_D_askAll_40 : decode c_D_askAll 40 = .ok (.iload_n 3, 1) := by decide +kernel
theorem d_D_askAll_41 : decode c_D_askAll 41 = .ok (.invokevirtual 122, 3) := by decide +kernel
theorem d_D_askAll_44 : decode c_D_askAll 44 = .ok (.aload_n 0, 1) := by decide +kernel
theorem d_D_askAll_45 : decode c_D_askAll 45 = .ok (.getfield 89, 3) := by decide +kernel
theorem d_D_askAll_48 : decode c_D_askAll 48 = .ok (.iconst 4, 1) := by decide +kernel
theorem d_D_askAll_49 : decode c_D_askAll 49 = .ok (.aload_n 0, 1) := by decide +kernel
theorem d_D_askAll_50 : decode c_D_askAll 50 = .ok (.iload_n 1, 1) := by decide +kernel
theorem d_D_askAll_51 : decode c_D_askAll 51 = .ok (.invokevirtual 96, 3) := by decide +kernel
theorem d_D_askAll_54 : decode c_D_askAll 54 = .ok (.iastore, 1) := by decide +kernel
theorem d_D_askAll_55 : decode c_D_askAll 55 = .ok (.aload_n 0, 1) := by decide +kernel
theorem d_D_askAll_56 : decode c_D_askAll 56 = .ok (.getfield 89, 3) := by decide +kernel
theorem d_D_askAll_59 : decode c_D_askAll 59 = .ok (.iconst 5, 1) := by decide +kernel
theorem d_D_askAll_60 : decode c_D_askAll 60 = .ok (.aload_n 0, 1) := by decide +kernel
theorem d_D_askAll_61 : decode c_D_askAll 61 = .ok (.iload_n 1, 1) := by decide +kernel
theorem d_D_askAll_62 : decode c_D_askAll 62 = .ok (.invokevirtual 126, 3) := by decide +kernel
theorem d_D_askAll_65 : decode c_D_askAll 65 = .ok (.iastore, 1) := by decide +kernel
theorem d_D_askAll_66 : decode c_D_askAll 66 = .ok (.aload_n 0, 1) := by decide +kernel
theorem d_D_askAll_67 : decode c_D_askAll 67 = .ok (.invokevirtual 129, 3) := by decide +kernel
theorem d_D_askAll_70 : decode c_D_askAll 70 = .ok (.iinc 5 (1), 3) := by decide +kernel
theorem d_D_askAll_73 : decode c_D_askAll 73 = .ok (.goto (-63), 3) := by decide +kernel
theorem d_D_askAll_76 : decode c_D_askAll 76 = .ok (.return_, 1) := by decide +kernel
theorem d_D_begin_0 : decode c_D_begin 0 = .ok (.iconst 0, 1) := by decide +kernel
theorem d_D_begin_1 : decode c_D_begin 1 = .ok (.istore 5, 2) := by decide +kernel
theorem d_D_begin_3 : decode c_D_begin 3 = .ok (.iload 5, 2) := by decide +kernel
theorem d_D_begin_5 : decode c_D_begin 5 = .ok (.bipush (20), 2) := by decide +kernel
theorem d_D_begin_7 : decode c_D_begin 7 = .ok (.if_icmp .ge (17), 3) := by decide +kernel
theorem d_D_begin_10 : decode c_D_begin 10 = .ok (.aload_n 0, 1) := by decide +kernel
theorem d_D_begin_11 : decode c_D_begin 11 = .ok (.getfield 89, 3) := by decide +kernel
theorem d_D_begin_14 : decode c_D_begin 14 = .ok (.iload 5, 2) := by decide +kernel
theorem d_D_begin_16 : decode c_D_begin 16 = .ok (.iconst 0, 1) := by decide +kernel
theorem d_D_begin_17 : decode c_D_begin 17 = .ok (.iastore, 1) := by decide +kernel
theorem d_D_begin_18 : decode c_D_begin 18 = .ok (.iinc 5 (1), 3) := by decide +kernel
theorem d_D_begin_21 : decode c_D_begin 21 = .ok (.goto (-18), 3) := by decide +kernel
theorem d_D_begin_24 : decode c_D_begin 24 = .ok (.aload_n 0, 1) := by decide +kernel
theorem d_D_begin_25 : decode c_D_begin 25 = .ok (.getfield 89, 3) := by decide +kernel
theorem d_D_begin_28 : decode c_D_begin 28 = .ok (.iconst 0, 1) := by decide +kernel
theorem d_D_begin_29 : decode c_D_begin 29 = .ok (.iload_n 1, 1) := by decide +kernel
theorem d_D_begin_30 : decode c_D_begin 30 = .ok (.iastore, 1) := by decide +kernel
theorem d_D_begin_31 : decode c_D_begin 31 = .ok (.aload_n 0, 1) := by decide +kernel
theorem d_D_begin_32 : decode c_D_begin 32 = .ok (.getfield 89, 3) := by decide +kernel
theorem d_D_begin_35 : decode c_D_begin 35 = .ok (.iconst 1, 1) := by decide +kernel
theorem d_D_begin_36 : decode c_D_begin 36 = .ok (.iload_n 2, 1) := by decide +kernel
theorem d_D_begin_37 : decode c_D_begin 37 = .ok (.iastore, 1) := by decide +kernel
theorem d_D_begin_38 : decode c_D_begin 38 = .ok (.aload_n 0, 1) := by decide +kernel
theorem d_D_begin_39 : decode c_D_begin 39 = .ok (.getfield 89, 3) := by decide +kernel
theorem d_D_begin_42 : decode c_D_begin 42 = .ok (.iconst 2, 1) := by decide +kernel
theorem d_D_begin_43 : decode c_D_begin 43 = .ok (.iload_n 3, 1) := by decide +kernel
theorem d_D_begin_44 : decode c_D_begin 44 = .ok (.iastore, 1) := by decide +kernel
theorem d_D_begin_45 : decode c_D_begin 45 = .ok (.aload_n 0, 1) := by decide +kernel
theorem d_D_begin_46 : decode c_D_begin 46 = .ok (.getfield 89, 3) := by decide +kernel
theorem d_D_begin_49 : decode c_D_begin 49 = .ok (.iconst 3, 1) := by decide +kernel
theorem d_D_begin_50 : decode c_D_begin 50 = .ok (.iload 4, 2) := by decide +kernel
theorem d_D_begin_52 : decode c_D_begin 52 = .ok (.iastore, 1) := by decide +kernel
theorem d_D_begin_53 : decode c_D_begin 53 = .ok (.return_, 1) := by decide +kernel
theorem d_D_lastTerm_0 : decode c_D_lastTerm 0 = .ok (.aload_n 0, 1) := by decide +kernel
theorem d_D_lastTerm_1 : decode c_D_lastTerm 1 = .ok (.iload_n 1, 1) := by decide +kernel
theorem d_D_lastTerm_2 : decode c_D_lastTerm 2 = .ok (.aload_n 0, 1) := by decide +kernel
theorem d_D_lastTerm_3 : decode c_D_lastTerm 3 = .ok (.iload_n 1, 1) := by decide +kernel
theorem d_D_lastTerm_4 : decode c_D_lastTerm 4 = .ok (.invokevirtual 96, 3) := by decide +kernel
theorem d_D_lastTerm_7 : decode c_D_lastTerm 7 = .ok (.invokevirtual 104, 3) := by decide +kernel
theorem d_D_lastTerm_10 : decode c_D_lastTerm 10 = .ok (.ireturn, 1) := by decide +kernel
theorem d_D_termAt_0 : decode c_D_termAt 0 = .ok (.iload_n 2, 1) := by decide +kernel
theorem d_D_termAt_1 : decode c_D_termAt 1 = .ok (.aload_n 0, 1) := by decide +kernel
theorem d_D_termAt_2 : decode c_D_termAt 2 = .ok (.getfield 20, 3) := by decide +kernel
theorem d_D_termAt_5 : decode c_D_termAt 5 = .ok (.iload_n 1, 1) := by decide +kernel
theorem d_D_termAt_6 : decode c_D_termAt 6 = .ok (.iaload, 1) := by decide +kernel
theorem d_D_termAt_7 : decode c_D_termAt 7 = .ok (.if_icmp .ne (10), 3) := by decide +kernel
theorem d_D_termAt_10 : decode c_D_termAt 10 = .ok (.aload_n 0, 1) := by decide +kernel
theorem d_D_termAt_11 : decode c_D_termAt 11 = .ok (.getfield 23, 3) := by decide +kernel
theorem d_D_termAt_14 : decode c_D_termAt 14 = .ok (.iload_n 1, 1) := by decide +kernel
theorem d_D_termAt_15 : decode c_D_termAt 15 = .ok (.iaload, 1) := by decide +kernel
theorem d_D_termAt_16 : decode c_D_termAt 16 = .ok (.ireturn, 1) := by decide +kernel
theorem d_D_termAt_17 : decode c_D_termAt 17 = .ok (.aload_n 0, 1) := by decide +kernel
theorem d_D_termAt_18 : decode c_D_termAt 18 = .ok (.iload_n 1, 1) := by decide +kernel
theorem d_D_termAt_19 : decode c_D_termAt 19 = .ok (.iload_n 2, 1) := by decide +kernel
theorem d_D_termAt_20 : decode c_D_termAt 20 = .ok (.invokevirtual 100, 3) := by decide +kernel
theorem d_D_termAt_23 : decode c_D_termAt 23 = .ok (.istore_n 3, 1) := by decide +kernel
theorem d_D_termAt_24 : decode c_D_termAt 24 = .ok (.iload_n 3, 1) := by decide +kernel
theorem d_D_termAt_25 : decode c_D_termAt 25 = .ok (.ifCond .ge (7), 3) := by decide +kernel
theorem d_D_termAt_28 : decode c_D_termAt 28 = .ok (.iconst (-1), 1) := by decide +kernel
theorem d_D_termAt_29 : decode c_D_termAt 29 = .ok (.goto (9), 3) := by decide +kernel
theorem d_D_termAt_32 : decode c_D_termAt 32 = .ok (.aload_n 0, 1) := by decide +kernel
theorem d_D_termAt_33 : decode c_D_termAt 33 = .ok (.getfield 35, 3) := by decide +kernel
theorem d_D_termAt_36 : decode c_D_termAt 36 = .ok (.iload_n 3, 1) := by decide +kernel
theorem d_D_termAt_37 : decode c_D_termAt 37 = .ok (.iaload, 1) := by decide +kernel
theorem d_D_termAt_38 : decode c_D_termAt 38 = .ok (.ireturn, 1) := by decide +kernel
theorem d_D_post_0 : decode c_D_post 0 = .ok (.aload_n 0, 1) := by decide +kernel
theorem d_D_post_1 : decode c_D_post 1 = .ok (.getfield 119, 3) := by decide +kernel
theorem d_D_post_4 : decode c_D_post 4 = .ok (.bipush (48), 2) := by decide +kernel
theorem d_D_post_6 : decode c_D_post 6 = .ok (.if_icmp .ne (4), 3) := by decide +kernel
theorem d_D_post_9 : decode c_D_post 9 = .ok (.return_, 1) := by decide +kernel
theorem d_D_post_10 : decode c_D_post 10 = .ok (.iconst 0, 1) := by decide +kernel
theorem d_D_post_11 : decode c_D_post 11 = .ok (.istore_n 1, 1) := by decide +kernel
theorem d_D_post_12 : decode c_D_post 12 = .ok (.iload_n 1, 1) := by decide +kernel
theorem d_D_post_13 : decode c_D_post 13 = .ok (.bipush (20), 2) := by decide +kernel
theorem d_D_post_15 : decode c_D_post 15 = .ok (.if_icmp .ge (29), 3) := by decide +kernel
theorem d_D_post_18 : decode c_D_post 18 = .ok (.aload_n 0, 1) := by decide +kernel
theorem d_D_post_19 : decode c_D_post 19 = .ok (.getfield 86, 3) := by decide +kernel
theorem d_D_post_22 : decode c_D_post 22 = .ok (.bipush (20), 2) := by decide +kernel
theorem d_D_post_24 : decode c_D_post 24 = .ok (.aload_n 0, 1) := by decide +kernel
theorem d_D_post_25 : decode c_D_post 25 = .ok (.getfield 119, 3) := by decide +kernel
theorem d_D_post_28 : decode c_D_post 28 = .ok (.imul, 1) := by decide +kernel
theorem d_D_post_29 : decode c_D_post 29 = .ok (.iload_n 1, 1) := by decide +kernel
theorem d_D_post_30 : decode c_D_post 30 = .ok (.iadd, 1) := by decide +kernel
theorem d_D_post_31 : decode c_D_post 31 = .ok (.aload_n 0, 1) := by decide +kernel
theorem d_D_post_32 : decode c_D_post 32 = .ok (.getfield 89, 3) := by decide +kernel
theorem d_D_post_35 : decode c_D_post 35 = .ok (.iload_n 1, 1) := by decide +kernel
theorem d_D_post_36 : decode c_D_post 36 = .ok (.iaload, 1) := by decide +kernel
theorem d_D_post_37 : decode c_D_post 37 = .ok (.iastore, 1) := by decide +kernel
theorem d_D_post_38 : decode c_D_post 38 = .ok (.iinc 1 (1), 3) := by decide +kernel
theorem d_D_post_41 : decode c_D_post 41 = .ok (.goto (-29), 3) := by decide +kernel
theorem d_D_post_44 : decode c_D_post 44 = .ok (.aload_n 0, 1) := by decide +kernel
theorem d_D_post_45 : decode c_D_post 45 = .ok (.dup, 1) := by decide +kernel
theorem d_D_post_46 : decode c_D_post 46 = .ok (.getfield 119, 3) := by decide +kernel
theorem d_D_post_49 : decode c_D_post 49 = .ok (.iconst 1, 1) := by decide +kernel
theorem d_D_post_50 : decode c_D_post 50 = .ok (.iadd, 1) := by decide +kernel
theorem d_D_post_51 : decode c_D_post 51 = .ok (.putfield 119, 3) := by decide +kernel
theorem d_D_post_54 : decode c_D_post 54 = .ok (.return_, 1) := by decide +kernel
theorem d_D_weigh_0 : decode c_D_weigh 0 = .ok (.aload_n 0, 1) := by decide +kernel
theorem d_D_weigh_1 : decode c_D_weigh 1 = .ok (.getfield 47, 3) := by decide +kernel
theorem d_D_weigh_4 : decode c_D_weigh 4 = .ok (.iload_n 1, 1) := by decide +kernel
theorem d_D_weigh_5 : decode c_D_weigh 5 = .ok (.iaload, 1) := by decide +kernel
theorem d_D_weigh_6 : decode c_D_weigh 6 = .ok (.iconst 1, 1) := by decide +kernel
theorem d_D_weigh_7 : decode c_D_weigh 7 = .ok (.if_icmp .ne (62), 3) := by decide +kernel
theorem d_D_weigh_10 : decode c_D_weigh 10 = .ok (.aload_n 0, 1) := by decide +kernel
theorem d_D_weigh_11 : decode c_D_weigh 11 = .ok (.iload_n 1, 1) := by decide +kernel
theorem d_D_weigh_12 : decode c_D_weigh 12 = .ok (.aload_n 0, 1) := by decide +kernel
theorem d_D_weigh_13 : decode c_D_weigh 13 = .ok (.getfield 56, 3) := by decide +kernel
theorem d_D_weigh_16 : decode c_D_weigh 16 = .ok (.iload_n 1, 1) := by decide +kernel
theorem d_D_weigh_17 : decode c_D_weigh 17 = .ok (.iaload, 1) := by decide +kernel
theorem d_D_weigh_18 : decode c_D_weigh 18 = .ok (.invokevirtual 157, 3) := by decide +kernel
theorem d_D_weigh_21 : decode c_D_weigh 21 = .ok (.ifCond .eq (48), 3) := by decide +kernel
theorem d_D_weigh_24 : decode c_D_weigh 24 = .ok (.aload_n 0, 1) := by decide +kernel
theorem d_D_weigh_25 : decode c_D_weigh 25 = .ok (.getfield 47, 3) := by decide +kernel
theorem d_D_weigh_28 : decode c_D_weigh 28 = .ok (.iload_n 1, 1) := by decide +kernel
theorem d_D_weigh_29 : decode c_D_weigh 29 = .ok (.iconst 2, 1) := by decide +kernel
theorem d_D_weigh_30 : decode c_D_weigh 30 = .ok (.iastore, 1) := by decide +kernel
theorem d_D_weigh_31 : decode c_D_weigh 31 = .ok (.aload_n 0, 1) := by decide +kernel
theorem d_D_weigh_32 : decode c_D_weigh 32 = .ok (.getfield 13, 3) := by decide +kernel
theorem d_D_weigh_35 : decode c_D_weigh 35 = .ok (.iload_n 1, 1) := by decide +kernel
theorem d_D_weigh_36 : decode c_D_weigh 36 = .ok (.dup2, 1) := by decide +kernel
theorem d_D_weigh_37 : decode c_D_weigh 37 = .ok (.iaload, 1) := by decide +kernel
theorem d_D_weigh_38 : decode c_D_weigh 38 = .ok (.iconst 1, 1) := by decide +kernel
theorem d_D_weigh_39 : decode c_D_weigh 39 = .ok (.iadd, 1) := by decide +kernel
theorem d_D_weigh_40 : decode c_D_weigh 40 = .ok (.iastore, 1) := by decide +kernel
theorem d_D_weigh_41 : decode c_D_weigh 41 = .ok (.aload_n 0, 1) := by decide +kernel
theorem d_D_weigh_42 : decode c_D_weigh 42 = .ok (.getfield 17, 3) := by decide +kernel
theorem d_D_weigh_45 : decode c_D_weigh 45 = .ok (.iload_n 1, 1) := by decide +kernel
theorem d_D_weigh_46 : decode c_D_weigh 46 = .ok (.iload_n 1, 1) := by decide +kernel
theorem d_D_weigh_47 : decode c_D_weigh 47 = .ok (.iastore, 1) := by decide +kernel
theorem d_D_weigh_48 : decode c_D_weigh 48 = .ok (.aload_n 0, 1) := by decide +kernel
theorem d_D_weigh_49 : decode c_D_weigh 49 = .ok (.getfield 56, 3) := by decide +kernel
theorem d_D_weigh_52 : decode c_D_weigh 52 = .ok (.iload_n 1, 1) := by decide +kernel
theorem d_D_weigh_53 : decode c_D_weigh 53 = .ok (.iconst 1, 1) := by decide +kernel
theorem d_D_weigh_54 : decode c_D_weigh 54 = .ok (.iload_n 1, 1) := by decide +kernel
theorem d_D_weigh_55 : decode c_D_weigh 55 = .ok (.ishl, 1) := by decide +kernel
theorem d_D_weigh_56 : decode c_D_weigh 56 = .ok (.iastore, 1) := by decide +kernel
theorem d_D_weigh_57 : decode c_D_weigh 57 = .ok (.aload_n 0, 1) := by decide +kernel
theorem d_D_weigh_58 : decode c_D_weigh 58 = .ok (.iload_n 1, 1) := by decide +kernel
theorem d_D_weigh_59 : decode c_D_weigh 59 = .ok (.iconst 2, 1) := by decide +kernel
theorem d_D_weigh_60 : decode c_D_weigh 60 = .ok (.aload_n 0, 1) := by decide +kernel
theorem d_D_weigh_61 : decode c_D_weigh 61 = .ok (.getfield 13, 3) := by decide +kernel
theorem d_D_weigh_64 : decode c_D_weigh 64 = .ok (.iload_n 1, 1) := by decide +kernel
theorem d_D_weigh_65 : decode c_D_weigh 65 = .ok (.iaload, 1) := by decide +kernel
theorem d_D_weigh_66 : decode c_D_weigh 66 = .ok (.invokevirtual 150, 3) := by decide +kernel
theorem d_D_weigh_69 : decode c_D_weigh 69 = .ok (.aload_n 0, 1) := by decide +kernel
theorem d_D_weigh_70 : decode c_D_weigh 70 = .ok (.getfield 47, 3) := by decide +kernel
theorem d_D_weigh_73 : decode c_D_weigh 73 = .ok (.iload_n 1, 1) := by decide +kernel
theorem d_D_weigh_74 : decode c_D_weigh 74 = .ok (.iaload, 1) := by decide +kernel
theorem d_D_weigh_75 : decode c_D_weigh 75 = .ok (.iconst 2, 1) := by decide +kernel
theorem d_D_weigh_76 : decode c_D_weigh 76 = .ok (.if_icmp .ne (22), 3) := by decide +kernel
theorem d_D_weigh_79 : decode c_D_weigh 79 = .ok (.aload_n 0, 1) := by decide +kernel
theorem d_D_weigh_80 : decode c_D_weigh 80 = .ok (.iload_n 1, 1) := by decide +kernel
theorem d_D_weigh_81 : decode c_D_weigh 81 = .ok (.aload_n 0, 1) := by decide +kernel
theorem d_D_weigh_82 : decode c_D_weigh 82 = .ok (.getfield 56, 3) := by decide +kernel
theorem d_D_weigh_85 : decode c_D_weigh 85 = .ok (.iload_n 1, 1) := by decide +kernel
theorem d_D_weigh_86 : decode c_D_weigh 86 = .ok (.iaload, 1) := by decide +kernel
theorem d_D_weigh_87 : decode c_D_weigh 87 = .ok (.invokevirtual 157, 3) := by decide +kernel
theorem d_D_weigh_90 : decode c_D_weigh 90 = .ok (.ifCond .eq (8), 3) := by decide +kernel
theorem d_D_weigh_93 : decode c_D_weigh 93 = .ok (.aload_n 0, 1) := by decide +kernel
theorem d_D_weigh_94 : decode c_D_weigh 94 = .ok (.iload_n 1, 1) := by decide +kernel
theorem d_D_weigh_95 : decode c_D_weigh 95 = .ok (.invokevirtual 161, 3) := by decide +kernel
theorem d_D_weigh_98 : decode c_D_weigh 98 = .ok (.return_, 1) := by decide +kernel
theorem d_D_most_0 : decode c_D_most 0 = .ok (.aload_n 0, 1) := by decide +kernel
theorem d_D_most_1 : decode c_D_most 1 = .ok (.iload_n 1, 1) := by decide +kernel
theorem d_D_most_2 : decode c_D_most 2 = .ok (.invokevirtual 113, 3) := by decide +kernel
theorem d_D_most_5 : decode c_D_most 5 = .ok (.istore_n 3, 1) := by decide +kernel
theorem d_D_most_6 : decode c_D_most 6 = .ok (.iconst 2, 1) := by decide +kernel
theorem d_D_most_7 : decode c_D_most 7 = .ok (.iload_n 3, 1) := by decide +kernel
theorem d_D_most_8 : decode c_D_most 8 = .ok (.iload_n 2, 1) := by decide +kernel
theorem d_D_most_9 : decode c_D_most 9 = .ok (.iand, 1) := by decide +kernel
theorem d_D_most_10 : decode c_D_most 10 = .ok (.invokestatic 116, 3) := by decide +kernel
theorem d_D_most_13 : decode c_D_most 13 = .ok (.imul, 1) := by decide +kernel
theorem d_D_most_14 : decode c_D_most 14 = .ok (.iload_n 3, 1) := by decide +kernel
theorem d_D_most_15 : decode c_D_most 15 = .ok (.invokestatic 116, 3) := by decide +kernel
theorem d_D_most_18 : decode c_D_most 18 = .ok (.if_icmp .le (7), 3) := by decide +kernel
theorem d_D_most_21 : decode c_D_most 21 = .ok (.iconst 1, 1) := by decide +kernel
theorem d_D_most_22 : decode c_D_most 22 = .ok (.goto (4), 3) := by decide +kernel
theorem d_D_most_25 : decode c_D_most 25 = .ok (.iconst 0, 1) := by decide +kernel
theorem d_D_most_26 : decode c_D_most 26 = .ok (.ireturn, 1) := by decide +kernel
theorem d_D_count_0 : decode c_D_count 0 = .ok (.iconst 0, 1) := by decide +kernel
theorem d_D_count_1 : decode c_D_count 1 = .ok (.istore_n 1, 1) := by decide +kernel
theorem d_D_count_2 : decode c_D_count 2 = .ok (.iconst 0, 1) := by decide +kernel
theorem d_D_count_3 : decode c_D_count 3 = .ok (.istore_n 2, 1) := by decide +kernel
theorem d_D_count_4 : decode c_D_count 4 = .ok (.iload_n 2, 1) := by decide +kernel
theorem d_D_count_5 : decode c_D_count 5 = .ok (.iconst 5, 1) := by decide +kernel
theorem d_D_count_6 : decode c_D_count 6 = .ok (.if_icmp .ge (17), 3) := by decide +kernel
theorem d_D_count_9 : decode c_D_count 9 = .ok (.iload_n 1, 1) := by decide +kernel
theorem d_D_count_10 : decode c_D_count 10 = .ok (.iload_n 0, 1) := by decide +kernel
theorem d_D_count_11 : decode c_D_count 11 = .ok (.iload_n 2, 1) := by decide +kernel
theorem d_D_count_12 : decode c_D_count 12 = .ok (.ishr, 1) := by decide +kernel
theorem d_D_count_13 : decode c_D_count 13 = .ok (.iconst 1, 1) := by decide +kernel
theorem d_D_count_14 : decode c_D_count 14 = .ok (.iand, 1) := by decide +kernel
theorem d_D_count_15 : decode c_D_count 15 = .ok (.iadd, 1) := by decide +kernel
theorem d_D_count_16 : decode c_D_count 16 = .ok (.istore_n 1, 1) := by decide +kernel
theorem d_D_count_17 : decode c_D_count 17 = .ok (.iinc 2 (1), 3) := by decide +kernel
theorem d_D_count_20 : decode c_D_count 20 = .ok (.goto (-16), 3) := by decide +kernel
theorem d_D_count_23 : decode c_D_count 23 = .ok (.iload_n 1, 1) := by decide +kernel
theorem d_D_count_24 : decode c_D_count 24 = .ok (.ireturn, 1) := by decide +kernel
theorem d_D_lead_0 : decode c_D_lead 0 = .ok (.aload_n 0, 1) := by decide +kernel
theorem d_D_lead_1 : decode c_D_lead 1 = .ok (.getfield 47, 3) := by decide +kernel
theorem d_D_lead_4 : decode c_D_lead 4 = .ok (.iload_n 1, 1) := by decide +kernel
theorem d_D_lead_5 : decode c_D_lead 5 = .ok (.iconst 3, 1) := by decide +kernel
theorem d_D_lead_6 : decode c_D_lead 6 = .ok (.iastore, 1) := by decide +kernel
theorem d_D_lead_7 : decode c_D_lead 7 = .ok (.aload_n 0, 1) := by decide +kernel
theorem d_D_lead_8 : decode c_D_lead 8 = .ok (.getfield 68, 3) := by decide +kernel
theorem d_D_lead_11 : decode c_D_lead 11 = .ok (.iload_n 1, 1) := by decide +kernel
theorem d_D_lead_12 : decode c_D_lead 12 = .ok (.iconst 0, 1) := by decide +kernel
theorem d_D_lead_13 : decode c_D_lead 13 = .ok (.iastore, 1) := by decide +kernel
theorem d_D_lead_14 : decode c_D_lead 14 = .ok (.iconst 0, 1) := by decide +kernel
theorem d_D_lead_15 : decode c_D_lead 15 = .ok (.istore_n 2, 1) := by decide +kernel
theorem d_D_lead_16 : decode c_D_lead 16 = .ok (.iload_n 2, 1) := by decide +kernel
theorem d_D_lead_17 : decode c_D_lead 17 = .ok (.iconst 5, 1) := by decide +kernel
theorem d_D_lead_18 : decode c_D_lead 18 = .ok (.if_icmp .ge (48), 3) := by decide +kernel
theorem d_D_lead_21 : decode c_D_lead 21 = .ok (.aload_n 0, 1) := by decide +kernel
theorem d_D_lead_22 : decode c_D_lead 22 = .ok (.getfield 59, 3) := by decide +kernel
theorem d_D_lead_25 : decode c_D_lead 25 = .ok (.iconst 5, 1) := by decide +kernel
theorem d_D_lead_26 : decode c_D_lead 26 = .ok (.iload_n 1, 1) := by decide +kernel
theorem d_D_lead_27 : decode c_D_lead 27 = .ok (.imul, 1) := by decide +kernel
theorem d_D_lead_28 : decode c_D_lead 28 = .ok (.iload_n 2, 1) := by decide +kernel
theorem d_D_lead_29 : decode c_D_lead 29 = .ok (.iadd, 1) := by decide +kernel
theorem d_D_lead_30 : decode c_D_lead 30 = .ok (.aload_n 0, 1) := by decide +kernel
theorem d_D_lead_31 : decode c_D_lead 31 = .ok (.iload_n 1, 1) := by decide +kernel
theorem d_D_lead_32 : decode c_D_lead 32 = .ok (.invokevirtual 96, 3) := by decide +kernel
theorem d_D_lead_35 : decode c_D_lead 35 = .ok (.iconst 1, 1) := by decide +kernel
theorem d_D_lead_36 : decode c_D_lead 36 = .ok (.iadd, 1) := by decide +kernel
theorem d_D_lead_37 : decode c_D_lead 37 = .ok (.iastore, 1) := by decide +kernel
theorem d_D_lead_38 : decode c_D_lead 38 = .ok (.aload_n 0, 1) := by decide +kernel
theorem d_D_lead_39 : decode c_D_lead 39 = .ok (.getfield 62, 3) := by decide +kernel
theorem d_D_lead_42 : decode c_D_lead 42 = .ok (.iconst 5, 1) := by decide +kernel
theorem d_D_lead_43 : decode c_D_lead 43 = .ok (.iload_n 1, 1) := by decide +kernel
theorem d_D_lead_44 : decode c_D_lead 44 = .ok (.imul, 1) := by decide +kernel
theorem d_D_lead_45 : decode c_D_lead 45 = .ok (.iload_n 2, 1) := by decide +kernel
theorem d_D_lead_46 : decode c_D_lead 46 = .ok (.iadd, 1) := by decide +kernel
theorem d_D_lead_47 : decode c_D_lead 47 = .ok (.iconst 0, 1) := by decide +kernel
theorem d_D_lead_48 : decode c_D_lead 48 = .ok (.iastore, 1) := by decide +kernel
theorem d_D_lead_49 : decode c_D_lead 49 = .ok (.aload_n 0, 1) := by decide +kernel
theorem d_D_lead_50 : decode c_D_lead 50 = .ok (.getfield 65, 3) := by decide +kernel
theorem d_D_lead_53 : decode c_D_lead 53 = .ok (.iconst 5, 1) := by decide +kernel
theorem d_D_lead_54 : decode c_D_lead 54 = .ok (.iload_n 1, 1) := by decide +kernel
theorem d_D_lead_55 : decode c_D_lead 55 = .ok (.imul, 1) := by decide +kernel
theorem d_D_lead_56 : decode c_D_lead 56 = .ok (.iload_n 2, 1) := by decide +kernel
theorem d_D_lead_57 : decode c_D_lead 57 = .ok (.iadd, 1) := by decide +kernel
theorem d_D_lead_58 : decode c_D_lead 58 = .ok (.iconst 0, 1) := by decide +kernel
theorem d_D_lead_59 : decode c_D_lead 59 = .ok (.iastore, 1) := by decide +kernel
theorem d_D_lead_60 : decode c_D_lead 60 = .ok (.iinc 2 (1), 3) := by decide +kernel
theorem d_D_lead_63 : decode c_D_lead 63 = .ok (.goto (-47), 3) := by decide +kernel
theorem d_D_lead_66 : decode c_D_lead 66 = .ok (.aload_n 0, 1) := by decide +kernel
theorem d_D_lead_67 : decode c_D_lead 67 = .ok (.iload_n 1, 1) := by decide +kernel
theorem d_D_lead_68 : decode c_D_lead 68 = .ok (.iconst 0, 1) := by decide +kernel
theorem d_D_lead_69 : decode c_D_lead 69 = .ok (.iconst 0, 1) := by decide +kernel
theorem d_D_lead_70 : decode c_D_lead 70 = .ok (.iconst 0, 1) := by decide +kernel
theorem d_D_lead_71 : decode c_D_lead 71 = .ok (.invokevirtual 164, 3) := by decide +kernel
theorem d_D_lead_74 : decode c_D_lead 74 = .ok (.pop, 1) := by decide +kernel
theorem d_D_lead_75 : decode c_D_lead 75 = .ok (.return_, 1) := by decide +kernel
theorem d_D_append_0 : decode c_D_append 0 = .ok (.aload_n 0, 1) := by decide +kernel
theorem d_D_append_1 : decode c_D_append 1 = .ok (.iload_n 1, 1) := by decide +kernel
theorem d_D_append_2 : decode c_D_append 2 = .ok (.aload_n 0, 1) := by decide +kernel
theorem d_D_append_3 : decode c_D_append 3 = .ok (.getfield 13, 3) := by decide +kernel
theorem d_D_append_6 : decode c_D_append 6 = .ok (.iload_n 1, 1) := by decide +kernel
theorem d_D_append_7 : decode c_D_append 7 = .ok (.iaload, 1) := by decide +kernel
theorem d_D_append_8 : decode c_D_append 8 = .ok (.iload_n 2, 1) := by decide +kernel
theorem d_D_append_9 : decode c_D_append 9 = .ok (.iload_n 3, 1) := by decide +kernel
theorem d_D_append_10 : decode c_D_append 10 = .ok (.iload 4, 2) := by decide +kernel
theorem d_D_append_12 : decode c_D_append 12 = .ok (.invokevirtual 168, 3) := by decide +kernel
theorem d_D_append_15 : decode c_D_append 15 = .ok (.aload_n 0, 1) := by decide +kernel
theorem d_D_append_16 : decode c_D_append 16 = .ok (.iload_n 1, 1) := by decide +kernel
theorem d_D_append_17 : decode c_D_append 17 = .ok (.invokevirtual 96, 3) := by decide +kernel
theorem d_D_append_20 : decode c_D_append 20 = .ok (.istore 5, 2) := by decide +kernel
theorem d_D_append_22 : decode c_D_append 22 = .ok (.aload_n 0, 1) := by decide +kernel
theorem d_D_append_23 : decode c_D_append 23 = .ok (.iload_n 1, 1) := by decide +kernel
theorem d_D_append_24 : decode c_D_append 24 = .ok (.invokevirtual 172, 3) := by decide +kernel
theorem d_D_append_27 : decode c_D_append 27 = .ok (.aload_n 0, 1) := by decide +kernel
theorem d_D_append_28 : decode c_D_append 28 = .ok (.iload_n 1, 1) := by decide +kernel
theorem d_D_append_29 : decode c_D_append 29 = .ok (.invokevirtual 175, 3) := by decide +kernel
theorem d_D_append_32 : decode c_D_append 32 = .ok (.iload 5, 2) := by decide +kernel
theorem d_D_append_34 : decode c_D_append 34 = .ok (.ireturn, 1) := by decide +kernel
theorem d_D_push_0 : decode c_D_push 0 = .ok (.bipush (48), 2) := by decide +kernel
theorem d_D_push_2 : decode c_D_push 2 = .ok (.iload_n 1, 1) := by decide +kernel
theorem d_D_push_3 : decode c_D_push 3 = .ok (.imul, 1) := by decide +kernel
theorem d_D_push_4 : decode c_D_push 4 = .ok (.aload_n 0, 1) := by decide +kernel
theorem d_D_push_5 : decode c_D_push 5 = .ok (.getfield 32, 3) := by decide +kernel
theorem d_D_push_8 : decode c_D_push 8 = .ok (.iload_n 1, 1) := by decide +kernel
theorem d_D_push_9 : decode c_D_push 9 = .ok (.iaload, 1) := by decide +kernel
theorem d_D_push_10 : decode c_D_push 10 = .ok (.iadd, 1) := by decide +kernel
theorem d_D_push_11 : decode c_D_push 11 = .ok (.istore 6, 2) := by decide +kernel
theorem d_D_push_13 : decode c_D_push 13 = .ok (.aload_n 0, 1) := by decide +kernel
theorem d_D_push_14 : decode c_D_push 14 = .ok (.getfield 35, 3) := by decide +kernel
theorem d_D_push_17 : decode c_D_push 17 = .ok (.iload 6, 2) := by decide +kernel
theorem d_D_push_19 : decode c_D_push 19 = .ok (.iload_n 2, 1) := by decide +kernel
theorem d_D_push_20 : decode c_D_push 20 = .ok (.iastore, 1) := by decide +kernel
theorem d_D_push_21 : decode c_D_push 21 = .ok (.aload_n 0, 1) := by decide +kernel
theorem d_D_push_22 : decode c_D_push 22 = .ok (.getfield 38, 3) := by decide +kernel
theorem d_D_push_25 : decode c_D_push 25 = .ok (.iload 6, 2) := by decide +kernel
theorem d_D_push_27 : decode c_D_push 27 = .ok (.iload_n 3, 1) := by decide +kernel
theorem d_D_push_28 : decode c_D_push 28 = .ok (.iastore, 1) := by decide +kernel
theorem d_D_push_29 : decode c_D_push 29 = .ok (.aload_n 0, 1) := by decide +kernel
theorem d_D_push_30 : decode c_D_push 30 = .ok (.getfield 41, 3) := by decide +kernel
theorem d_D_push_33 : decode c_D_push 33 = .ok (.iload 6, 2) := by decide +kernel
theorem d_D_push_35 : decode c_D_push 35 = .ok (.iload 4, 2) := by decide +kernel
theorem d_D_push_37 : decode c_D_push 37 = .ok (.iastore, 1) := by decide +kernel
theorem d_D_push_38 : decode c_D_push 38 = .ok (.aload_n 0, 1) := by decide +kernel
theorem d_D_push_39 : decode c_D_push 39 = .ok (.getfield 44, 3) := by decide +kernel
theorem d_D_push_42 : decode c_D_push 42 = .ok (.iload 6, 2) := by decide +kernel
theorem d_D_push_44 : decode c_D_push 44 = .ok (.iload 5, 2) := by decide +kernel
theorem d_D_push_46 : decode c_D_push 46 = .ok (.iastore, 1) := by decide +kernel
theorem d_D_push_47 : decode c_D_push 47 = .ok (.aload_n 0, 1) := by decide +kernel
theorem d_D_push_48 : decode c_D_push 48 = .ok (.getfield 32, 3) := by decide +kernel
theorem d_D_push_51 : decode c_D_push 51 = .ok (.iload_n 1, 1) := by decide +kernel
theorem d_D_push_52 : decode c_D_push 52 = .ok (.dup2, 1) := by decide +kernel
theorem d_D_push_53 : decode c_D_push 53 = .ok (.iaload, 1) := by decide +kernel
theorem d_D_push_54 : decode c_D_push 54 = .ok (.iconst 1, 1) := by decide +kernel
theorem d_D_push_55 : decode c_D_push 55 = .ok (.iadd, 1) := by decide +kernel
theorem d_D_push_56 : decode c_D_push 56 = .ok (.iastore, 1) := by decide +kernel
theorem d_D_push_57 : decode c_D_push 57 = .ok (.return_, 1) := by decide +kernel
theorem d_D_lookAtCommit_0 : decode c_D_lookAtCommit 0 = .ok (.aload_n 0, 1) := by decide +kernel
theorem d_D_lookAtCommit_1 : decode c_D_lookAtCommit 1 = .ok (.getfield 50, 3) := by decide +kernel
theorem d_D_lookAtCommit_4 : decode c_D_lookAtCommit 4 = .ok (.iload_n 1, 1) := by decide +kernel
theorem d_D_lookAtCommit_5 : decode c_D_lookAtCommit 5 = .ok (.iaload, 1) := by decide +kernel
theorem d_D_lookAtCommit_6 : decode c_D_lookAtCommit 6 = .ok (.istore_n 2, 1) := by decide +kernel
theorem d_D_lookAtCommit_7 : decode c_D_lookAtCommit 7 = .ok (.aload_n 0, 1) := by decide +kernel
theorem d_D_lookAtCommit_8 : decode c_D_lookAtCommit 8 = .ok (.getfield 50, 3) := by decide +kernel
theorem d_D_lookAtCommit_11 : decode c_D_lookAtCommit 11 = .ok (.iload_n 1, 1) := by decide +kernel
theorem d_D_lookAtCommit_12 : decode c_D_lookAtCommit 12 = .ok (.iaload, 1) := by decide +kernel
theorem d_D_lookAtCommit_13 : decode c_D_lookAtCommit 13 = .ok (.iconst 1, 1) := by decide +kernel
theorem d_D_lookAtCommit_14 : decode c_D_lookAtCommit 14 = .ok (.iadd, 1) := by decide +kernel
theorem d_D_lookAtCommit_15 : decode c_D_lookAtCommit 15 = .ok (.istore_n 3, 1) := by decide +kernel
theorem d_D_lookAtCommit_16 : decode c_D_lookAtCommit 16 = .ok (.iload_n 3, 1) := by decide +kernel
theorem d_D_lookAtCommit_17 : decode c_D_lookAtCommit 17 = .ok (.aload_n 0, 1) := by decide +kernel
theorem d_D_lookAtCommit_18 : decode c_D_lookAtCommit 18 = .ok (.iload_n 1, 1) := by decide +kernel
theorem d_D_lookAtCommit_19 : decode c_D_lookAtCommit 19 = .ok (.invokevirtual 96, 3) := by decide +kernel
theorem d_D_lookAtCommit_22 : decode c_D_lookAtCommit 22 = .ok (.if_icmp .gt (40), 3) := by decide +kernel
theorem d_D_lookAtCommit_25 : decode c_D_lookAtCommit 25 = .ok (.aload_n 0, 1) := by decide +kernel
theorem d_D_lookAtCommit_26 : decode c_D_lookAtCommit 26 = .ok (.iload_n 1, 1) := by decide +kernel
theorem d_D_lookAtCommit_27 : decode c_D_lookAtCommit 27 = .ok (.iload_n 3, 1) := by decide +kernel
theorem d_D_lookAtCommit_28 : decode c_D_lookAtCommit 28 = .ok (.invokevirtual 104, 3) := by decide +kernel
theorem d_D_lookAtCommit_31 : decode c_D_lookAtCommit 31 = .ok (.aload_n 0, 1) := by decide +kernel
theorem d_D_lookAtCommit_32 : decode c_D_lookAtCommit 32 = .ok (.getfield 13, 3) := by decide +kernel
theorem d_D_lookAtCommit_35 : decode c_D_lookAtCommit 35 = .ok (.iload_n 1, 1) := by decide +kernel
theorem d_D_lookAtCommit_36 : decode c_D_lookAtCommit 36 = .ok (.iaload, 1) := by decide +kernel
theorem d_D_lookAtCommit_37 : decode c_D_lookAtCommit 37 = .ok (.if_icmp .ne (19), 3) := by decide +kernel
theorem d_D_lookAtCommit_40 : decode c_D_lookAtCommit 40 = .ok (.aload_n 0, 1) := by decide +kernel
theorem d_D_lookAtCommit_41 : decode c_D_lookAtCommit 41 = .ok (.iload_n 1, 1) := by decide +kernel
theorem d_D_lookAtCommit_42 : decode c_D_lookAtCommit 42 = .ok (.aload_n 0, 1) := by decide +kernel
theorem d_D_lookAtCommit_43 : decode c_D_lookAtCommit 43 = .ok (.iload_n 1, 1) := by decide +kernel
theorem d_D_lookAtCommit_44 : decode c_D_lookAtCommit 44 = .ok (.iload_n 3, 1) := by decide +kernel
theorem d_D_lookAtCommit_45 : decode c_D_lookAtCommit 45 = .ok (.invokevirtual 178, 3) := by decide +kernel
theorem d_D_lookAtCommit_48 : decode c_D_lookAtCommit 48 = .ok (.invokevirtual 157, 3) := by decide +kernel
theorem d_D_lookAtCommit_51 : decode c_D_lookAtCommit 51 = .ok (.ifCond .eq (5), 3) := by decide +kernel
theorem d_D_lookAtCommit_54 : decode c_D_lookAtCommit 54 = .ok (.iload_n 3, 1) := by decide +kernel
theorem d_D_lookAtCommit_55 : decode c_D_lookAtCommit 55 = .ok (.istore_n 2, 1) := by decide +kernel
theorem d_D_lookAtCommit_56 : decode c_D_lookAtCommit 56 = .ok (.iinc 3 (1), 3) := by decide +kernel
theorem d_D_lookAtCommit_59 : decode c_D_lookAtCommit 59 = .ok (.goto (-43), 3) := by decide +kernel
theorem d_D_lookAtCommit_62 : decode c_D_lookAtCommit 62 = .ok (.aload_n 0, 1) := by decide +kernel
theorem d_D_lookAtCommit_63 : decode c_D_lookAtCommit 63 = .ok (.getfield 50, 3) := by decide +kernel
theorem d_D_lookAtCommit_66 : decode c_D_lookAtCommit 66 = .ok (.iload_n 1, 1) := by decide +kernel
theorem d_D_lookAtCommit_67 : decode c_D_lookAtCommit 67 = .ok (.iload_n 2, 1) := by decide +kernel
theorem d_D_lookAtCommit_68 : decode c_D_lookAtCommit 68 = .ok (.iastore, 1) := by decide +kernel
theorem d_D_lookAtCommit_69 : decode c_D_lookAtCommit 69 = .ok (.aload_n 0, 1) := by decide +kernel
theorem d_D_lookAtCommit_70 : decode c_D_lookAtCommit 70 = .ok (.iload_n 1, 1) := by decide +kernel
theorem d_D_lookAtCommit_71 : decode c_D_lookAtCommit 71 = .ok (.aload_n 0, 1) := by decide +kernel
theorem d_D_lookAtCommit_72 : decode c_D_lookAtCommit 72 = .ok (.iload_n 1, 1) := by decide +kernel
theorem d_D_lookAtCommit_73 : decode c_D_lookAtCommit 73 = .ok (.invokevirtual 96, 3) := by decide +kernel
theorem d_D_lookAtCommit_76 : decode c_D_lookAtCommit 76 = .ok (.invokevirtual 107, 3) := by decide +kernel
theorem d_D_lookAtCommit_79 : decode c_D_lookAtCommit 79 = .ok (.istore_n 3, 1) := by decide +kernel
theorem d_D_lookAtCommit_80 : decode c_D_lookAtCommit 80 = .ok (.iload_n 3, 1) := by decide +kernel
theorem d_D_lookAtCommit_81 : decode c_D_lookAtCommit 81 = .ok (.ifCond .le (26), 3) := by decide +kernel
theorem d_D_lookAtCommit_84 : decode c_D_lookAtCommit 84 = .ok (.iload_n 3, 1) := by decide +kernel
theorem d_D_lookAtCommit_85 : decode c_D_lookAtCommit 85 = .ok (.aload_n 0, 1) := by decide +kernel
theorem d_D_lookAtCommit_86 : decode c_D_lookAtCommit 86 = .ok (.getfield 50, 3) := by decide +kernel
theorem d_D_lookAtCommit_89 : decode c_D_lookAtCommit 89 = .ok (.iload_n 1, 1) := by decide +kernel
theorem d_D_lookAtCommit_90 : decode c_D_lookAtCommit 90 = .ok (.iaload, 1) := by decide +kernel
theorem d_D_lookAtCommit_91 : decode c_D_lookAtCommit 91 = .ok (.if_icmp .gt (16), 3) := by decide +kernel
theorem d_D_lookAtCommit_94 : decode c_D_lookAtCommit 94 = .ok (.aload_n 0, 1) := by decide +kernel
theorem d_D_lookAtCommit_95 : decode c_D_lookAtCommit 95 = .ok (.iload_n 1, 1) := by decide +kernel
theorem d_D_lookAtCommit_96 : decode c_D_lookAtCommit 96 = .ok (.invokevirtual 147, 3) := by decide +kernel
theorem d_D_lookAtCommit_99 : decode c_D_lookAtCommit 99 = .ok (.ifCond .ne (8), 3) := by decide +kernel
theorem d_D_lookAtCommit_102 : decode c_D_lookAtCommit 102 = .ok (.aload_n 0, 1) := by decide +kernel
theorem d_D_lookAtCommit_103 : decode c_D_lookAtCommit 103 = .ok (.iload_n 1, 1) := by decide +kernel
theorem d_D_lookAtCommit_104 : decode c_D_lookAtCommit 104 = .ok (.invokevirtual 139, 3) := by decide +kernel
theorem d_D_lookAtCommit_107 : decode c_D_lookAtCommit 107 = .ok (.return_, 1) := by decide +kernel
theorem d_D_having_0 : decode c_D_having 0 = .ok (.iconst 1, 1) := by decide +kernel
theorem d_D_having_1 : decode c_D_having 1 = .ok (.iload_n 1, 1) := by decide +kernel
theorem d_D_having_2 : decode c_D_having 2 = .ok (.ishl, 1) := by decide +kernel
theorem d_D_having_3 : decode c_D_having 3 = .ok (.istore_n 3, 1) := by decide +kernel
theorem d_D_having_4 : decode c_D_having 4 = .ok (.iconst 0, 1) := by decide +kernel
theorem d_D_having_5 : decode c_D_having 5 = .ok (.istore 4, 2) := by decide +kernel
theorem d_D_having_7 : decode c_D_having 7 = .ok (.iload 4, 2) := by decide +kernel
theorem d_D_having_9 : decode c_D_having 9 = .ok (.iconst 5, 1) := by decide +kernel
theorem d_D_having_10 : decode c_D_having 10 = .ok (.if_icmp .ge (35), 3) := by decide +kernel
theorem d_D_having_13 : decode c_D_having 13 = .ok (.iload_n 3, 1) := by decide +kernel
theorem d_D_having_14 : decode c_D_having 14 = .ok (.aload_n 0, 1) := by decide +kernel
theorem d_D_having_15 : decode c_D_having 15 = .ok (.getfield 62, 3) := by decide +kernel
theorem d_D_having_18 : decode c_D_having 18 = .ok (.iconst 5, 1) := by decide +kernel
theorem d_D_having_19 : decode c_D_having 19 = .ok (.iload_n 1, 1) := by decide +kernel
theorem d_D_having_20 : decode c_D_having 20 = .ok (.imul, 1) := by decide +kernel
theorem d_D_having_21 : decode c_D_having 21 = .ok (.iload 4, 2) := by decide +kernel
theorem d_D_having_23 : decode c_D_having 23 = .ok (.iadd, 1) := by decide +kernel
theorem d_D_having_24 : decode c_D_having 24 = .ok (.iaload, 1) := by decide +kernel
theorem d_D_having_25 : decode c_D_having 25 = .ok (.iload_n 2, 1) := by decide +kernel
theorem d_D_having_26 : decode c_D_having 26 = .ok (.if_icmp .lt (10), 3) := by decide +kernel
theorem d_D_having_29 : decode c_D_having 29 = .ok (.iconst 1, 1) := by decide +kernel
theorem d_D_having_30 : decode c_D_having 30 = .ok (.iload 4, 2) := by decide +kernel
theorem d_D_having_32 : decode c_D_having 32 = .ok (.ishl, 1) := by decide +kernel
theorem d_D_having_33 : decode c_D_having 33 = .ok (.goto (4), 3) := by decide +kernel
theorem d_D_having_36 : decode c_D_having 36 = .ok (.iconst 0, 1) := by decide +kernel
theorem d_D_having_37 : decode c_D_having 37 = .ok (.ior, 1) := by decide +kernel
theorem d_D_having_38 : decode c_D_having 38 = .ok (.istore_n 3, 1) := by decide +kernel
theorem d_D_having_39 : decode c_D_having 39 = .ok (.iinc 4 (1), 3) := by decide +kernel
theorem d_D_having_42 : decode c_D_having 42 = .ok (.goto (-35), 3) := by decide +kernel
theorem d_D_having_45 : decode c_D_having 45 = .ok (.iload_n 3, 1) := by decide +kernel
theorem d_D_having_46 : decode c_D_having 46 = .ok (.ireturn, 1) := by decide +kernel
theorem d_D_follow_0 : decode c_D_follow 0 = .ok (.aload_n 0, 1) := by decide +kernel
theorem d_D_follow_1 : decode c_D_follow 1 = .ok (.getfield 47, 3) := by decide +kernel
theorem d_D_follow_4 : decode c_D_follow 4 = .ok (.iload_n 1, 1) := by decide +kernel
theorem d_D_follow_5 : decode c_D_follow 5 = .ok (.iaload, 1) := by decide +kernel
theorem d_D_follow_6 : decode c_D_follow 6 = .ok (.iconst 3, 1) := by decide +kernel
theorem d_D_follow_7 : decode c_D_follow 7 = .ok (.if_icmp .ne (7), 3) := by decide +kernel
theorem d_D_follow_10 : decode c_D_follow 10 = .ok (.iconst 1, 1) := by decide +kernel
theorem d_D_follow_11 : decode c_D_follow 11 = .ok (.goto (4), 3) := by decide +kernel
theorem d_D_follow_14 : decode c_D_follow 14 = .ok (.iconst 0, 1) := by decide +kernel
theorem d_D_follow_15 : decode c_D_follow 15 = .ok (.istore_n 2, 1) := by decide +kernel
theorem d_D_follow_16 : decode c_D_follow 16 = .ok (.aload_n 0, 1) := by decide +kernel
theorem d_D_follow_17 : decode c_D_follow 17 = .ok (.getfield 47, 3) := by decide +kernel
theorem d_D_follow_20 : decode c_D_follow 20 = .ok (.iload_n 1, 1) := by decide +kernel
theorem d_D_follow_21 : decode c_D_follow 21 = .ok (.iconst 0, 1) := by decide +kernel
theorem d_D_follow_22 : decode c_D_follow 22 = .ok (.iastore, 1) := by decide +kernel
theorem d_D_follow_23 : decode c_D_follow 23 = .ok (.iconst 0, 1) := by decide +kernel
theorem d_D_follow_24 : decode c_D_follow 24 = .ok (.istore_n 3, 1) := by decide +kernel
theorem d_D_follow_25 : decode c_D_follow 25 = .ok (.iload_n 3, 1) := by decide +kernel
theorem d_D_follow_26 : decode c_D_follow 26 = .ok (.aload_n 0, 1) := by decide +kernel
theorem d_D_follow_27 : decode c_D_follow 27 = .ok (.getfield 136, 3) := by decide +kernel
theorem d_D_follow_30 : decode c_D_follow 30 = .ok (.if_icmp .ge (39), 3) := by decide +kernel
theorem d_D_follow_33 : decode c_D_follow 33 = .ok (.iload_n 2, 1) := by decide +kernel
theorem d_D_follow_34 : decode c_D_follow 34 = .ok (.ifCond .eq (35), 3) := by decide +kernel
theorem d_D_follow_37 : decode c_D_follow 37 = .ok (.aload_n 0, 1) := by decide +kernel
theorem d_D_follow_38 : decode c_D_follow 38 = .ok (.getfield 71, 3) := by decide +kernel
theorem d_D_follow_41 : decode c_D_follow 41 = .ok (.iload_n 3, 1) := by decide +kernel
theorem d_D_follow_42 : decode c_D_follow 42 = .ok (.iaload, 1) := by decide +kernel
theorem d_D_follow_43 : decode c_D_follow 43 = .ok (.iload_n 1, 1) := by decide +kernel
theorem d_D_follow_44 : decode c_D_follow 44 = .ok (.if_icmp .ne (19), 3) := by decide +kernel
theorem d_D_follow_47 : decode c_D_follow 47 = .ok (.aload_n 0, 1) := by decide +kernel
theorem d_D_follow_48 : decode c_D_follow 48 = .ok (.getfield 80, 3) := by decide +kernel
theorem d_D_follow_51 : decode c_D_follow 51 = .ok (.iload_n 3, 1) := by decide +kernel
theorem d_D_follow_52 : decode c_D_follow 52 = .ok (.iaload, 1) := by decide +kernel
theorem d_D_follow_53 : decode c_D_follow 53 = .ok (.ifCond .ne (10), 3) := by decide +kernel
theorem d_D_follow_56 : decode c_D_follow 56 = .ok (.aload_n 0, 1) := by decide +kernel
theorem d_D_follow_57 : decode c_D_follow 57 = .ok (.getfield 80, 3) := by decide +kernel
theorem d_D_follow_60 : decode c_D_follow 60 = .ok (.iload_n 3, 1) := by decide +kernel
theorem d_D_follow_61 : decode c_D_follow 61 = .ok (.iconst 2, 1) := by decide +kernel
theorem d_D_follow_62 : decode c_D_follow 62 = .ok (.iastore, 1) := by decide +kernel
theorem d_D_follow_63 : decode c_D_follow 63 = .ok (.iinc 3 (1), 3) := by decide +kernel
theorem d_D_follow_66 : decode c_D_follow 66 = .ok (.goto (-41), 3) := by decide +kernel
theorem d_D_follow_69 : decode c_D_follow 69 = .ok (.return_, 1) := by decide +kernel
theorem d_D_sendAll_0 : decode c_D_sendAll 0 = .ok (.aload_n 0, 1) := by decide +kernel
theorem d_D_sendAll_1 : decode c_D_sendAll 1 = .ok (.iload_n 1, 1) := by decide +kernel
theorem d_D_sendAll_2 : decode c_D_sendAll 2 = .ok (.invokevirtual 113, 3) := by decide +kernel
theorem d_D_sendAll_5 : decode c_D_sendAll 5 = .ok (.istore_n 2, 1) := by decide +kernel
theorem d_D_sendAll_6 : decode c_D_sendAll 6 = .ok (.iconst 0, 1) := by decide +kernel
theorem d_D_sendAll_7 : decode c_D_sendAll 7 = .ok (.istore_n 3, 1) := by decide +kernel
theorem d_D_sendAll_8 : decode c_D_sendAll 8 = .ok (.iload_n 3, 1) := by decide +kernel
theorem d_D_sendAll_9 : decode c_D_sendAll 9 = .ok (.iconst 5, 1) := by decide +kernel
theorem d_D_sendAll_10 : decode c_D_sendAll 10 = .ok (.if_icmp .ge (29), 3) := by decide +kernel
theorem d_D_sendAll_13 : decode c_D_sendAll 13 = .ok (.iload_n 3, 1) := by decide +kernel
theorem d_D_sendAll_14 : decode c_D_sendAll 14 = .ok (.iload_n 1, 1) := by decide +kernel
theorem d_D_sendAll_15 : decode c_D_sendAll 15 = .ok (.if_icmp .eq (18), 3) := by decide +kernel
theorem d_D_sendAll_18 : decode c_D_sendAll 18 = .ok (.iload_n 2, 1) := by decide +kernel
theorem d_D_sendAll_19 : decode c_D_sendAll 19 = .ok (.iload_n 3, 1) := by decide +kernel
theorem d_D_sendAll_20 : decode c_D_sendAll 20 = .ok (.ishr, 1) := by decide +kernel
theorem d_D_sendAll_21 : decode c_D_sendAll 21 = .ok (.iconst 1, 1) := by decide +kernel
theorem d_D_sendAll_22 : decode c_D_sendAll 22 = .ok (.iand, 1) := by decide +kernel
theorem d_D_sendAll_23 : decode c_D_sendAll 23 = .ok (.iconst 1, 1) := by decide +kernel
theorem d_D_sendAll_24 : decode c_D_sendAll 24 = .ok (.if_icmp .ne (9), 3) := by decide +kernel
theorem d_D_sendAll_27 : decode c_D_sendAll 27 = .ok (.aload_n 0, 1) := by decide +kernel
theorem d_D_sendAll_28 : decode c_D_sendAll 28 = .ok (.iload_n 1, 1) := by decide +kernel
theorem d_D_sendAll_29 : decode c_D_sendAll 29 = .ok (.iload_n 3, 1) := by decide +kernel
theorem d_D_sendAll_30 : decode c_D_sendAll 30 = .ok (.invokevirtual 132, 3) := by decide +kernel
theorem d_D_sendAll_33 : decode c_D_sendAll 33 = .ok (.iinc 3 (1), 3) := by decide +kernel
theorem d_D_sendAll_36 : decode c_D_sendAll 36 = .ok (.goto (-28), 3) := by decide +kernel
theorem d_D_sendAll_39 : decode c_D_sendAll 39 = .ok (.return_, 1) := by decide +kernel
theorem d_D_sendTo_0 : decode c_D_sendTo 0 = .ok (.aload_n 0, 1) := by decide +kernel
theorem d_D_sendTo_1 : decode c_D_sendTo 1 = .ok (.getfield 59, 3) := by decide +kernel
theorem d_D_sendTo_4 : decode c_D_sendTo 4 = .ok (.iconst 5, 1) := by decide +kernel
theorem d_D_sendTo_5 : decode c_D_sendTo 5 = .ok (.iload_n 1, 1) := by decide +kernel
theorem d_D_sendTo_6 : decode c_D_sendTo 6 = .ok (.imul, 1) := by decide +kernel
theorem d_D_sendTo_7 : decode c_D_sendTo 7 = .ok (.iload_n 2, 1) := by decide +kernel
theorem d_D_sendTo_8 : decode c_D_sendTo 8 = .ok (.iadd, 1) := by decide +kernel
theorem d_D_sendTo_9 : decode c_D_sendTo 9 = .ok (.iaload, 1) := by decide +kernel
theorem d_D_sendTo_10 : decode c_D_sendTo 10 = .ok (.istore_n 3, 1) := by decide +kernel
theorem d_D_sendTo_11 : decode c_D_sendTo 11 = .ok (.iload_n 3, 1) := by decide +kernel
theorem d_D_sendTo_12 : decode c_D_sendTo 12 = .ok (.iconst 1, 1) := by decide +kernel
theorem d_D_sendTo_13 : decode c_D_sendTo 13 = .ok (.isub, 1) := by decide +kernel
theorem d_D_sendTo_14 : decode c_D_sendTo 14 = .ok (.aload_n 0, 1) := by decide +kernel
theorem d_D_sendTo_15 : decode c_D_sendTo 15 = .ok (.getfield 20, 3) := by decide +kernel
theorem d_D_sendTo_18 : decode c_D_sendTo 18 = .ok (.iload_n 1, 1) := by decide +kernel
theorem d_D_sendTo_19 : decode c_D_sendTo 19 = .ok (.iaload, 1) := by decide +kernel
theorem d_D_sendTo_20 : decode c_D_sendTo 20 = .ok (.if_icmp .ge (7), 3) := by decide +kernel
theorem d_D_sendTo_23 : decode c_D_sendTo 23 = .ok (.iconst 1, 1) := by decide +kernel
theorem d_D_sendTo_24 : decode c_D_sendTo 24 = .ok (.goto (4), 3) := by decide +kernel
theorem d_D_sendTo_27 : decode c_D_sendTo 27 = .ok (.iconst 0, 1) := by decide +kernel
theorem d_D_sendTo_28 : decode c_D_sendTo 28 = .ok (.istore 4, 2) := by decide +kernel
theorem d_D_sendTo_30 : decode c_D_sendTo 30 = .ok (.aload_n 0, 1) := by decide +kernel
theorem d_D_sendTo_31 : decode c_D_sendTo 31 = .ok (.iload 4, 2) := by decide +kernel
theorem d_D_sendTo_33 : decode c_D_sendTo 33 = .ok (.ifCond .eq (8), 3) := by decide +kernel
theorem d_D_sendTo_36 : decode c_D_sendTo 36 = .ok (.bipush (6), 2) := by decide +kernel
theorem d_D_sendTo_38 : decode c_D_sendTo 38 = .ok (.goto (4), 3) := by decide +kernel
theorem d_D_sendTo_41 : decode c_D_sendTo 41 = .ok (.iconst 4, 1) := by decide +kernel
theorem d_D_sendTo_42 : decode c_D_sendTo 42 = .ok (.iload_n 1, 1) := by decide +kernel
theorem d_D_sendTo_43 : decode c_D_sendTo 43 = .ok (.iload_n 2, 1) := by decide +kernel
theorem d_D_sendTo_44 : decode c_D_sendTo 44 = .ok (.aload_n 0, 1) := by decide +kernel
theorem d_D_sendTo_45 : decode c_D_sendTo 45 = .ok (.getfield 13, 3) := by decide +kernel
theorem d_D_sendTo_48 : decode c_D_sendTo 48 = .ok (.iload_n 1, 1) := by decide +kernel
theorem d_D_sendTo_49 : decode c_D_sendTo 49 = .ok (.iaload, 1) := by decide +kernel
theorem d_D_sendTo_50 : decode c_D_sendTo 50 = .ok (.invokevirtual 122, 3) := by decide +kernel
theorem d_D_sendTo_53 : decode c_D_sendTo 53 = .ok (.aload_n 0, 1) := by decide +kernel
theorem d_D_sendTo_54 : decode c_D_sendTo 54 = .ok (.getfield 89, 3) := by decide +kernel
theorem d_D_sendTo_57 : decode c_D_sendTo 57 = .ok (.bipush (9), 2) := by decide +kernel
theorem d_D_sendTo_59 : decode c_D_sendTo 59 = .ok (.aload_n 0, 1) := by decide +kernel
theorem d_D_sendTo_60 : decode c_D_sendTo 60 = .ok (.getfield 68, 3) := by decide +kernel
theorem d_D_sendTo_63 : decode c_D_sendTo 63 = .ok (.iload_n 1, 1) := by decide +kernel
theorem d_D_sendTo_64 : decode c_D_sendTo 64 = .ok (.iaload, 1) := by decide +kernel
theorem d_D_sendTo_65 : decode c_D_sendTo 65 = .ok (.iastore, 1) := by decide +kernel
theorem d_D_sendTo_66 : decode c_D_sendTo 66 = .ok (.aload_n 0, 1) := by decide +kernel
theorem d_D_sendTo_67 : decode c_D_sendTo 67 = .ok (.getfield 89, 3) := by decide +kernel
theorem d_D_sendTo_70 : decode c_D_sendTo 70 = .ok (.bipush (8), 2) := by decide +kernel
theorem d_D_sendTo_72 : decode c_D_sendTo 72 = .ok (.aload_n 0, 1) := by decide +kernel
theorem d_D_sendTo_73 : decode c_D_sendTo 73 = .ok (.getfield 50, 3) := by decide +kernel
theorem d_D_sendTo_76 : decode c_D_sendTo 76 = .ok (.iload_n 1, 1) := by decide +kernel
theorem d_D_sendTo_77 : decode c_D_sendTo 77 = .ok (.iaload, 1) := by decide +kernel
theorem d_D_sendTo_78 : decode c_D_sendTo 78 = .ok (.iastore, 1) := by decide +kernel
theorem d_D_sendTo_79 : decode c_D_sendTo 79 = .ok (.aload_n 0, 1) := by decide +kernel
theorem d_D_sendTo_80 : decode c_D_sendTo 80 = .ok (.getfield 89, 3) := by decide +kernel
theorem d_D_sendTo_83 : decode c_D_sendTo 83 = .ok (.iconst 4, 1) := by decide +kernel
theorem d_D_sendTo_84 : decode c_D_sendTo 84 = .ok (.iload 4, 2) := by decide +kernel
theorem d_D_sendTo_86 : decode c_D_sendTo 86 = .ok (.ifCond .eq (12), 3) := by decide +kernel
theorem d_D_sendTo_89 : decode c_D_sendTo 89 = .ok (.aload_n 0, 1) := by decide +kernel
theorem d_D_sendTo_90 : decode c_D_sendTo 90 = .ok (.getfield 20, 3) := by decide +kernel
theorem d_D_sendTo_93 : decode c_D_sendTo 93 = .ok (.iload_n 1, 1) := by decide +kernel
theorem d_D_sendTo_94 : decode c_D_sendTo 94 = .ok (.iaload, 1) := by decide +kernel
theorem d_D_sendTo_95 : decode c_D_sendTo 95 = .ok (.goto (6), 3) := by decide +kernel
theorem d_D_sendTo_98 : decode c_D_sendTo 98 = .ok (.iload_n 3, 1) := by decide +kernel
theorem d_D_sendTo_99 : decode c_D_sendTo 99 = .ok (.iconst 1, 1) := by decide +kernel
theorem d_D_sendTo_100 : decode c_D_sendTo 100 = .ok (.isub, 1) := by decide +kernel
theorem d_D_sendTo_101 : decode c_D_sendTo 101 = .ok (.iastore, 1) := by decide +kernel
theorem d_D_sendTo_102 : decode c_D_sendTo 102 = .ok (.aload_n 0, 1) := by decide +kernel
theorem d_D_sendTo_103 : decode c_D_sendTo 103 = .ok (.getfield 89, 3) := by decide +kernel
theorem d_D_sendTo_106 : decode c_D_sendTo 106 = .ok (.iconst 5, 1) := by decide +kernel
theorem d_D_sendTo_107 : decode c_D_sendTo 107 = .ok (.iload 4, 2) := by decide +kernel
theorem d_D_sendTo_109 : decode c_D_sendTo 109 = .ok (.ifCond .eq (12), 3) := by decide +kernel
theorem d_D_sendTo_112 : decode c_D_sendTo 112 = .ok (.aload_n 0, 1) := by decide +kernel
theorem d_D_sendTo_113 : decode c_D_sendTo 113 = .ok (.getfield 23, 3) := by decide +kernel
theorem d_D_sendTo_116 : decode c_D_sendTo 116 = .ok (.iload_n 1, 1) := by decide +kernel
theorem d_D_sendTo_117 : decode c_D_sendTo 117 = .ok (.iaload, 1) := by decide +kernel
theorem d_D_sendTo_118 : decode c_D_sendTo 118 = .ok (.goto (11), 3) := by decide +kernel
theorem d_D_sendTo_121 : decode c_D_sendTo 121 = .ok (.aload_n 0, 1) := by decide +kernel
theorem d_D_sendTo_122 : decode c_D_sendTo 122 = .ok (.iload_n 1, 1) := by decide +kernel
theorem d_D_sendTo_123 : decode c_D_sendTo 123 = .ok (.iload_n 3, 1) := by decide +kernel
theorem d_D_sendTo_124 : decode c_D_sendTo 124 = .ok (.iconst 1, 1) := by decide +kernel
theorem d_D_sendTo_125 : decode c_D_sendTo 125 = .ok (.isub, 1) := by decide +kernel
theorem d_D_sendTo_126 : decode c_D_sendTo 126 = .ok (.invokevirtual 104, 3) := by decide +kernel
theorem d_D_sendTo_129 : decode c_D_sendTo 129 = .ok (.iastore, 1) := by decide +kernel
theorem d_D_sendTo_130 : decode c_D_sendTo 130 = .ok (.iload 4, 2) := by decide +kernel
theorem d_D_sendTo_132 : decode c_D_sendTo 132 = .ok (.ifCond .eq (55), 3) := by decide +kernel
theorem d_D_sendTo_135 : decode c_D_sendTo 135 = .ok (.aload_n 0, 1) := by decide +kernel
theorem d_D_sendTo_136 : decode c_D_sendTo 136 = .ok (.getfield 89, 3) := by decide +kernel
theorem d_D_sendTo_139 : decode c_D_sendTo 139 = .ok (.bipush (10), 2) := by decide +kernel
theorem d_D_sendTo_141 : decode c_D_sendTo 141 = .ok (.aload_n 0, 1) := by decide +kernel
theorem d_D_sendTo_142 : decode c_D_sendTo 142 = .ok (.getfield 26, 3) := by decide +kernel
theorem d_D_sendTo_145 : decode c_D_sendTo 145 = .ok (.iload_n 1, 1) := by decide +kernel
theorem d_D_sendTo_146 : decode c_D_sendTo 146 = .ok (.iaload, 1) := by decide +kernel
theorem d_D_sendTo_147 : decode c_D_sendTo 147 = .ok (.iastore, 1) := by decide +kernel
theorem d_D_sendTo_148 : decode c_D_sendTo 148 = .ok (.iconst 0, 1) := by decide +kernel
theorem d_D_sendTo_149 : decode c_D_sendTo 149 = .ok (.istore 5, 2) := by decide +kernel
theorem d_D_sendTo_151 : decode c_D_sendTo 151 = .ok (.iload 5, 2) := by decide +kernel
theorem d_D_sendTo_153 : decode c_D_sendTo 153 = .ok (.iconst 4, 1) := by decide +kernel
theorem d_D_sendTo_154 : decode c_D_sendTo 154 = .ok (.if_icmp .ge (30), 3) := by decide +kernel
theorem d_D_sendTo_157 : decode c_D_sendTo 157 = .ok (.aload_n 0, 1) := by decide +kernel
theorem d_D_sendTo_158 : decode c_D_sendTo 158 = .ok (.getfield 89, 3) := by decide +kernel
theorem d_D_sendTo_161 : decode c_D_sendTo 161 = .ok (.bipush (11), 2) := by decide +kernel
theorem d_D_sendTo_163 : decode c_D_sendTo 163 = .ok (.iload 5, 2) := by decide +kernel
theorem d_D_sendTo_165 : decode c_D_sendTo 165 = .ok (.iadd, 1) := by decide +kernel
theorem d_D_sendTo_166 : decode c_D_sendTo 166 = .ok (.aload_n 0, 1) := by decide +kernel
theorem d_D_sendTo_167 : decode c_D_sendTo 167 = .ok (.getfield 29, 3) := by decide +kernel
theorem d_D_sendTo_170 : decode c_D_sendTo 170 = .ok (.iconst 4, 1) := by decide +kernel
theorem d_D_sendTo_171 : decode c_D_sendTo 171 = .ok (.iload_n 1, 1) := by decide +kernel
theorem d_D_sendTo_172 : decode c_D_sendTo 172 = .ok (.imul, 1) := by decide +kernel
theorem d_D_sendTo_173 : decode c_D_sendTo 173 = .ok (.iload 5, 2) := by decide +kernel
theorem d_D_sendTo_175 : decode c_D_sendTo 175 = .ok (.iadd, 1) := by decide +kernel
theorem d_D_sendTo_176 : decode c_D_sendTo 176 = .ok (.iaload, 1) := by decide +kernel
theorem d_D_sendTo_177 : decode c_D_sendTo 177 = .ok (.iastore, 1) := by decide +kernel
theorem d_D_sendTo_178 : decode c_D_sendTo 178 = .ok (.iinc 5 (1), 3) := by decide +kernel
theorem d_D_sendTo_181 : decode c_D_sendTo 181 = .ok (.goto (-30), 3) := by decide +kernel
theorem d_D_sendTo_184 : decode c_D_sendTo 184 = .ok (.goto (129), 3) := by decide +kernel
theorem d_D_sendTo_187 : decode c_D_sendTo 187 = .ok (.iload_n 3, 1) := by decide +kernel
theorem d_D_sendTo_188 : decode c_D_sendTo 188 = .ok (.istore 5, 2) := by decide +kernel
theorem d_D_sendTo_190 : decode c_D_sendTo 190 = .ok (.iload 5, 2) := by decide +kernel
theorem d_D_sendTo_192 : decode c_D_sendTo 192 = .ok (.aload_n 0, 1) := by decide +kernel
theorem d_D_sendTo_193 : decode c_D_sendTo 193 = .ok (.iload_n 1, 1) := by decide +kernel
theorem d_D_sendTo_194 : decode c_D_sendTo 194 = .ok (.invokevirtual 96, 3) := by decide +kernel
theorem d_D_sendTo_197 : decode c_D_sendTo 197 = .ok (.if_icmp .gt (116), 3) := by decide +kernel
theorem d_D_sendTo_200 : decode c_D_sendTo 200 = .ok (.aload_n 0, 1) := by decide +kernel
theorem d_D_sendTo_201 : decode c_D_sendTo 201 = .ok (.getfield 89, 3) := by decide +kernel
theorem d_D_sendTo_204 : decode c_D_sendTo 204 = .ok (.bipush (7), 2) := by decide +kernel
theorem d_D_sendTo_206 : decode c_D_sendTo 206 = .ok (.iaload, 1) := by decide +kernel
theorem d_D_sendTo_207 : decode c_D_sendTo 207 = .ok (.iconst 2, 1) := by decide +kernel
theorem d_D_sendTo_208 : decode c_D_sendTo 208 = .ok (.if_icmp .ge (105), 3) := by decide +kernel
theorem d_D_sendTo_211 : decode c_D_sendTo 211 = .ok (.aload_n 0, 1) := by decide +kernel
theorem d_D_sendTo_212 : decode c_D_sendTo 212 = .ok (.iload_n 1, 1) := by decide +kernel
theorem d_D_sendTo_213 : decode c_D_sendTo 213 = .ok (.iload 5, 2) := by decide +kernel
theorem d_D_sendTo_215 : decode c_D_sendTo 215 = .ok (.invokevirtual 100, 3) := by decide +kernel
theorem d_D_sendTo_218 : decode c_D_sendTo 218 = .ok (.istore 6, 2) := by decide +kernel
theorem d_D_sendTo_220 : decode c_D_sendTo 220 = .ok (.bipush (10), 2) := by decide +kernel
theorem d_D_sendTo_222 : decode c_D_sendTo 222 = .ok (.iconst 4, 1) := by decide +kernel
theorem d_D_sendTo_223 : decode c_D_sendTo 223 = .ok (.aload_n 0, 1) := by decide +kernel
theorem d_D_sendTo_224 : decode c_D_sendTo 224 = .ok (.getfield 89, 3) := by decide +kernel
theorem d_D_sendTo_227 : decode c_D_sendTo 227 = .ok (.bipush (7), 2) := by decide +kernel
theorem d_D_sendTo_229 : decode c_D_sendTo 229 = .ok (.iaload, 1) := by decide +kernel
theorem d_D_sendTo_230 : decode c_D_sendTo 230 = .ok (.imul, 1) := by decide +kernel
theorem d_D_sendTo_231 : decode c_D_sendTo 231 = .ok (.iadd, 1) := by decide +kernel
theorem d_D_sendTo_232 : decode c_D_sendTo 232 = .ok (.istore 7, 2) := by decide +kernel
theorem d_D_sendTo_234 : decode c_D_sendTo 234 = .ok (.aload_n 0, 1) := by decide +kernel
theorem d_D_sendTo_235 : decode c_D_sendTo 235 = .ok (.getfield 89, 3) := by decide +kernel
theorem d_D_sendTo_238 : decode c_D_sendTo 238 = .ok (.iload 7, 2) := by decide +kernel
theorem d_D_sendTo_240 : decode c_D_sendTo 240 = .ok (.aload_n 0, 1) := by decide +kernel
theorem d_D_sendTo_241 : decode c_D_sendTo 241 = .ok (.getfield 35, 3) := by decide +kernel
theorem d_D_sendTo_244 : decode c_D_sendTo 244 = .ok (.iload 6, 2) := by decide +kernel
theorem d_D_sendTo_246 : decode c_D_sendTo 246 = .ok (.iaload, 1) := by decide +kernel
theorem d_D_sendTo_247 : decode c_D_sendTo 247 = .ok (.iastore, 1) := by decide +kernel
theorem d_D_sendTo_248 : decode c_D_sendTo 248 = .ok (.aload_n 0, 1) := by decide +kernel
theorem d_D_sendTo_249 : decode c_D_sendTo 249 = .ok (.getfield 89, 3) := by decide +kernel
theorem d_D_sendTo_252 : decode c_D_sendTo 252 = .ok (.iload 7, 2) := by decide +kernel
theorem d_D_sendTo_254 : decode c_D_sendTo 254 = .ok (.iconst 1, 1) := by decide +kernel
theorem d_D_sendTo_255 : decode c_D_sendTo 255 = .ok (.iadd, 1) := by decide +kernel
theorem d_D_sendTo_256 : decode c_D_sendTo 256 = .ok (.aload_n 0, 1) := by decide +kernel
theorem d_D_sendTo_257 : decode c_D_sendTo 257 = .ok (.getfield 38, 3) := by decide +kernel
theorem d_D_sendTo_260 : decode c_D_sendTo 260 = .ok (.iload 6, 2) := by decide +kernel
theorem d_D_sendTo_262 : decode c_D_sendTo 262 = .ok (.iaload, 1) := by decide +kernel
theorem d_D_sendTo_263 : decode c_D_sendTo 263 = .ok (.iastore, 1) := by decide +kernel
theorem d_D_sendTo_264 : decode c_D_sendTo 264 = .ok (.aload_n 0, 1) := by decide +kernel
theorem d_D_sendTo_265 : decode c_D_sendTo 265 = .ok (.getfield 89, 3) := by decide +kernel
theorem d_D_sendTo_268 : decode c_D_sendTo 268 = .ok (.iload 7, 2) := by decide +kernel
theorem d_D_sendTo_270 : decode c_D_sendTo 270 = .ok (.iconst 2, 1) := by decide +kernel
theorem d_D_sendTo_271 : decode c_D_sendTo 271 = .ok (.iadd, 1) := by decide +kernel
theorem d_D_sendTo_272 : decode c_D_sendTo 272 = .ok (.aload_n 0, 1) := by decide +kernel
theorem d_D_sendTo_273 : decode c_D_sendTo 273 = .ok (.getfield 41, 3) := by decide +kernel
theorem d_D_sendTo_276 : decode c_D_sendTo 276 = .ok (.iload 6, 2) := by decide +kernel
theorem d_D_sendTo_278 : decode c_D_sendTo 278 = .ok (.iaload, 1) := by decide +kernel
theorem d_D_sendTo_279 : decode c_D_sendTo 279 = .ok (.iastore, 1) := by decide +kernel
theorem d_D_sendTo_280 : decode c_D_sendTo 280 = .ok (.aload_n 0, 1) := by decide +kernel
theorem d_D_sendTo_281 : decode c_D_sendTo 281 = .ok (.getfield 89, 3) := by decide +kernel
theorem d_D_sendTo_284 : decode c_D_sendTo 284 = .ok (.iload 7, 2) := by decide +kernel
theorem d_D_sendTo_286 : decode c_D_sendTo 286 = .ok (.iconst 3, 1) := by decide +kernel
theorem d_D_sendTo_287 : decode c_D_sendTo 287 = .ok (.iadd, 1) := by decide +kernel
theorem d_D_sendTo_288 : decode c_D_sendTo 288 = .ok (.aload_n 0, 1) := by decide +kernel
theorem d_D_sendTo_289 : decode c_D_sendTo 289 = .ok (.getfield 44, 3) := by decide +kernel
theorem d_D_sendTo_292 : decode c_D_sendTo 292 = .ok (.iload 6, 2) := by decide +kernel
theorem d_D_sendTo_294 : decode c_D_sendTo 294 = .ok (.iaload, 1) := by decide +kernel
theorem d_D_sendTo_295 : decode c_D_sendTo 295 = .ok (.iastore, 1) := by decide +kernel
theorem d_D_sendTo_296 : decode c_D_sendTo 296 = .ok (.aload_n 0, 1) := by decide +kernel
theorem d_D_sendTo_297 : decode c_D_sendTo 297 = .ok (.getfield 89, 3) := by decide +kernel
theorem d_D_sendTo_300 : decode c_D_sendTo 300 = .ok (.bipush (7), 2) := by decide +kernel
theorem d_D_sendTo_302 : decode c_D_sendTo 302 = .ok (.dup2, 1) := by decide +kernel
theorem d_D_sendTo_303 : decode c_D_sendTo 303 = .ok (.iaload, 1) := by decide +kernel
theorem d_D_sendTo_304 : decode c_D_sendTo 304 = .ok (.iconst 1, 1) := by decide +kernel
theorem d_D_sendTo_305 : decode c_D_sendTo 305 = .ok (.iadd, 1) := by decide +kernel
theorem d_D_sendTo_306 : decode c_D_sendTo 306 = .ok (.iastore, 1) := by decide +kernel
theorem d_D_sendTo_307 : decode c_D_sendTo 307 = .ok (.iinc 5 (1), 3) := by decide +kernel
theorem d_D_sendTo_310 : decode c_D_sendTo 310 = .ok (.goto (-120), 3) := by decide +kernel
theorem d_D_sendTo_313 : decode c_D_sendTo 313 = .ok (.aload_n 0, 1) := by decide +kernel
theorem d_D_sendTo_314 : decode c_D_sendTo 314 = .ok (.invokevirtual 129, 3) := by decide +kernel
theorem d_D_sendTo_317 : decode c_D_sendTo 317 = .ok (.return_, 1) := by decide +kernel
theorem d_D_beat_0 : decode c_D_beat 0 = .ok (.aload_n 0, 1) := by decide +kernel
theorem d_D_beat_1 : decode c_D_beat 1 = .ok (.iconst 0, 1) := by decide +kernel
theorem d_D_beat_2 : decode c_D_beat 2 = .ok (.putfield 92, 3) := by decide +kernel
theorem d_D_beat_5 : decode c_D_beat 5 = .ok (.iload_n 1, 1) := by decide +kernel
theorem d_D_beat_6 : decode c_D_beat 6 = .ok (.invokestatic 143, 3) := by decide +kernel
theorem d_D_beat_9 : decode c_D_beat 9 = .ok (.ifCond .eq (11), 3) := by decide +kernel
theorem d_D_beat_12 : decode c_D_beat 12 = .ok (.aload_n 0, 1) := by decide +kernel
theorem d_D_beat_13 : decode c_D_beat 13 = .ok (.iload_n 1, 1) := by decide +kernel
theorem d_D_beat_14 : decode c_D_beat 14 = .ok (.invokevirtual 185, 3) := by decide +kernel
theorem d_D_beat_17 : decode c_D_beat 17 = .ok (.ifCond .ne (5), 3) := by decide +kernel
theorem d_D_beat_20 : decode c_D_beat 20 = .ok (.iconst 0, 1) := by decide +kernel
theorem d_D_beat_21 : decode c_D_beat 21 = .ok (.ireturn, 1) := by decide +kernel
theorem d_D_beat_22 : decode c_D_beat 22 = .ok (.aload_n 0, 1) := by decide +kernel
theorem d_D_beat_23 : decode c_D_beat 23 = .ok (.iload_n 1, 1) := by decide +kernel
theorem d_D_beat_24 : decode c_D_beat 24 = .ok (.invokevirtual 175, 3) := by decide +kernel
theorem d_D_beat_27 : decode c_D_beat 27 = .ok (.iconst 1, 1) := by decide +kernel
theorem d_D_beat_28 : decode c_D_beat 28 = .ok (.ireturn, 1) := by decide +kernel
theorem d_D_leads_0 : decode c_D_leads 0 = .ok (.aload_n 0, 1) := by decide +kernel
theorem d_D_leads_1 : decode c_D_leads 1 = .ok (.getfield 7, 3) := by decide +kernel
theorem d_D_leads_4 : decode c_D_leads 4 = .ok (.iload_n 1, 1) := by decide +kernel
theorem d_D_leads_5 : decode c_D_leads 5 = .ok (.baload, 1) := by decide +kernel
theorem d_D_leads_6 : decode c_D_leads 6 = .ok (.ifCond .ne (17), 3) := by decide +kernel
theorem d_D_leads_9 : decode c_D_leads 9 = .ok (.aload_n 0, 1) := by decide +kernel
theorem d_D_leads_10 : decode c_D_leads 10 = .ok (.getfield 47, 3) := by decide +kernel
theorem d_D_leads_13 : decode c_D_leads 13 = .ok (.iload_n 1, 1) := by decide +kernel
theorem d_D_leads_14 : decode c_D_leads 14 = .ok (.iaload, 1) := by decide +kernel
theorem d_D_leads_15 : decode c_D_leads 15 = .ok (.iconst 3, 1) := by decide +kernel
theorem d_D_leads_16 : decode c_D_leads 16 = .ok (.if_icmp .ne (7), 3) := by decide +kernel
theorem d_D_leads_19 : decode c_D_leads 19 = .ok (.iconst 1, 1) := by decide +kernel
theorem d_D_leads_20 : decode c_D_leads 20 = .ok (.goto (4), 3) := by decide +kernel
theorem d_D_leads_23 : decode c_D_leads 23 = .ok (.iconst 0, 1) := by decide +kernel
theorem d_D_leads_24 : decode c_D_leads 24 = .ok (.ireturn, 1) := by decide +kernel
theorem d_D_put_0 : decode c_D_put 0 = .ok (.aload_n 0, 1) := by decide +kernel
theorem d_D_put_1 : decode c_D_put 1 = .ok (.iconst 0, 1) := by decide +kernel
theorem d_D_put_2 : decode c_D_put 2 = .ok (.putfield 92, 3) := by decide +kernel
theorem d_D_put_5 : decode c_D_put 5 = .ok (.iload_n 1, 1) := by decide +kernel
theorem d_D_put_6 : decode c_D_put 6 = .ok (.invokestatic 143, 3) := by decide +kernel
theorem d_D_put_9 : decode c_D_put 9 = .ok (.ifCond .eq (10), 3) := by decide +kernel
theorem d_D_put_12 : decode c_D_put 12 = .ok (.iload_n 2, 1) := by decide +kernel
theorem d_D_put_13 : decode c_D_put 13 = .ok (.invokestatic 188, 3) := by decide +kernel
theorem d_D_put_16 : decode c_D_put 16 = .ok (.ifCond .ne (9), 3) := by decide +kernel
theorem d_D_put_19 : decode c_D_put 19 = .ok (.aload_n 0, 1) := by decide +kernel
theorem d_D_put_20 : decode c_D_put 20 = .ok (.iconst 1, 1) := by decide +kernel
theorem d_D_put_21 : decode c_D_put 21 = .ok (.invokevirtual 191, 3) := by decide +kernel
theorem d_D_put_24 : decode c_D_put 24 = .ok (.ireturn, 1) := by decide +kernel
theorem d_D_put_25 : decode c_D_put 25 = .ok (.aload_n 0, 1) := by decide +kernel
theorem d_D_put_26 : decode c_D_put 26 = .ok (.iload_n 1, 1) := by decide +kernel
theorem d_D_put_27 : decode c_D_put 27 = .ok (.invokevirtual 185, 3) := by decide +kernel
theorem d_D_put_30 : decode c_D_put 30 = .ok (.ifCond .ne (9), 3) := by decide +kernel
theorem d_D_put_33 : decode c_D_put 33 = .ok (.aload_n 0, 1) := by decide +kernel
theorem d_D_put_34 : decode c_D_put 34 = .ok (.iconst 2, 1) := by decide +kernel
theorem d_D_put_35 : decode c_D_put 35 = .ok (.invokevirtual 191, 3) := by decide +kernel
theorem d_D_put_38 : decode c_D_put 38 = .ok (.ireturn, 1) := by decide +kernel
theorem d_D_put_39 : decode c_D_put 39 = .ok (.aload_n 0, 1) := by decide +kernel
theorem d_D_put_40 : decode c_D_put 40 = .ok (.getfield 32, 3) := by decide +kernel
theorem d_D_put_43 : decode c_D_put 43 = .ok (.iload_n 1, 1) := by decide +kernel
theorem d_D_put_44 : decode c_D_put 44 = .ok (.iaload, 1) := by decide +kernel
theorem d_D_put_45 : decode c_D_put 45 = .ok (.bipush (24), 2) := by decide +kernel
theorem d_D_put_47 : decode c_D_put 47 = .ok (.if_icmp .lt (9), 3) := by decide +kernel
theorem d_D_put_50 : decode c_D_put 50 = .ok (.aload_n 0, 1) := by decide +kernel
theorem d_D_put_51 : decode c_D_put 51 = .ok (.iconst 3, 1) := by decide +kernel
theorem d_D_put_52 : decode c_D_put 52 = .ok (.invokevirtual 191, 3) := by decide +kernel
theorem d_D_put_55 : decode c_D_put 55 = .ok (.ireturn, 1) := by decide +kernel
theorem d_D_put_56 : decode c_D_put 56 = .ok (.aload_n 0, 1) := by decide +kernel
theorem d_D_put_57 : decode c_D_put 57 = .ok (.iload_n 1, 1) := by decide +kernel
theorem d_D_put_58 : decode c_D_put 58 = .ok (.iconst 1, 1) := by decide +kernel
theorem d_D_put_59 : decode c_D_put 59 = .ok (.iload_n 2, 1) := by decide +kernel
theorem d_D_put_60 : decode c_D_put 60 = .ok (.iload_n 3, 1) := by decide +kernel
theorem d_D_put_61 : decode c_D_put 61 = .ok (.invokevirtual 164, 3) := by decide +kernel
theorem d_D_put_64 : decode c_D_put 64 = .ok (.ireturn, 1) := by decide +kernel
theorem d_D_isKey_0 : decode c_D_isKey 0 = .ok (.iload_n 0, 1) := by decide +kernel
theorem d_D_isKey_1 : decode c_D_isKey 1 = .ok (.ifCond .lt (12), 3) := by decide +kernel
theorem d_D_isKey_4 : decode c_D_isKey 4 = .ok (.iload_n 0, 1) := by decide +kernel
theorem d_D_isKey_5 : decode c_D_isKey 5 = .ok (.iconst 4, 1) := by decide +kernel
theorem d_D_isKey_6 : decode c_D_isKey 6 = .ok (.if_icmp .ge (7), 3) := by decide +kernel
theorem d_D_isKey_9 : decode c_D_isKey 9 = .ok (.iconst 1, 1) := by decide +kernel
theorem d_D_isKey_10 : decode c_D_isKey 10 = .ok (.goto (4), 3) := by decide +kernel
theorem d_D_isKey_13 : decode c_D_isKey 13 = .ok (.iconst 0, 1) := by decide +kernel
theorem d_D_isKey_14 : decode c_D_isKey 14 = .ok (.ireturn, 1) := by decide +kernel
theorem d_D_fail_0 : decode c_D_fail 0 = .ok (.aload_n 0, 1) := by decide +kernel
theorem d_D_fail_1 : decode c_D_fail 1 = .ok (.iload_n 1, 1) := by decide +kernel
theorem d_D_fail_2 : decode c_D_fail 2 = .ok (.putfield 92, 3) := by decide +kernel
theorem d_D_fail_5 : decode c_D_fail 5 = .ok (.iconst 0, 1) := by decide +kernel
theorem d_D_fail_6 : decode c_D_fail 6 = .ok (.ireturn, 1) := by decide +kernel
theorem d_D_change_0 : decode c_D_change 0 = .ok (.aload_n 0, 1) := by decide +kernel
theorem d_D_change_1 : decode c_D_change 1 = .ok (.iconst 0, 1) := by decide +kernel
theorem d_D_change_2 : decode c_D_change 2 = .ok (.putfield 92, 3) := by decide +kernel
theorem d_D_change_5 : decode c_D_change 5 = .ok (.iload_n 1, 1) := by decide +kernel
theorem d_D_change_6 : decode c_D_change 6 = .ok (.invokestatic 143, 3) := by decide +kernel
theorem d_D_change_9 : decode c_D_change 9 = .ok (.ifCond .eq (10), 3) := by decide +kernel
theorem d_D_change_12 : decode c_D_change 12 = .ok (.iload_n 2, 1) := by decide +kernel
theorem d_D_change_13 : decode c_D_change 13 = .ok (.invokestatic 143, 3) := by decide +kernel
theorem d_D_change_16 : decode c_D_change 16 = .ok (.ifCond .ne (9), 3) := by decide +kernel
theorem d_D_change_19 : decode c_D_change 19 = .ok (.aload_n 0, 1) := by decide +kernel
theorem d_D_change_20 : decode c_D_change 20 = .ok (.iconst 1, 1) := by decide +kernel
theorem d_D_change_21 : decode c_D_change 21 = .ok (.invokevirtual 191, 3) := by decide +kernel
theorem d_D_change_24 : decode c_D_change 24 = .ok (.ireturn, 1) := by decide +kernel
theorem d_D_change_25 : decode c_D_change 25 = .ok (.aload_n 0, 1) := by decide +kernel
theorem d_D_change_26 : decode c_D_change 26 = .ok (.iload_n 1, 1) := by decide +kernel
theorem d_D_change_27 : decode c_D_change 27 = .ok (.invokevirtual 113, 3) := by decide +kernel
theorem d_D_change_30 : decode c_D_change 30 = .ok (.istore 4, 2) := by decide +kernel
theorem d_D_change_32 : decode c_D_change 32 = .ok (.iload 4, 2) := by decide +kernel
theorem d_D_change_34 : decode c_D_change 34 = .ok (.iload_n 2, 1) := by decide +kernel
theorem d_D_change_35 : decode c_D_change 35 = .ok (.ishr, 1) := by decide +kernel
theorem d_D_change_36 : decode c_D_change 36 = .ok (.iconst 1, 1) := by decide +kernel
theorem d_D_change_37 : decode c_D_change 37 = .ok (.iand, 1) := by decide +kernel
theorem d_D_change_38 : decode c_D_change 38 = .ok (.iconst 1, 1) := by decide +kernel
theorem d_D_change_39 : decode c_D_change 39 = .ok (.if_icmp .ne (7), 3) := by decide +kernel
theorem d_D_change_42 : decode c_D_change 42 = .ok (.iconst 1, 1) := by decide +kernel
theorem d_D_change_43 : decode c_D_change 43 = .ok (.goto (4), 3) := by decide +kernel
theorem d_D_change_46 : decode c_D_change 46 = .ok (.iconst 0, 1) := by decide +kernel
theorem d_D_change_47 : decode c_D_change 47 = .ok (.istore 5, 2) := by decide +kernel
theorem d_D_change_49 : decode c_D_change 49 = .ok (.iload 5, 2) := by decide +kernel
theorem d_D_change_51 : decode c_D_change 51 = .ok (.iload_n 3, 1) := by decide +kernel
theorem d_D_change_52 : decode c_D_change 52 = .ok (.if_icmp .eq (15), 3) := by decide +kernel
theorem d_D_change_55 : decode c_D_change 55 = .ok (.iload_n 3, 1) := by decide +kernel
theorem d_D_change_56 : decode c_D_change 56 = .ok (.ifCond .ne (17), 3) := by decide +kernel
theorem d_D_change_59 : decode c_D_change 59 = .ok (.iload 4, 2) := by decide +kernel
theorem d_D_change_61 : decode c_D_change 61 = .ok (.iconst 1, 1) := by decide +kernel
theorem d_D_change_62 : decode c_D_change 62 = .ok (.iload_n 2, 1) := by decide +kernel
theorem d_D_change_63 : decode c_D_change 63 = .ok (.ishl, 1) := by decide +kernel
theorem d_D_change_64 : decode c_D_change 64 = .ok (.if_icmp .ne (9), 3) := by decide +kernel
theorem d_D_change_67 : decode c_D_change 67 = .ok (.aload_n 0, 1) := by decide +kernel
theorem d_D_change_68 : decode c_D_change 68 = .ok (.iconst 1, 1) := by decide +kernel
theorem d_D_change_69 : decode c_D_change 69 = .ok (.invokevirtual 191, 3) := by decide +kernel
theorem d_D_change_72 : decode c_D_change 72 = .ok (.ireturn, 1) := by decide +kernel
theorem d_D_change_73 : decode c_D_change 73 = .ok (.aload_n 0, 1) := by decide +kernel
theorem d_D_change_74 : decode c_D_change 74 = .ok (.iload_n 1, 1) := by decide +kernel
theorem d_D_change_75 : decode c_D_change 75 = .ok (.invokevirtual 185, 3) := by decide +kernel
theorem d_D_change_78 : decode c_D_change 78 = .ok (.ifCond .ne (9), 3) := by decide +kernel
theorem d_D_change_81 : decode c_D_change 81 = .ok (.aload_n 0, 1) := by decide +kernel
theorem d_D_change_82 : decode c_D_change 82 = .ok (.iconst 2, 1) := by decide +kernel
theorem d_D_change_83 : decode c_D_change 83 = .ok (.invokevirtual 191, 3) := by decide +kernel
theorem d_D_change_86 : decode c_D_change 86 = .ok (.ireturn, 1) := by decide +kernel
theorem d_D_change_87 : decode c_D_change 87 = .ok (.aload_n 0, 1) := by decide +kernel
theorem d_D_change_88 : decode c_D_change 88 = .ok (.getfield 32, 3) := by decide +kernel
theorem d_D_change_91 : decode c_D_change 91 = .ok (.iload_n 1, 1) := by decide +kernel
theorem d_D_change_92 : decode c_D_change 92 = .ok (.iaload, 1) := by decide +kernel
theorem d_D_change_93 : decode c_D_change 93 = .ok (.bipush (24), 2) := by decide +kernel
theorem d_D_change_95 : decode c_D_change 95 = .ok (.if_icmp .ge (30), 3) := by decide +kernel
theorem d_D_change_98 : decode c_D_change 98 = .ok (.aload_n 0, 1) := by decide +kernel
theorem d_D_change_99 : decode c_D_change 99 = .ok (.iload_n 1, 1) := by decide +kernel
theorem d_D_change_100 : decode c_D_change 100 = .ok (.aload_n 0, 1) := by decide +kernel
theorem d_D_change_101 : decode c_D_change 101 = .ok (.iload_n 1, 1) := by decide +kernel
theorem d_D_change_102 : decode c_D_change 102 = .ok (.invokevirtual 96, 3) := by decide +kernel
theorem d_D_change_105 : decode c_D_change 105 = .ok (.invokevirtual 107, 3) := by decide +kernel
theorem d_D_change_108 : decode c_D_change 108 = .ok (.aload_n 0, 1) := by decide +kernel
theorem d_D_change_109 : decode c_D_change 109 = .ok (.getfield 50, 3) := by decide +kernel
theorem d_D_change_112 : decode c_D_change 112 = .ok (.iload_n 1, 1) := by decide +kernel
theorem d_D_change_113 : decode c_D_change 113 = .ok (.iaload, 1) := by decide +kernel
theorem d_D_change_114 : decode c_D_change 114 = .ok (.if_icmp .gt (11), 3) := by decide +kernel
theorem d_D_change_117 : decode c_D_change 117 = .ok (.aload_n 0, 1) := by decide +kernel
theorem d_D_change_118 : decode c_D_change 118 = .ok (.iload_n 1, 1) := by decide +kernel
theorem d_D_change_119 : decode c_D_change 119 = .ok (.invokevirtual 194, 3) := by decide +kernel
theorem d_D_change_122 : decode c_D_change 122 = .ok (.ifCond .eq (9), 3) := by decide +kernel
theorem d_D_change_125 : decode c_D_change 125 = .ok (.aload_n 0, 1) := by decide +kernel
theorem d_D_change_126 : decode c_D_change 126 = .ok (.iconst 3, 1) := by decide +kernel
theorem d_D_change_127 : decode c_D_change 127 = .ok (.invokevirtual 191, 3) := by decide +kernel
theorem d_D_change_130 : decode c_D_change 130 = .ok (.ireturn, 1) := by decide +kernel
theorem d_D_change_131 : decode c_D_change 131 = .ok (.aload_n 0, 1) := by decide +kernel
theorem d_D_change_132 : decode c_D_change 132 = .ok (.iload_n 1, 1) := by decide +kernel
theorem d_D_change_133 : decode c_D_change 133 = .ok (.iconst 2, 1) := by decide +kernel
theorem d_D_change_134 : decode c_D_change 134 = .ok (.iload 4, 2) := by decide +kernel
theorem d_D_change_136 : decode c_D_change 136 = .ok (.iconst 1, 1) := by decide +kernel
theorem d_D_change_137 : decode c_D_change 137 = .ok (.iload_n 2, 1) := by decide +kernel
theorem d_D_change_138 : decode c_D_change 138 = .ok (.ishl, 1) := by decide +kernel
theorem d_D_change_139 : decode c_D_change 139 = .ok (.ixor, 1) := by decide +kernel
theorem d_D_change_140 : decode c_D_change 140 = .ok (.iconst 0, 1) := by decide +kernel
theorem d_D_change_141 : decode c_D_change 141 = .ok (.invokevirtual 164, 3) := by decide +kernel
theorem d_D_change_144 : decode c_D_change 144 = .ok (.ireturn, 1) := by decide +kernel
theorem d_D_isOld_0 : decode c_D_isOld 0 = .ok (.aload_n 0, 1) := by decide +kernel
theorem d_D_isOld_1 : decode c_D_isOld 1 = .ok (.iload_n 1, 1) := by decide +kernel
theorem d_D_isOld_2 : decode c_D_isOld 2 = .ok (.aload_n 0, 1) := by decide +kernel
theorem d_D_isOld_3 : decode c_D_isOld 3 = .ok (.getfield 50, 3) := by decide +kernel
theorem d_D_isOld_6 : decode c_D_isOld 6 = .ok (.iload_n 1, 1) := by decide +kernel
theorem d_D_isOld_7 : decode c_D_isOld 7 = .ok (.iaload, 1) := by decide +kernel
theorem d_D_isOld_8 : decode c_D_isOld 8 = .ok (.invokevirtual 104, 3) := by decide +kernel
theorem d_D_isOld_11 : decode c_D_isOld 11 = .ok (.aload_n 0, 1) := by decide +kernel
theorem d_D_isOld_12 : decode c_D_isOld 12 = .ok (.getfield 13, 3) := by decide +kernel
theorem d_D_isOld_15 : decode c_D_isOld 15 = .ok (.iload_n 1, 1) := by decide +kernel
theorem d_D_isOld_16 : decode c_D_isOld 16 = .ok (.iaload, 1) := by decide +kernel
theorem d_D_isOld_17 : decode c_D_isOld 17 = .ok (.if_icmp .eq (7), 3) := by decide +kernel
theorem d_D_isOld_20 : decode c_D_isOld 20 = .ok (.iconst 1, 1) := by decide +kernel
theorem d_D_isOld_21 : decode c_D_isOld 21 = .ok (.goto (4), 3) := by decide +kernel
theorem d_D_isOld_24 : decode c_D_isOld 24 = .ok (.iconst 0, 1) := by decide +kernel
theorem d_D_isOld_25 : decode c_D_isOld 25 = .ok (.ireturn, 1) := by decide +kernel
theorem d_D_read_0 : decode c_D_read 0 = .ok (.aload_n 0, 1) := by decide +kernel
theorem d_D_read_1 : decode c_D_read 1 = .ok (.iconst 0, 1) := by decide +kernel
theorem d_D_read_2 : decode c_D_read 2 = .ok (.putfield 92, 3) := by decide +kernel
theorem d_D_read_5 : decode c_D_read 5 = .ok (.iload_n 1, 1) := by decide +kernel
theorem d_D_read_6 : decode c_D_read 6 = .ok (.invokestatic 143, 3) := by decide +kernel
theorem d_D_read_9 : decode c_D_read 9 = .ok (.ifCond .eq (10), 3) := by decide +kernel
theorem d_D_read_12 : decode c_D_read 12 = .ok (.iload_n 2, 1) := by decide +kernel
theorem d_D_read_13 : decode c_D_read 13 = .ok (.invokestatic 188, 3) := by decide +kernel
theorem d_D_read_16 : decode c_D_read 16 = .ok (.ifCond .ne (9), 3) := by decide +kernel
theorem d_D_read_19 : decode c_D_read 19 = .ok (.aload_n 0, 1) := by decide +kernel
theorem d_D_read_20 : decode c_D_read 20 = .ok (.iconst 1, 1) := by decide +kernel
theorem d_D_read_21 : decode c_D_read 21 = .ok (.invokevirtual 191, 3) := by decide +kernel
theorem d_D_read_24 : decode c_D_read 24 = .ok (.ireturn, 1) := by decide +kernel
theorem d_D_read_25 : decode c_D_read 25 = .ok (.aload_n 0, 1) := by decide +kernel
theorem d_D_read_26 : decode c_D_read 26 = .ok (.iload_n 1, 1) := by decide +kernel
theorem d_D_read_27 : decode c_D_read 27 = .ok (.invokevirtual 185, 3) := by decide +kernel
theorem d_D_read_30 : decode c_D_read 30 = .ok (.ifCond .ne (9), 3) := by decide +kernel
theorem d_D_read_33 : decode c_D_read 33 = .ok (.aload_n 0, 1) := by decide +kernel
theorem d_D_read_34 : decode c_D_read 34 = .ok (.iconst 2, 1) := by decide +kernel
theorem d_D_read_35 : decode c_D_read 35 = .ok (.invokevirtual 191, 3) := by decide +kernel
theorem d_D_read_38 : decode c_D_read 38 = .ok (.ireturn, 1) := by decide +kernel
theorem d_D_read_39 : decode c_D_read 39 = .ok (.iconst 0, 1) := by decide +kernel
theorem d_D_read_40 : decode c_D_read 40 = .ok (.istore_n 3, 1) := by decide +kernel
theorem d_D_read_41 : decode c_D_read 41 = .ok (.iconst 0, 1) := by decide +kernel
theorem d_D_read_42 : decode c_D_read 42 = .ok (.istore 4, 2) := by decide +kernel
theorem d_D_read_44 : decode c_D_read 44 = .ok (.iload 4, 2) := by decide +kernel
theorem d_D_read_46 : decode c_D_read 46 = .ok (.aload_n 0, 1) := by decide +kernel
theorem d_D_read_47 : decode c_D_read 47 = .ok (.getfield 136, 3) := by decide +kernel
theorem d_D_read_50 : decode c_D_read 50 = .ok (.if_icmp .ge (38), 3) := by decide +kernel
theorem d_D_read_53 : decode c_D_read 53 = .ok (.iload_n 3, 1) := by decide +kernel
theorem d_D_read_54 : decode c_D_read 54 = .ok (.aload_n 0, 1) := by decide +kernel
theorem d_D_read_55 : decode c_D_read 55 = .ok (.getfield 71, 3) := by decide +kernel
theorem d_D_read_58 : decode c_D_read 58 = .ok (.iload 4, 2) := by decide +kernel
theorem d_D_read_60 : decode c_D_read 60 = .ok (.iaload, 1) := by decide +kernel
theorem d_D_read_61 : decode c_D_read 61 = .ok (.iload_n 1, 1) := by decide +kernel
theorem d_D_read_62 : decode c_D_read 62 = .ok (.if_icmp .ne (17), 3) := by decide +kernel
theorem d_D_read_65 : decode c_D_read 65 = .ok (.aload_n 0, 1) := by decide +kernel
theorem d_D_read_66 : decode c_D_read 66 = .ok (.getfield 80, 3) := by decide +kernel
theorem d_D_read_69 : decode c_D_read 69 = .ok (.iload 4, 2) := by decide +kernel
theorem d_D_read_71 : decode c_D_read 71 = .ok (.iaload, 1) := by decide +kernel
theorem d_D_read_72 : decode c_D_read 72 = .ok (.ifCond .ne (7), 3) := by decide +kernel
theorem d_D_read_75 : decode c_D_read 75 = .ok (.iconst 1, 1) := by decide +kernel
theorem d_D_read_76 : decode c_D_read 76 = .ok (.goto (4), 3) := by decide +kernel
theorem d_D_read_79 : decode c_D_read 79 = .ok (.iconst 0, 1) := by decide +kernel
theorem d_D_read_80 : decode c_D_read 80 = .ok (.iadd, 1) := by decide +kernel
theorem d_D_read_81 : decode c_D_read 81 = .ok (.istore_n 3, 1) := by decide +kernel
theorem d_D_read_82 : decode c_D_read 82 = .ok (.iinc 4 (1), 3) := by decide +kernel
theorem d_D_read_85 : decode c_D_read 85 = .ok (.goto (-41), 3) := by decide +kernel
theorem d_D_read_88 : decode c_D_read 88 = .ok (.iload_n 3, 1) := by decide +kernel
theorem d_D_read_89 : decode c_D_read 89 = .ok (.iconst 4, 1) := by decide +kernel
theorem d_D_read_90 : decode c_D_read 90 = .ok (.if_icmp .eq (20), 3) := by decide +kernel
theorem d_D_read_93 : decode c_D_read 93 = .ok (.aload_n 0, 1) := by decide +kernel
theorem d_D_read_94 : decode c_D_read 94 = .ok (.getfield 136, 3) := by decide +kernel
theorem d_D_read_97 : decode c_D_read 97 = .ok (.bipush (60), 2) := by decide +kernel
theorem d_D_read_99 : decode c_D_read 99 = .ok (.if_icmp .eq (11), 3) := by decide +kernel
theorem d_D_read_102 : decode c_D_read 102 = .ok (.aload_n 0, 1) := by decide +kernel
theorem d_D_read_103 : decode c_D_read 103 = .ok (.iload_n 1, 1) := by decide +kernel
theorem d_D_read_104 : decode c_D_read 104 = .ok (.invokevirtual 194, 3) := by decide +kernel
theorem d_D_read_107 : decode c_D_read 107 = .ok (.ifCond .eq (9), 3) := by decide +kernel
theorem d_D_read_110 : decode c_D_read 110 = .ok (.aload_n 0, 1) := by decide +kernel
theorem d_D_read_111 : decode c_D_read 111 = .ok (.iconst 3, 1) := by decide +kernel
theorem d_D_read_112 : decode c_D_read 112 = .ok (.invokevirtual 191, 3) := by decide +kernel
theorem d_D_read_115 : decode c_D_read 115 = .ok (.ireturn, 1) := by decide +kernel
theorem d_D_read_116 : decode c_D_read 116 = .ok (.aload_n 0, 1) := by decide +kernel
theorem d_D_read_117 : decode c_D_read 117 = .ok (.getfield 68, 3) := by decide +kernel
theorem d_D_read_120 : decode c_D_read 120 = .ok (.iload_n 1, 1) := by decide +kernel
theorem d_D_read_121 : decode c_D_read 121 = .ok (.dup2, 1) := by decide +kernel
theorem d_D_read_122 : decode c_D_read 122 = .ok (.iaload, 1) := by decide +kernel
theorem d_D_read_123 : decode c_D_read 123 = .ok (.iconst 1, 1) := by decide +kernel
theorem d_D_read_124 : decode c_D_read 124 = .ok (.iadd, 1) := by decide +kernel
theorem d_D_read_125 : decode c_D_read 125 = .ok (.iastore, 1) := by decide +kernel
theorem d_D_read_126 : decode c_D_read 126 = .ok (.aload_n 0, 1) := by decide +kernel
theorem d_D_read_127 : decode c_D_read 127 = .ok (.getfield 136, 3) := by decide +kernel
theorem d_D_read_130 : decode c_D_read 130 = .ok (.istore 4, 2) := by decide +kernel
theorem d_D_read_132 : decode c_D_read 132 = .ok (.aload_n 0, 1) := by decide +kernel
theorem d_D_read_133 : decode c_D_read 133 = .ok (.getfield 71, 3) := by decide +kernel
theorem d_D_read_136 : decode c_D_read 136 = .ok (.iload 4, 2) := by decide +kernel
theorem d_D_read_138 : decode c_D_read 138 = .ok (.iload_n 1, 1) := by decide +kernel
theorem d_D_read_139 : decode c_D_read 139 = .ok (.iastore, 1) := by decide +kernel
theorem d_D_read_140 : decode c_D_read 140 = .ok (.aload_n 0, 1) := by decide +kernel
theorem d_D_read_141 : decode c_D_read 141 = .ok (.getfield 74, 3) := by decide +kernel
theorem d_D_read_144 : decode c_D_read 144 = .ok (.iload 4, 2) := by decide +kernel
theorem d_D_read_146 : decode c_D_read 146 = .ok (.iload_n 2, 1) := by decide +kernel
theorem d_D_read_147 : decode c_D_read 147 = .ok (.iastore, 1) := by decide +kernel
theorem d_D_read_148 : decode c_D_read 148 = .ok (.aload_n 0, 1) := by decide +kernel
theorem d_D_read_149 : decode c_D_read 149 = .ok (.getfield 77, 3) := by decide +kernel
theorem d_D_read_152 : decode c_D_read 152 = .ok (.iload 4, 2) := by decide +kernel
theorem d_D_read_154 : decode c_D_read 154 = .ok (.aload_n 0, 1) := by decide +kernel
theorem d_D_read_155 : decode c_D_read 155 = .ok (.getfield 68, 3) := by decide +kernel
theorem d_D_read_158 : decode c_D_read 158 = .ok (.iload_n 1, 1) := by decide +kernel
theorem d_D_read_159 : decode c_D_read 159 = .ok (.iaload, 1) := by decide +kernel
theorem d_D_read_160 : decode c_D_read 160 = .ok (.iastore, 1) := by decide +kernel
theorem d_D_read_161 : decode c_D_read 161 = .ok (.aload_n 0, 1) := by decide +kernel
theorem d_D_read_162 : decode c_D_read 162 = .ok (.dup, 1) := by decide +kernel
theorem d_D_read_163 : decode c_D_read 163 = .ok (.getfield 136, 3) := by decide +kernel
theorem d_D_read_166 : decode c_D_read 166 = .ok (.iconst 1, 1) := by decide +kernel
theorem d_D_read_167 : decode c_D_read 167 = .ok (.iadd, 1) := by decide +kernel
theorem d_D_read_168 : decode c_D_read 168 = .ok (.putfield 136, 3) := by decide +kernel
theorem d_D_read_171 : decode c_D_read 171 = .ok (.aload_n 0, 1) := by decide +kernel
theorem d_D_read_172 : decode c_D_read 172 = .ok (.iload_n 1, 1) := by decide +kernel
theorem d_D_read_173 : decode c_D_read 173 = .ok (.invokevirtual 175, 3) := by decide +kernel
theorem d_D_read_176 : decode c_D_read 176 = .ok (.aload_n 0, 1) := by decide +kernel
theorem d_D_read_177 : decode c_D_read 177 = .ok (.iload_n 1, 1) := by decide +kernel
theorem d_D_read_178 : decode c_D_read 178 = .ok (.invokevirtual 197, 3) := by decide +kernel
theorem d_D_read_181 : decode c_D_read 181 = .ok (.iload 4, 2) := by decide +kernel
theorem d_D_read_183 : decode c_D_read 183 = .ok (.ireturn, 1) := by decide +kernel
theorem d_D_lookAtReads_0 : decode c_D_lookAtReads 0 = .ok (.iconst 0, 1) := by decide +kernel
theorem d_D_lookAtReads_1 : decode c_D_lookAtReads 1 = .ok (.istore_n 2, 1) := by decide +kernel
theorem d_D_lookAtReads_2 : decode c_D_lookAtReads 2 = .ok (.iload_n 2, 1) := by decide +kernel
theorem d_D_lookAtReads_3 : decode c_D_lookAtReads 3 = .ok (.aload_n 0, 1) := by decide +kernel
theorem d_D_lookAtReads_4 : decode c_D_lookAtReads 4 = .ok (.getfield 136, 3) := by decide +kernel
theorem d_D_lookAtReads_7 : decode c_D_lookAtReads 7 = .ok (.if_icmp .ge (123), 3) := by decide +kernel
theorem d_D_lookAtReads_10 : decode c_D_lookAtReads 10 = .ok (.aload_n 0, 1) := by decide +kernel
theorem d_D_lookAtReads_11 : decode c_D_lookAtReads 11 = .ok (.getfield 71, 3) := by decide +kernel
theorem d_D_lookAtReads_14 : decode c_D_lookAtReads 14 = .ok (.iload_n 2, 1) := by decide +kernel
theorem d_D_lookAtReads_15 : decode c_D_lookAtReads 15 = .ok (.iaload, 1) := by decide +kernel
theorem d_D_lookAtReads_16 : decode c_D_lookAtReads 16 = .ok (.iload_n 1, 1) := by decide +kernel
theorem d_D_lookAtReads_17 : decode c_D_lookAtReads 17 = .ok (.if_icmp .ne (107), 3) := by decide +kernel
theorem d_D_lookAtReads_20 : decode c_D_lookAtReads 20 = .ok (.aload_n 0, 1) := by decide +kernel
theorem d_D_lookAtReads_21 : decode c_D_lookAtReads 21 = .ok (.getfield 80, 3) := by decide +kernel
theorem d_D_lookAtReads_24 : decode c_D_lookAtReads 24 = .ok (.iload_n 2, 1) := by decide +kernel
theorem d_D_lookAtReads_25 : decode c_D_lookAtReads 25 = .ok (.iaload, 1) := by decide +kernel
theorem d_D_lookAtReads_26 : decode c_D_lookAtReads 26 = .ok (.ifCond .eq (6), 3) := by decide +kernel
theorem d_D_lookAtReads_29 : decode c_D_lookAtReads 29 = .ok (.goto (95), 3) := by decide +kernel
theorem d_D_lookAtReads_32 : decode c_D_lookAtReads 32 = .ok (.iconst 1, 1) := by decide +kernel
theorem d_D_lookAtReads_33 : decode c_D_lookAtReads 33 = .ok (.iload_n 1, 1) := by decide +kernel
theorem d_D_lookAtReads_34 : decode c_D_lookAtReads 34 = .ok (.ishl, 1) := by decide +kernel
theorem d_D_lookAtReads_35 : decode c_D_lookAtReads 35 = .ok (.istore_n 3, 1) := by decide +kernel
theorem d_D_lookAtReads_36 : decode c_D_lookAtReads 36 = .ok (.iconst 0, 1) := by decide +kernel
theorem d_D_lookAtReads_37 : decode c_D_lookAtReads 37 = .ok (.istore 4, 2) := by decide +kernel
theorem d_D_lookAtReads_39 : decode c_D_lookAtReads 39 = .ok (.iload 4, 2) := by decide +kernel
theorem d_D_lookAtReads_41 : decode c_D_lookAtReads 41 = .ok (.iconst 5, 1) := by decide +kernel
theorem d_D_lookAtReads_42 : decode c_D_lookAtReads 42 = .ok (.if_icmp .ge (40), 3) := by decide +kernel
theorem d_D_lookAtReads_45 : decode c_D_lookAtReads 45 = .ok (.iload_n 3, 1) := by decide +kernel
theorem d_D_lookAtReads_46 : decode c_D_lookAtReads 46 = .ok (.aload_n 0, 1) := by decide +kernel
theorem d_D_lookAtReads_47 : decode c_D_lookAtReads 47 = .ok (.getfield 65, 3) := by decide +kernel
theorem d_D_lookAtReads_50 : decode c_D_lookAtReads 50 = .ok (.iconst 5, 1) := by decide +kernel
theorem d_D_lookAtReads_51 : decode c_D_lookAtReads 51 = .ok (.iload_n 1, 1) := by decide +kernel
theorem d_D_lookAtReads_52 : decode c_D_lookAtReads 52 = .ok (.imul, 1) := by decide +kernel
theorem d_D_lookAtReads_53 : decode c_D_lookAtReads 53 = .ok (.iload 4, 2) := by decide +kernel
theorem d_D_lookAtReads_55 : decode c_D_lookAtReads 55 = .ok (.iadd, 1) := by decide +kernel
theorem d_D_lookAtReads_56 : decode c_D_lookAtReads 56 = .ok (.iaload, 1) := by decide +kernel
theorem d_D_lookAtReads_57 : decode c_D_lookAtReads 57 = .ok (.aload_n 0, 1) := by decide +kernel
theorem d_D_lookAtReads_58 : decode c_D_lookAtReads 58 = .ok (.getfield 77, 3) := by decide +kernel
theorem d_D_lookAtReads_61 : decode c_D_lookAtReads 61 = .ok (.iload_n 2, 1) := by decide +kernel
theorem d_D_lookAtReads_62 : decode c_D_lookAtReads 62 = .ok (.iaload, 1) := by decide +kernel
theorem d_D_lookAtReads_63 : decode c_D_lookAtReads 63 = .ok (.if_icmp .lt (10), 3) := by decide +kernel
theorem d_D_lookAtReads_66 : decode c_D_lookAtReads 66 = .ok (.iconst 1, 1) := by decide +kernel
theorem d_D_lookAtReads_67 : decode c_D_lookAtReads 67 = .ok (.iload 4, 2) := by decide +kernel
theorem d_D_lookAtReads_69 : decode c_D_lookAtReads 69 = .ok (.ishl, 1) := by decide +kernel
theorem d_D_lookAtReads_70 : decode c_D_lookAtReads 70 = .ok (.goto (4), 3) := by decide +kernel
theorem d_D_lookAtReads_73 : decode c_D_lookAtReads 73 = .ok (.iconst 0, 1) := by decide +kernel
theorem d_D_lookAtReads_74 : decode c_D_lookAtReads 74 = .ok (.ior, 1) := by decide +kernel
theorem d_D_lookAtReads_75 : decode c_D_lookAtReads 75 = .ok (.istore_n 3, 1) := by decide +kernel
theorem d_D_lookAtReads_76 : decode c_D_lookAtReads 76 = .ok (.iinc 4 (1), 3) := by decide +kernel
theorem d_D_lookAtReads_79 : decode c_D_lookAtReads 79 = .ok (.goto (-40), 3) := by decide +kernel
theorem d_D_lookAtReads_82 : decode c_D_lookAtReads 82 = .ok (.aload_n 0, 1) := by decide +kernel
theorem d_D_lookAtReads_83 : decode c_D_lookAtReads 83 = .ok (.iload_n 1, 1) := by decide +kernel
theorem d_D_lookAtReads_84 : decode c_D_lookAtReads 84 = .ok (.iload_n 3, 1) := by decide +kernel
theorem d_D_lookAtReads_85 : decode c_D_lookAtReads 85 = .ok (.invokevirtual 157, 3) := by decide +kernel
theorem d_D_lookAtReads_88 : decode c_D_lookAtReads 88 = .ok (.ifCond .ne (6), 3) := by decide +kernel
theorem d_D_lookAtReads_91 : decode c_D_lookAtReads 91 = .ok (.goto (33), 3) := by decide +kernel
theorem d_D_lookAtReads_94 : decode c_D_lookAtReads 94 = .ok (.aload_n 0, 1) := by decide +kernel
theorem d_D_lookAtReads_95 : decode c_D_lookAtReads 95 = .ok (.getfield 80, 3) := by decide +kernel
theorem d_D_lookAtReads_98 : decode c_D_lookAtReads 98 = .ok (.iload_n 2, 1) := by decide +kernel
theorem d_D_lookAtReads_99 : decode c_D_lookAtReads 99 = .ok (.iconst 1, 1) := by decide +kernel
theorem d_D_lookAtReads_100 : decode c_D_lookAtReads 100 = .ok (.iastore, 1) := by decide +kernel
theorem d_D_lookAtReads_101 : decode c_D_lookAtReads 101 = .ok (.aload_n 0, 1) := by decide +kernel
theorem d_D_lookAtReads_102 : decode c_D_lookAtReads 102 = .ok (.getfield 83, 3) := by decide +kernel
theorem d_D_lookAtReads_105 : decode c_D_lookAtReads 105 = .ok (.iload_n 2, 1) := by decide +kernel
theorem d_D_lookAtReads_106 : decode c_D_lookAtReads 106 = .ok (.aload_n 0, 1) := by decide +kernel
theorem d_D_lookAtReads_107 : decode c_D_lookAtReads 107 = .ok (.iload_n 1, 1) := by decide +kernel
theorem d_D_lookAtReads_108 : decode c_D_lookAtReads 108 = .ok (.aload_n 0, 1) := by decide +kernel
theorem d_D_lookAtReads_109 : decode c_D_lookAtReads 109 = .ok (.getfield 74, 3) := by decide +kernel
theorem d_D_lookAtReads_112 : decode c_D_lookAtReads 112 = .ok (.iload_n 2, 1) := by decide +kernel
theorem d_D_lookAtReads_113 : decode c_D_lookAtReads 113 = .ok (.iaload, 1) := by decide +kernel
theorem d_D_lookAtReads_114 : decode c_D_lookAtReads 114 = .ok (.aload_n 0, 1) := by decide +kernel
theorem d_D_lookAtReads_115 : decode c_D_lookAtReads 115 = .ok (.getfield 50, 3) := by decide +kernel
theorem d_D_lookAtReads_118 : decode c_D_lookAtReads 118 = .ok (.iload_n 1, 1) := by decide +kernel
theorem d_D_lookAtReads_119 : decode c_D_lookAtReads 119 = .ok (.iaload, 1) := by decide +kernel
theorem d_D_lookAtReads_120 : decode c_D_lookAtReads 120 = .ok (.invokevirtual 181, 3) := by decide +kernel
theorem d_D_lookAtReads_123 : decode c_D_lookAtReads 123 = .ok (.iastore, 1) := by decide +kernel
theorem d_D_lookAtReads_124 : decode c_D_lookAtReads 124 = .ok (.iinc 2 (1), 3) := by decide +kernel
theorem d_D_lookAtReads_127 : decode c_D_lookAtReads 127 = .ok (.goto (-125), 3) := by decide +kernel
theorem d_D_lookAtReads_130 : decode c_D_lookAtReads 130 = .ok (.return_, 1) := by decide +kernel
theorem d_D_valueAt_0 : decode c_D_valueAt 0 = .ok (.aload_n 0, 1) := by decide +kernel
theorem d_D_valueAt_1 : decode c_D_valueAt 1 = .ok (.getfield 29, 3) := by decide +kernel
theorem d_D_valueAt_4 : decode c_D_valueAt 4 = .ok (.iconst 4, 1) := by decide +kernel
theorem d_D_valueAt_5 : decode c_D_valueAt 5 = .ok (.iload_n 1, 1) := by decide +kernel
theorem d_D_valueAt_6 : decode c_D_valueAt 6 = .ok (.imul, 1) := by decide +kernel
theorem d_D_valueAt_7 : decode c_D_valueAt 7 = .ok (.iload_n 2, 1) := by decide +kernel
theorem d_D_valueAt_8 : decode c_D_valueAt 8 = .ok (.iadd, 1) := by decide +kernel
theorem d_D_valueAt_9 : decode c_D_valueAt 9 = .ok (.iaload, 1) := by decide +kernel
theorem d_D_valueAt_10 : decode c_D_valueAt 10 = .ok (.istore 4, 2) := by decide +kernel
theorem d_D_valueAt_12 : decode c_D_valueAt 12 = .ok (.aload_n 0, 1) := by decide +kernel
theorem d_D_valueAt_13 : decode c_D_valueAt 13 = .ok (.getfield 20, 3) := by decide +kernel
theorem d_D_valueAt_16 : decode c_D_valueAt 16 = .ok (.iload_n 1, 1) := by decide +kernel
theorem d_D_valueAt_17 : decode c_D_valueAt 17 = .ok (.iaload, 1) := by decide +kernel
theorem d_D_valueAt_18 : decode c_D_valueAt 18 = .ok (.iconst 1, 1) := by decide +kernel
theorem d_D_valueAt_19 : decode c_D_valueAt 19 = .ok (.iadd, 1) := by decide +kernel
theorem d_D_valueAt_20 : decode c_D_valueAt 20 = .ok (.istore 5, 2) := by decide +kernel
theorem d_D_valueAt_22 : decode c_D_valueAt 22 = .ok (.iload 5, 2) := by decide +kernel
theorem d_D_valueAt_24 : decode c_D_valueAt 24 = .ok (.iload_n 3, 1) := by decide +kernel
theorem d_D_valueAt_25 : decode c_D_valueAt 25 = .ok (.if_icmp .gt (49), 3) := by decide +kernel
theorem d_D_valueAt_28 : decode c_D_valueAt 28 = .ok (.aload_n 0, 1) := by decide +kernel
theorem d_D_valueAt_29 : decode c_D_valueAt 29 = .ok (.iload_n 1, 1) := by decide +kernel
theorem d_D_valueAt_30 : decode c_D_valueAt 30 = .ok (.iload 5, 2) := by decide +kernel
theorem d_D_valueAt_32 : decode c_D_valueAt 32 = .ok (.invokevirtual 100, 3) := by decide +kernel
theorem d_D_valueAt_35 : decode c_D_valueAt 35 = .ok (.istore 6, 2) := by decide +kernel
theorem d_D_valueAt_37 : decode c_D_valueAt 37 = .ok (.aload_n 0, 1) := by decide +kernel
theorem d_D_valueAt_38 : decode c_D_valueAt 38 = .ok (.getfield 38, 3) := by decide +kernel
theorem d_D_valueAt_41 : decode c_D_valueAt 41 = .ok (.iload 6, 2) := by decide +kernel
theorem d_D_valueAt_43 : decode c_D_valueAt 43 = .ok (.iaload, 1) := by decide +kernel
theorem d_D_valueAt_44 : decode c_D_valueAt 44 = .ok (.iconst 1, 1) := by decide +kernel
theorem d_D_valueAt_45 : decode c_D_valueAt 45 = .ok (.if_icmp .ne (23), 3) := by decide +kernel
theorem d_D_valueAt_48 : decode c_D_valueAt 48 = .ok (.aload_n 0, 1) := by decide +kernel
theorem d_D_valueAt_49 : decode c_D_valueAt 49 = .ok (.getfield 41, 3) := by decide +kernel
theorem d_D_valueAt_52 : decode c_D_valueAt 52 = .ok (.iload 6, 2) := by decide +kernel
theorem d_D_valueAt_54 : decode c_D_valueAt 54 = .ok (.iaload, 1) := by decide +kernel
theorem d_D_valueAt_55 : decode c_D_valueAt 55 = .ok (.iload_n 2, 1) := by decide +kernel
theorem d_D_valueAt_56 : decode c_D_valueAt 56 = .ok (.if_icmp .ne (12), 3) := by decide +kernel
theorem d_D_valueAt_59 : decode c_D_valueAt 59 = .ok (.aload_n 0, 1) := by decide +kernel
theorem d_D_valueAt_60 : decode c_D_valueAt 60 = .ok (.getfield 44, 3) := by decide +kernel
theorem d_D_valueAt_63 : decode c_D_valueAt 63 = .ok (.iload 6, 2) := by decide +kernel
theorem d_D_valueAt_65 : decode c_D_valueAt 65 = .ok (.iaload, 1) := by decide +kernel
theorem d_D_valueAt_66 : decode c_D_valueAt 66 = .ok (.istore 4, 2) := by decide +kernel
theorem d_D_valueAt_68 : decode c_D_valueAt 68 = .ok (.iinc 5 (1), 3) := by decide +kernel
theorem d_D_valueAt_71 : decode c_D_valueAt 71 = .ok (.goto (-49), 3) := by decide +kernel
theorem d_D_valueAt_74 : decode c_D_valueAt 74 = .ok (.iload 4, 2) := by decide +kernel
theorem d_D_valueAt_76 : decode c_D_valueAt 76 = .ok (.ireturn, 1) := by decide +kernel
theorem d_D_outcome_0 : decode c_D_outcome 0 = .ok (.aload_n 0, 1) := by decide +kernel
theorem d_D_outcome_1 : decode c_D_outcome 1 = .ok (.iconst 0, 1) := by decide +kernel
theorem d_D_outcome_2 : decode c_D_outcome 2 = .ok (.putfield 92, 3) := by decide +kernel
theorem d_D_outcome_5 : decode c_D_outcome 5 = .ok (.iload_n 1, 1) := by decide +kernel
theorem d_D_outcome_6 : decode c_D_outcome 6 = .ok (.ifCond .lt (20), 3) := by decide +kernel
theorem d_D_outcome_9 : decode c_D_outcome 9 = .ok (.iload_n 1, 1) := by decide +kernel
theorem d_D_outcome_10 : decode c_D_outcome 10 = .ok (.aload_n 0, 1) := by decide +kernel
theorem d_D_outcome_11 : decode c_D_outcome 11 = .ok (.getfield 136, 3) := by decide +kernel
theorem d_D_outcome_14 : decode c_D_outcome 14 = .ok (.if_icmp .ge (12), 3) := by decide +kernel
theorem d_D_outcome_17 : decode c_D_outcome 17 = .ok (.aload_n 0, 1) := by decide +kernel
theorem d_D_outcome_18 : decode c_D_outcome 18 = .ok (.getfield 80, 3) := by decide +kernel
theorem d_D_outcome_21 : decode c_D_outcome 21 = .ok (.iload_n 1, 1) := by decide +kernel
theorem d_D_outcome_22 : decode c_D_outcome 22 = .ok (.iaload, 1) := by decide +kernel
theorem d_D_outcome_23 : decode c_D_outcome 23 = .ok (.goto (4), 3) := by decide +kernel
theorem d_D_outcome_26 : decode c_D_outcome 26 = .ok (.iconst (-1), 1) := by decide +kernel
theorem d_D_outcome_27 : decode c_D_outcome 27 = .ok (.ireturn, 1) := by decide +kernel
theorem d_D_value_0 : decode c_D_value 0 = .ok (.aload_n 0, 1) := by decide +kernel
theorem d_D_value_1 : decode c_D_value 1 = .ok (.iconst 0, 1) := by decide +kernel
theorem d_D_value_2 : decode c_D_value 2 = .ok (.putfield 92, 3) := by decide +kernel
theorem d_D_value_5 : decode c_D_value 5 = .ok (.iload_n 1, 1) := by decide +kernel
theorem d_D_value_6 : decode c_D_value 6 = .ok (.ifCond .lt (20), 3) := by decide +kernel
theorem d_D_value_9 : decode c_D_value 9 = .ok (.iload_n 1, 1) := by decide +kernel
theorem d_D_value_10 : decode c_D_value 10 = .ok (.aload_n 0, 1) := by decide +kernel
theorem d_D_value_11 : decode c_D_value 11 = .ok (.getfield 136, 3) := by decide +kernel
theorem d_D_value_14 : decode c_D_value 14 = .ok (.if_icmp .ge (12), 3) := by decide +kernel
theorem d_D_value_17 : decode c_D_value 17 = .ok (.aload_n 0, 1) := by decide +kernel
theorem d_D_value_18 : decode c_D_value 18 = .ok (.getfield 83, 3) := by decide +kernel
theorem d_D_value_21 : decode c_D_value 21 = .ok (.iload_n 1, 1) := by decide +kernel
theorem d_D_value_22 : decode c_D_value 22 = .ok (.iaload, 1) := by decide +kernel
theorem d_D_value_23 : decode c_D_value 23 = .ok (.goto (4), 3) := by decide +kernel
theorem d_D_value_26 : decode c_D_value 26 = .ok (.iconst 0, 1) := by decide +kernel
theorem d_D_value_27 : decode c_D_value 27 = .ok (.ireturn, 1) := by decide +kernel
theorem d_D_compact_0 : decode c_D_compact 0 = .ok (.aload_n 0, 1) := by decide +kernel
theorem d_D_compact_1 : decode c_D_compact 1 = .ok (.iconst 0, 1) := by decide +kernel
theorem d_D_compact_2 : decode c_D_compact 2 = .ok (.putfield 92, 3) := by decide +kernel
theorem d_D_compact_5 : decode c_D_compact 5 = .ok (.iload_n 1, 1) := by decide +kernel
theorem d_D_compact_6 : decode c_D_compact 6 = .ok (.invokestatic 143, 3) := by decide +kernel
theorem d_D_compact_9 : decode c_D_compact 9 = .ok (.ifCond .eq (27), 3) := by decide +kernel
theorem d_D_compact_12 : decode c_D_compact 12 = .ok (.aload_n 0, 1) := by decide +kernel
theorem d_D_compact_13 : decode c_D_compact 13 = .ok (.getfield 7, 3) := by decide +kernel
theorem d_D_compact_16 : decode c_D_compact 16 = .ok (.iload_n 1, 1) := by decide +kernel
theorem d_D_compact_17 : decode c_D_compact 17 = .ok (.baload, 1) := by decide +kernel
theorem d_D_compact_18 : decode c_D_compact 18 = .ok (.ifCond .ne (18), 3) := by decide +kernel
theorem d_D_compact_21 : decode c_D_compact 21 = .ok (.aload_n 0, 1) := by decide +kernel
theorem d_D_compact_22 : decode c_D_compact 22 = .ok (.getfield 50, 3) := by decide +kernel
theorem d_D_compact_25 : decode c_D_compact 25 = .ok (.iload_n 1, 1) := by decide +kernel
theorem d_D_compact_26 : decode c_D_compact 26 = .ok (.iaload, 1) := by decide +kernel
theorem d_D_compact_27 : decode c_D_compact 27 = .ok (.aload_n 0, 1) := by decide +kernel
theorem d_D_compact_28 : decode c_D_compact 28 = .ok (.getfield 20, 3) := by decide +kernel
theorem d_D_compact_31 : decode c_D_compact 31 = .ok (.iload_n 1, 1) := by decide +kernel
theorem d_D_compact_32 : decode c_D_compact 32 = .ok (.iaload, 1) := by decide +kernel
theorem d_D_compact_33 : decode c_D_compact 33 = .ok (.if_icmp .ne (5), 3) := by decide +kernel
theorem d_D_compact_36 : decode c_D_compact 36 = .ok (.iconst 0, 1) := by decide +kernel
theorem d_D_compact_37 : decode c_D_compact 37 = .ok (.ireturn, 1) := by decide +kernel
theorem d_D_compact_38 : decode c_D_compact 38 = .ok (.aload_n 0, 1) := by decide +kernel
theorem d_D_compact_39 : decode c_D_compact 39 = .ok (.getfield 50, 3) := by decide +kernel
theorem d_D_compact_42 : decode c_D_compact 42 = .ok (.iload_n 1, 1) := by decide +kernel
theorem d_D_compact_43 : decode c_D_compact 43 = .ok (.iaload, 1) := by decide +kernel
theorem d_D_compact_44 : decode c_D_compact 44 = .ok (.istore_n 2, 1) := by decide +kernel
theorem d_D_compact_45 : decode c_D_compact 45 = .ok (.aload_n 0, 1) := by decide +kernel
theorem d_D_compact_46 : decode c_D_compact 46 = .ok (.iload_n 1, 1) := by decide +kernel
theorem d_D_compact_47 : decode c_D_compact 47 = .ok (.iload_n 2, 1) := by decide +kernel
theorem d_D_compact_48 : decode c_D_compact 48 = .ok (.invokevirtual 104, 3) := by decide +kernel
theorem d_D_compact_51 : decode c_D_compact 51 = .ok (.istore_n 3, 1) := by decide +kernel
theorem d_D_compact_52 : decode c_D_compact 52 = .ok (.aload_n 0, 1) := by decide +kernel
theorem d_D_compact_53 : decode c_D_compact 53 = .ok (.iload_n 1, 1) := by decide +kernel
theorem d_D_compact_54 : decode c_D_compact 54 = .ok (.iload_n 2, 1) := by decide +kernel
theorem d_D_compact_55 : decode c_D_compact 55 = .ok (.invokevirtual 110, 3) := by decide +kernel
theorem d_D_compact_58 : decode c_D_compact 58 = .ok (.istore 4, 2) := by decide +kernel
theorem d_D_compact_60 : decode c_D_compact 60 = .ok (.iconst 0, 1) := by decide +kernel
theorem d_D_compact_61 : decode c_D_compact 61 = .ok (.istore 5, 2) := by decide +kernel
theorem d_D_compact_63 : decode c_D_compact 63 = .ok (.iload 5, 2) := by decide +kernel
theorem d_D_compact_65 : decode c_D_compact 65 = .ok (.iconst 4, 1) := by decide +kernel
theorem d_D_compact_66 : decode c_D_compact 66 = .ok (.if_icmp .ge (32), 3) := by decide +kernel
theorem d_D_compact_69 : decode c_D_compact 69 = .ok (.aload_n 0, 1) := by decide +kernel
theorem d_D_compact_70 : decode c_D_compact 70 = .ok (.iload_n 1, 1) := by decide +kernel
theorem d_D_compact_71 : decode c_D_compact 71 = .ok (.iload 5, 2) := by decide +kernel
theorem d_D_compact_73 : decode c_D_compact 73 = .ok (.iload_n 2, 1) := by decide +kernel
theorem d_D_compact_74 : decode c_D_compact 74 = .ok (.invokevirtual 181, 3) := by decide +kernel
theorem d_D_compact_77 : decode c_D_compact 77 = .ok (.istore 6, 2) := by decide +kernel
theorem d_D_compact_79 : decode c_D_compact 79 = .ok (.aload_n 0, 1) := by decide +kernel
theorem d_D_compact_80 : decode c_D_compact 80 = .ok (.getfield 29, 3) := by decide +kernel
theorem d_D_compact_83 : decode c_D_compact 83 = .ok (.iconst 4, 1) := by decide +kernel
theorem d_D_compact_84 : decode c_D_compact 84 = .ok (.iload_n 1, 1) := by decide +kernel
theorem d_D_compact_85 : decode c_D_compact 85 = .ok (.imul, 1) := by decide +kernel
theorem d_D_compact_86 : decode c_D_compact 86 = .ok (.iload 5, 2) := by decide +kernel
theorem d_D_compact_88 : decode c_D_compact 88 = .ok (.iadd, 1) := by decide +kernel
theorem d_D_compact_89 : decode c_D_compact 89 = .ok (.iload 6, 2) := by decide +kernel
theorem d_D_compact_91 : decode c_D_compact 91 = .ok (.iastore, 1) := by decide +kernel
theorem d_D_compact_92 : decode c_D_compact 92 = .ok (.iinc 5 (1), 3) := by decide +kernel
theorem d_D_compact_95 : decode c_D_compact 95 = .ok (.goto (-32), 3) := by decide +kernel
theorem d_D_compact_98 : decode c_D_compact 98 = .ok (.aload_n 0, 1) := by decide +kernel
theorem d_D_compact_99 : decode c_D_compact 99 = .ok (.iload_n 1, 1) := by decide +kernel
theorem d_D_compact_100 : decode c_D_compact 100 = .ok (.iload_n 2, 1) := by decide +kernel
theorem d_D_compact_101 : decode c_D_compact 101 = .ok (.invokevirtual 200, 3) := by decide +kernel
theorem d_D_compact_104 : decode c_D_compact 104 = .ok (.aload_n 0, 1) := by decide +kernel
theorem d_D_compact_105 : decode c_D_compact 105 = .ok (.getfield 20, 3) := by decide +kernel
theorem d_D_compact_108 : decode c_D_compact 108 = .ok (.iload_n 1, 1) := by decide +kernel
theorem d_D_compact_109 : decode c_D_compact 109 = .ok (.iload_n 2, 1) := by decide +kernel
theorem d_D_compact_110 : decode c_D_compact 110 = .ok (.iastore, 1) := by decide +kernel
theorem d_D_compact_111 : decode c_D_compact 111 = .ok (.aload_n 0, 1) := by decide +kernel
theorem d_D_compact_112 : decode c_D_compact 112 = .ok (.getfield 23, 3) := by decide +kernel
theorem d_D_compact_115 : decode c_D_compact 115 = .ok (.iload_n 1, 1) := by decide +kernel
theorem d_D_compact_116 : decode c_D_compact 116 = .ok (.iload_n 3, 1) := by decide +kernel
theorem d_D_compact_117 : decode c_D_compact 117 = .ok (.iastore, 1) := by decide +kernel
theorem d_D_compact_118 : decode c_D_compact 118 = .ok (.aload_n 0, 1) := by decide +kernel
theorem d_D_compact_119 : decode c_D_compact 119 = .ok (.getfield 26, 3) := by decide +kernel
theorem d_D_compact_122 : decode c_D_compact 122 = .ok (.iload_n 1, 1) := by decide +kernel
theorem d_D_compact_123 : decode c_D_compact 123 = .ok (.iload 4, 2) := by decide +kernel
theorem d_D_compact_125 : decode c_D_compact 125 = .ok (.iastore, 1) := by decide +kernel
theorem d_D_compact_126 : decode c_D_compact 126 = .ok (.iconst 1, 1) := by decide +kernel
theorem d_D_compact_127 : decode c_D_compact 127 = .ok (.ireturn, 1) := by decide +kernel
theorem d_D_shift_0 : decode c_D_shift 0 = .ok (.iload_n 2, 1) := by decide +kernel
theorem d_D_shift_1 : decode c_D_shift 1 = .ok (.aload_n 0, 1) := by decide +kernel
theorem d_D_shift_2 : decode c_D_shift 2 = .ok (.getfield 20, 3) := by decide +kernel
theorem d_D_shift_5 : decode c_D_shift 5 = .ok (.iload_n 1, 1) := by decide +kernel
theorem d_D_shift_6 : decode c_D_shift 6 = .ok (.iaload, 1) := by decide +kernel
theorem d_D_shift_7 : decode c_D_shift 7 = .ok (.isub, 1) := by decide +kernel
theorem d_D_shift_8 : decode c_D_shift 8 = .ok (.istore_n 3, 1) := by decide +kernel
theorem d_D_shift_9 : decode c_D_shift 9 = .ok (.aload_n 0, 1) := by decide +kernel
theorem d_D_shift_10 : decode c_D_shift 10 = .ok (.getfield 32, 3) := by decide +kernel
theorem d_D_shift_13 : decode c_D_shift 13 = .ok (.iload_n 1, 1) := by decide +kernel
theorem d_D_shift_14 : decode c_D_shift 14 = .ok (.iaload, 1) := by decide +kernel
theorem d_D_shift_15 : decode c_D_shift 15 = .ok (.iload_n 3, 1) := by decide +kernel
theorem d_D_shift_16 : decode c_D_shift 16 = .ok (.isub, 1) := by decide +kernel
theorem d_D_shift_17 : decode c_D_shift 17 = .ok (.istore 4, 2) := by decide +kernel
theorem d_D_shift_19 : decode c_D_shift 19 = .ok (.bipush (48), 2) := by decide +kernel
theorem d_D_shift_21 : decode c_D_shift 21 = .ok (.iload_n 1, 1) := by decide +kernel
theorem d_D_shift_22 : decode c_D_shift 22 = .ok (.imul, 1) := by decide +kernel
theorem d_D_shift_23 : decode c_D_shift 23 = .ok (.istore 5, 2) := by decide +kernel
theorem d_D_shift_25 : decode c_D_shift 25 = .ok (.iload 5, 2) := by decide +kernel
theorem d_D_shift_27 : decode c_D_shift 27 = .ok (.bipush (48), 2) := by decide +kernel
theorem d_D_shift_29 : decode c_D_shift 29 = .ok (.iload_n 1, 1) := by decide +kernel
theorem d_D_shift_30 : decode c_D_shift 30 = .ok (.imul, 1) := by decide +kernel
theorem d_D_shift_31 : decode c_D_shift 31 = .ok (.iload 4, 2) := by decide +kernel
theorem d_D_shift_33 : decode c_D_shift 33 = .ok (.iadd, 1) := by decide +kernel
theorem d_D_shift_34 : decode c_D_shift 34 = .ok (.if_icmp .ge (73), 3) := by decide +kernel
theorem d_D_shift_37 : decode c_D_shift 37 = .ok (.aload_n 0, 1) := by decide +kernel
theorem d_D_shift_38 : decode c_D_shift 38 = .ok (.getfield 35, 3) := by decide +kernel
theorem d_D_shift_41 : decode c_D_shift 41 = .ok (.iload 5, 2) := by decide +kernel
theorem d_D_shift_43 : decode c_D_shift 43 = .ok (.aload_n 0, 1) := by decide +kernel
theorem d_D_shift_44 : decode c_D_shift 44 = .ok (.getfield 35, 3) := by decide +kernel
theorem d_D_shift_47 : decode c_D_shift 47 = .ok (.iload 5, 2) := by decide +kernel
theorem d_D_shift_49 : decode c_D_shift 49 = .ok (.iload_n 3, 1) := by decide +kernel
theorem d_D_shift_50 : decode c_D_shift 50 = .ok (.iadd, 1) := by decide +kernel
theorem d_D_shift_51 : decode c_D_shift 51 = .ok (.iaload, 1) := by decide +kernel
theorem d_D_shift_52 : decode c_D_shift 52 = .ok (.iastore, 1) := by decide +kernel
theorem d_D_shift_53 : decode c_D_shift 53 = .ok (.aload_n 0, 1) := by decide +kernel
theorem d_D_shift_54 : decode c_D_shift 54 = .ok (.getfield 38, 3) := by decide +kernel
theorem d_D_shift_57 : decode c_D_shift 57 = .ok (.iload 5, 2) := by decide +kernel
theorem d_D_shift_59 : decode c_D_shift 59 = .ok (.aload_n 0, 1) := by decide +kernel
theorem d_D_shift_60 : decode c_D_shift 60 = .ok (.getfield 38, 3) := by decide +kernel
theorem d_D_shift_63 : decode c_D_shift 63 = .ok (.iload 5, 2) := by decide +kernel
theorem d_D_shift_65 : decode c_D_shift 65 = .ok (.iload_n 3, 1) := by decide +kernel
theorem d_D_shift_66 : decode c_D_shift 66 = .ok (.iadd, 1) := by decide +kernel
theorem d_D_shift_67 : decode c_D_shift 67 = .ok (.iaload, 1) := by decide +kernel
theorem d_D_shift_68 : decode c_D_shift 68 = .ok (.iastore, 1) := by decide +kernel
theorem d_D_shift_69 : decode c_D_shift 69 = .ok (.aload_n 0, 1) := by decide +kernel
theorem d_D_shift_70 : decode c_D_shift 70 = .ok (.getfield 41, 3) := by decide +kernel
theorem d_D_shift_73 : decode c_D_shift 73 = .ok (.iload 5, 2) := by decide +kernel
theorem d_D_shift_75 : decode c_D_shift 75 = .ok (.aload_n 0, 1) := by decide +kernel
theorem d_D_shift_76 : decode c_D_shift 76 = .ok (.getfield 41, 3) := by decide +kernel
theorem d_D_shift_79 : decode c_D_shift 79 = .ok (.iload 5, 2) := by decide +kernel
theorem d_D_shift_81 : decode c_D_shift 81 = .ok (.iload_n 3, 1) := by decide +kernel
theorem d_D_shift_82 : decode c_D_shift 82 = .ok (.iadd, 1) := by decide +kernel
theorem d_D_shift_83 : decode c_D_shift 83 = .ok (.iaload, 1) := by decide +kernel
theorem d_D_shift_84 : decode c_D_shift 84 = .ok (.iastore, 1) := by decide +kernel
theorem d_D_shift_85 : decode c_D_shift 85 = .ok (.aload_n 0, 1) := by decide +kernel
theorem d_D_shift_86 : decode c_D_shift 86 = .ok (.getfield 44, 3) := by decide +kernel
theorem d_D_shift_89 : decode c_D_shift 89 = .ok (.iload 5, 2) := by decide +kernel
theorem d_D_shift_91 : decode c_D_shift 91 = .ok (.aload_n 0, 1) := by decide +kernel
theorem d_D_shift_92 : decode c_D_shift 92 = .ok (.getfield 44, 3) := by decide +kernel
theorem d_D_shift_95 : decode c_D_shift 95 = .ok (.iload 5, 2) := by decide +kernel
theorem d_D_shift_97 : decode c_D_shift 97 = .ok (.iload_n 3, 1) := by decide +kernel
theorem d_D_shift_98 : decode c_D_shift 98 = .ok (.iadd, 1) := by decide +kernel
theorem d_D_shift_99 : decode c_D_shift 99 = .ok (.iaload, 1) := by decide +kernel
theorem d_D_shift_100 : decode c_D_shift 100 = .ok (.iastore, 1) := by decide +kernel
theorem d_D_shift_101 : decode c_D_shift 101 = .ok (.iinc 5 (1), 3) := by decide +kernel
theorem d_D_shift_104 : decode c_D_shift 104 = .ok (.goto (-79), 3) := by decide +kernel
theorem d_D_shift_107 : decode c_D_shift 107 = .ok (.aload_n 0, 1) := by decide +kernel
theorem d_D_shift_108 : decode c_D_shift 108 = .ok (.getfield 32, 3) := by decide +kernel
theorem d_D_shift_111 : decode c_D_shift 111 = .ok (.iload_n 1, 1) := by decide +kernel
theorem d_D_shift_112 : decode c_D_shift 112 = .ok (.iload 4, 2) := by decide +kernel
theorem d_D_shift_114 : decode c_D_shift 114 = .ok (.iastore, 1) := by decide +kernel
theorem d_D_shift_115 : decode c_D_shift 115 = .ok (.return_, 1) := by decide +kernel
theorem d_D_crash_0 : decode c_D_crash 0 = .ok (.aload_n 0, 1) := by decide +kernel
theorem d_D_crash_1 : decode c_D_crash 1 = .ok (.iconst 0, 1) := by decide +kernel
theorem d_D_crash_2 : decode c_D_crash 2 = .ok (.putfield 92, 3) := by decide +kernel
theorem d_D_crash_5 : decode c_D_crash 5 = .ok (.iload_n 1, 1) := by decide +kernel
theorem d_D_crash_6 : decode c_D_crash 6 = .ok (.invokestatic 143, 3) := by decide +kernel
theorem d_D_crash_9 : decode c_D_crash 9 = .ok (.ifCond .eq (12), 3) := by decide +kernel
theorem d_D_crash_12 : decode c_D_crash 12 = .ok (.aload_n 0, 1) := by decide +kernel
theorem d_D_crash_13 : decode c_D_crash 13 = .ok (.getfield 7, 3) := by decide +kernel
theorem d_D_crash_16 : decode c_D_crash 16 = .ok (.iload_n 1, 1) := by decide +kernel
theorem d_D_crash_17 : decode c_D_crash 17 = .ok (.baload, 1) := by decide +kernel
theorem d_D_crash_18 : decode c_D_crash 18 = .ok (.ifCond .eq (5), 3) := by decide +kernel
theorem d_D_crash_21 : decode c_D_crash 21 = .ok (.iconst 0, 1) := by decide +kernel
theorem d_D_crash_22 : decode c_D_crash 22 = .ok (.ireturn, 1) := by decide +kernel
theorem d_D_crash_23 : decode c_D_crash 23 = .ok (.aload_n 0, 1) := by decide +kernel
theorem d_D_crash_24 : decode c_D_crash 24 = .ok (.getfield 7, 3) := by decide +kernel
theorem d_D_crash_27 : decode c_D_crash 27 = .ok (.iload_n 1, 1) := by decide +kernel
theorem d_D_crash_28 : decode c_D_crash 28 = .ok (.iconst 1, 1) := by decide +kernel
theorem d_D_crash_29 : decode c_D_crash 29 = .ok (.bastore, 1) := by decide +kernel
theorem d_D_crash_30 : decode c_D_crash 30 = .ok (.aload_n 0, 1) := by decide +kernel
theorem d_D_crash_31 : decode c_D_crash 31 = .ok (.iload_n 1, 1) := by decide +kernel
theorem d_D_crash_32 : decode c_D_crash 32 = .ok (.invokevirtual 139, 3) := by decide +kernel
theorem d_D_crash_35 : decode c_D_crash 35 = .ok (.aload_n 0, 1) := by decide +kernel
theorem d_D_crash_36 : decode c_D_crash 36 = .ok (.getfield 50, 3) := by decide +kernel
theorem d_D_crash_39 : decode c_D_crash 39 = .ok (.iload_n 1, 1) := by decide +kernel
theorem d_D_crash_40 : decode c_D_crash 40 = .ok (.aload_n 0, 1) := by decide +kernel
theorem d_D_crash_41 : decode c_D_crash 41 = .ok (.getfield 20, 3) := by decide +kernel
theorem d_D_crash_44 : decode c_D_crash 44 = .ok (.iload_n 1, 1) := by decide +kernel
theorem d_D_crash_45 : decode c_D_crash 45 = .ok (.iaload, 1) := by decide +kernel
theorem d_D_crash_46 : decode c_D_crash 46 = .ok (.iastore, 1) := by decide +kernel
theorem d_D_crash_47 : decode c_D_crash 47 = .ok (.aload_n 0, 1) := by decide +kernel
theorem d_D_crash_48 : decode c_D_crash 48 = .ok (.getfield 53, 3) := by decide +kernel
theorem d_D_crash_51 : decode c_D_crash 51 = .ok (.iload_n 1, 1) := by decide +kernel
theorem d_D_crash_52 : decode c_D_crash 52 = .ok (.iconst 0, 1) := by decide +kernel
theorem d_D_crash_53 : decode c_D_crash 53 = .ok (.bastore, 1) := by decide +kernel
theorem d_D_crash_54 : decode c_D_crash 54 = .ok (.iconst 1, 1) := by decide +kernel
theorem d_D_crash_55 : decode c_D_crash 55 = .ok (.ireturn, 1) := by decide +kernel
theorem d_D_restart_0 : decode c_D_restart 0 = .ok (.aload_n 0, 1) := by decide +kernel
theorem d_D_restart_1 : decode c_D_restart 1 = .ok (.iconst 0, 1) := by decide +kernel
theorem d_D_restart_2 : decode c_D_restart 2 = .ok (.putfield 92, 3) := by decide +kernel
theorem d_D_restart_5 : decode c_D_restart 5 = .ok (.iload_n 1, 1) := by decide +kernel
theorem d_D_restart_6 : decode c_D_restart 6 = .ok (.invokestatic 143, 3) := by decide +kernel
theorem d_D_restart_9 : decode c_D_restart 9 = .ok (.ifCond .eq (12), 3) := by decide +kernel
theorem d_D_restart_12 : decode c_D_restart 12 = .ok (.aload_n 0, 1) := by decide +kernel
theorem d_D_restart_13 : decode c_D_restart 13 = .ok (.getfield 7, 3) := by decide +kernel
theorem d_D_restart_16 : decode c_D_restart 16 = .ok (.iload_n 1, 1) := by decide +kernel
theorem d_D_restart_17 : decode c_D_restart 17 = .ok (.baload, 1) := by decide +kernel
theorem d_D_restart_18 : decode c_D_restart 18 = .ok (.ifCond .ne (5), 3) := by decide +kernel
theorem d_D_restart_21 : decode c_D_restart 21 = .ok (.iconst 0, 1) := by decide +kernel
theorem d_D_restart_22 : decode c_D_restart 22 = .ok (.ireturn, 1) := by decide +kernel
theorem d_D_restart_23 : decode c_D_restart 23 = .ok (.aload_n 0, 1) := by decide +kernel
theorem d_D_restart_24 : decode c_D_restart 24 = .ok (.getfield 7, 3) := by decide +kernel
theorem d_D_restart_27 : decode c_D_restart 27 = .ok (.iload_n 1, 1) := by decide +kernel
theorem d_D_restart_28 : decode c_D_restart 28 = .ok (.iconst 0, 1) := by decide +kernel
theorem d_D_restart_29 : decode c_D_restart 29 = .ok (.bastore, 1) := by decide +kernel
theorem d_D_restart_30 : decode c_D_restart 30 = .ok (.iconst 1, 1) := by decide +kernel
theorem d_D_restart_31 : decode c_D_restart 31 = .ok (.ireturn, 1) := by decide +kernel
theorem d_D_deliver_0 : decode c_D_deliver 0 = .ok (.aload_n 0, 1) := by decide +kernel
theorem d_D_deliver_1 : decode c_D_deliver 1 = .ok (.iconst 0, 1) := by decide +kernel
theorem d_D_deliver_2 : decode c_D_deliver 2 = .ok (.putfield 92, 3) := by decide +kernel
theorem d_D_deliver_5 : decode c_D_deliver 5 = .ok (.iload_n 1, 1) := by decide +kernel
theorem d_D_deliver_6 : decode c_D_deliver 6 = .ok (.ifCond .lt (11), 3) := by decide +kernel
theorem d_D_deliver_9 : decode c_D_deliver 9 = .ok (.iload_n 1, 1) := by decide +kernel
theorem d_D_deliver_10 : decode c_D_deliver 10 = .ok (.aload_n 0, 1) := by decide +kernel
theorem d_D_deliver_11 : decode c_D_deliver 11 = .ok (.getfield 119, 3) := by decide +kernel
theorem d_D_deliver_14 : decode c_D_deliver 14 = .ok (.if_icmp .lt (5), 3) := by decide +kernel
theorem d_D_deliver_17 : decode c_D_deliver 17 = .ok (.iconst (-1), 1) := by decide +kernel
theorem d_D_deliver_18 : decode c_D_deliver 18 = .ok (.ireturn, 1) := by decide +kernel
theorem d_D_deliver_19 : decode c_D_deliver 19 = .ok (.iconst 0, 1) := by decide +kernel
theorem d_D_deliver_20 : decode c_D_deliver 20 = .ok (.istore_n 2, 1) := by decide +kernel
theorem d_D_deliver_21 : decode c_D_deliver 21 = .ok (.iload_n 2, 1) := by decide +kernel
theorem d_D_deliver_22 : decode c_D_deliver 22 = .ok (.bipush (20), 2) := by decide +kernel
theorem d_D_deliver_24 : decode c_D_deliver 24 = .ok (.if_icmp .ge (26), 3) := by decide +kernel
theorem d_D_deliver_27 : decode c_D_deliver 27 = .ok (.aload_n 0, 1) := by decide +kernel
theorem d_D_deliver_28 : decode c_D_deliver 28 = .ok (.getfield 89, 3) := by decide +kernel
theorem d_D_deliver_31 : decode c_D_deliver 31 = .ok (.iload_n 2, 1) := by decide +kernel
theorem d_D_deliver_32 : decode c_D_deliver 32 = .ok (.aload_n 0, 1) := by decide +kernel
theorem d_D_deliver_33 : decode c_D_deliver 33 = .ok (.getfield 86, 3) := by decide +kernel
theorem d_D_deliver_36 : decode c_D_deliver 36 = .ok (.bipush (20), 2) := by decide +kernel
theorem d_D_deliver_38 : decode c_D_deliver 38 = .ok (.iload_n 1, 1) := by decide +kernel
theorem d_D_deliver_39 : decode c_D_deliver 39 = .ok (.imul, 1) := by decide +kernel
theorem d_D_deliver_40 : decode c_D_deliver 40 = .ok (.iload_n 2, 1) := by decide +kernel
theorem d_D_deliver_41 : decode c_D_deliver 41 = .ok (.iadd, 1) := by decide +kernel
theorem d_D_deliver_42 : decode c_D_deliver 42 = .ok (.iaload, 1) := by decide +kernel
theorem d_D_deliver_43 : decode c_D_deliver 43 = .ok (.iastore, 1) := by decide +kernel
theorem d_D_deliver_44 : decode c_D_deliver 44 = .ok (.iinc 2 (1), 3) := by decide +kernel
theorem d_D_deliver_47 : decode c_D_deliver 47 = .ok (.goto (-26), 3) := by decide +kernel
theorem d_D_deliver_50 : decode c_D_deliver 50 = .ok (.aload_n 0, 1) := by decide +kernel
theorem d_D_deliver_51 : decode c_D_deliver 51 = .ok (.iload_n 1, 1) := by decide +kernel
theorem d_D_deliver_52 : decode c_D_deliver 52 = .ok (.invokevirtual 203, 3) := by decide +kernel
theorem d_D_deliver_55 : decode c_D_deliver 55 = .ok (.aload_n 0, 1) := by decide +kernel
theorem d_D_deliver_56 : decode c_D_deliver 56 = .ok (.getfield 89, 3) := by decide +kernel
theorem d_D_deliver_59 : decode c_D_deliver 59 = .ok (.iconst 0, 1) := by decide +kernel
theorem d_D_deliver_60 : decode c_D_deliver 60 = .ok (.iaload, 1) := by decide +kernel
theorem d_D_deliver_61 : decode c_D_deliver 61 = .ok (.istore_n 2, 1) := by decide +kernel
theorem d_D_deliver_62 : decode c_D_deliver 62 = .ok (.aload_n 0, 1) := by decide +kernel
theorem d_D_deliver_63 : decode c_D_deliver 63 = .ok (.getfield 89, 3) := by decide +kernel
theorem d_D_deliver_66 : decode c_D_deliver 66 = .ok (.iconst 2, 1) := by decide +kernel
theorem d_D_deliver_67 : decode c_D_deliver 67 = .ok (.iaload, 1) := by decide +kernel
theorem d_D_deliver_68 : decode c_D_deliver 68 = .ok (.istore_n 3, 1) := by decide +kernel
theorem d_D_deliver_69 : decode c_D_deliver 69 = .ok (.aload_n 0, 1) := by decide +kernel
theorem d_D_deliver_70 : decode c_D_deliver 70 = .ok (.getfield 7, 3) := by decide +kernel
theorem d_D_deliver_73 : decode c_D_deliver 73 = .ok (.iload_n 3, 1) := by decide +kernel
theorem d_D_deliver_74 : decode c_D_deliver 74 = .ok (.baload, 1) := by decide +kernel
theorem d_D_deliver_75 : decode c_D_deliver 75 = .ok (.ifCond .eq (5), 3) := by decide +kernel
theorem d_D_deliver_78 : decode c_D_deliver 78 = .ok (.iload_n 2, 1) := by decide +kernel
theorem d_D_deliver_79 : decode c_D_deliver 79 = .ok (.ireturn, 1) := by decide +kernel
theorem d_D_deliver_80 : decode c_D_deliver 80 = .ok (.iload_n 2, 1) := by decide +kernel
theorem d_D_deliver_81 : decode c_D_deliver 81 = .ok (.iconst 1, 1) := by decide +kernel
theorem d_D_deliver_82 : decode c_D_deliver 82 = .ok (.if_icmp .le (29), 3) := by decide +kernel
theorem d_D_deliver_85 : decode c_D_deliver 85 = .ok (.aload_n 0, 1) := by decide +kernel
theorem d_D_deliver_86 : decode c_D_deliver 86 = .ok (.getfield 89, 3) := by decide +kernel
theorem d_D_deliver_89 : decode c_D_deliver 89 = .ok (.iconst 3, 1) := by decide +kernel
theorem d_D_deliver_90 : decode c_D_deliver 90 = .ok (.iaload, 1) := by decide +kernel
theorem d_D_deliver_91 : decode c_D_deliver 91 = .ok (.aload_n 0, 1) := by decide +kernel
theorem d_D_deliver_92 : decode c_D_deliver 92 = .ok (.getfield 13, 3) := by decide +kernel
theorem d_D_deliver_95 : decode c_D_deliver 95 = .ok (.iload_n 3, 1) := by decide +kernel
theorem d_D_deliver_96 : decode c_D_deliver 96 = .ok (.iaload, 1) := by decide +kernel
theorem d_D_deliver_97 : decode c_D_deliver 97 = .ok (.if_icmp .le (14), 3) := by decide +kernel
theorem d_D_deliver_100 : decode c_D_deliver 100 = .ok (.aload_n 0, 1) := by decide +kernel
theorem d_D_deliver_101 : decode c_D_deliver 101 = .ok (.iload_n 3, 1) := by decide +kernel
theorem d_D_deliver_102 : decode c_D_deliver 102 = .ok (.aload_n 0, 1) := by decide +kernel
theorem d_D_deliver_103 : decode c_D_deliver 103 = .ok (.getfield 89, 3) := by decide +kernel
theorem d_D_deliver_106 : decode c_D_deliver 106 = .ok (.iconst 3, 1) := by decide +kernel
theorem d_D_deliver_107 : decode c_D_deliver 107 = .ok (.iaload, 1) := by decide +kernel
theorem d_D_deliver_108 : decode c_D_deliver 108 = .ok (.invokevirtual 206, 3) := by decide +kernel
theorem d_D_deliver_111 : decode c_D_deliver 111 = .ok (.iload_n 2, 1) := by decide +kernel
theorem d_D_deliver_112 : decode c_D_deliver 112 = .ok (.tableswitch (148) (0) (5) #[40, 60, 80, 100, 120, 134], 40) := by decide +kernel
theorem d_D_deliver_152 : decode c_D_deliver 152 = .ok (.aload_n 0, 1) := by decide +kernel
theorem d_D_deliver_153 : decode c_D_deliver 153 = .ok (.iload_n 3, 1) := by decide +kernel
theorem d_D_deliver_154 : decode c_D_deliver 154 = .ok (.aload_n 0, 1) := by decide +kernel
theorem d_D_deliver_155 : decode c_D_deliver 155 = .ok (.getfield 89, 3) := by decide +kernel
theorem d_D_deliver_158 : decode c_D_deliver 158 = .ok (.iconst 1, 1) := by decide +kernel
theorem d_D_deliver_159 : decode c_D_deliver 159 = .ok (.iaload, 1) := by decide +kernel
theorem d_D_deliver_160 : decode c_D_deliver 160 = .ok (.aload_n 0, 1) := by decide +kernel
theorem d_D_deliver_161 : decode c_D_deliver 161 = .ok (.getfield 89, 3) := by decide +kernel
theorem d_D_deliver_164 : decode c_D_deliver 164 = .ok (.iconst 3, 1) := by decide +kernel
theorem d_D_deliver_165 : decode c_D_deliver 165 = .ok (.iaload, 1) := by decide +kernel
theorem d_D_deliver_166 : decode c_D_deliver 166 = .ok (.invokevirtual 209, 3) := by decide +kernel
theorem d_D_deliver_169 : decode c_D_deliver 169 = .ok (.goto (102), 3) := by decide +kernel
theorem d_D_deliver_172 : decode c_D_deliver 172 = .ok (.aload_n 0, 1) := by decide +kernel
theorem d_D_deliver_173 : decode c_D_deliver 173 = .ok (.iload_n 3, 1) := by decide +kernel
theorem d_D_deliver_174 : decode c_D_deliver 174 = .ok (.aload_n 0, 1) := by decide +kernel
theorem d_D_deliver_175 : decode c_D_deliver 175 = .ok (.getfield 89, 3) := by decide +kernel
theorem d_D_deliver_178 : decode c_D_deliver 178 = .ok (.iconst 1, 1) := by decide +kernel
theorem d_D_deliver_179 : decode c_D_deliver 179 = .ok (.iaload, 1) := by decide +kernel
theorem d_D_deliver_180 : decode c_D_deliver 180 = .ok (.aload_n 0, 1) := by decide +kernel
theorem d_D_deliver_181 : decode c_D_deliver 181 = .ok (.getfield 89, 3) := by decide +kernel
theorem d_D_deliver_184 : decode c_D_deliver 184 = .ok (.iconst 3, 1) := by decide +kernel
theorem d_D_deliver_185 : decode c_D_deliver 185 = .ok (.iaload, 1) := by decide +kernel
theorem d_D_deliver_186 : decode c_D_deliver 186 = .ok (.invokevirtual 212, 3) := by decide +kernel
theorem d_D_deliver_189 : decode c_D_deliver 189 = .ok (.goto (82), 3) := by decide +kernel
theorem d_D_deliver_192 : decode c_D_deliver 192 = .ok (.aload_n 0, 1) := by decide +kernel
theorem d_D_deliver_193 : decode c_D_deliver 193 = .ok (.iload_n 3, 1) := by decide +kernel
theorem d_D_deliver_194 : decode c_D_deliver 194 = .ok (.aload_n 0, 1) := by decide +kernel
theorem d_D_deliver_195 : decode c_D_deliver 195 = .ok (.getfield 89, 3) := by decide +kernel
theorem d_D_deliver_198 : decode c_D_deliver 198 = .ok (.iconst 1, 1) := by decide +kernel
theorem d_D_deliver_199 : decode c_D_deliver 199 = .ok (.iaload, 1) := by decide +kernel
theorem d_D_deliver_200 : decode c_D_deliver 200 = .ok (.aload_n 0, 1) := by decide +kernel
theorem d_D_deliver_201 : decode c_D_deliver 201 = .ok (.getfield 89, 3) := by decide +kernel
theorem d_D_deliver_204 : decode c_D_deliver 204 = .ok (.iconst 3, 1) := by decide +kernel
theorem d_D_deliver_205 : decode c_D_deliver 205 = .ok (.iaload, 1) := by decide +kernel
theorem d_D_deliver_206 : decode c_D_deliver 206 = .ok (.invokevirtual 215, 3) := by decide +kernel
theorem d_D_deliver_209 : decode c_D_deliver 209 = .ok (.goto (62), 3) := by decide +kernel
theorem d_D_deliver_212 : decode c_D_deliver 212 = .ok (.aload_n 0, 1) := by decide +kernel
theorem d_D_deliver_213 : decode c_D_deliver 213 = .ok (.iload_n 3, 1) := by decide +kernel
theorem d_D_deliver_214 : decode c_D_deliver 214 = .ok (.aload_n 0, 1) := by decide +kernel
theorem d_D_deliver_215 : decode c_D_deliver 215 = .ok (.getfield 89, 3) := by decide +kernel
theorem d_D_deliver_218 : decode c_D_deliver 218 = .ok (.iconst 1, 1) := by decide +kernel
theorem d_D_deliver_219 : decode c_D_deliver 219 = .ok (.iaload, 1) := by decide +kernel
theorem d_D_deliver_220 : decode c_D_deliver 220 = .ok (.aload_n 0, 1) := by decide +kernel
theorem d_D_deliver_221 : decode c_D_deliver 221 = .ok (.getfield 89, 3) := by decide +kernel
theorem d_D_deliver_224 : decode c_D_deliver 224 = .ok (.iconst 3, 1) := by decide +kernel
theorem d_D_deliver_225 : decode c_D_deliver 225 = .ok (.iaload, 1) := by decide +kernel
theorem d_D_deliver_226 : decode c_D_deliver 226 = .ok (.invokevirtual 218, 3) := by decide +kernel
theorem d_D_deliver_229 : decode c_D_deliver 229 = .ok (.goto (42), 3) := by decide +kernel
theorem d_D_deliver_232 : decode c_D_deliver 232 = .ok (.aload_n 0, 1) := by decide +kernel
theorem d_D_deliver_233 : decode c_D_deliver 233 = .ok (.iload_n 3, 1) := by decide +kernel
theorem d_D_deliver_234 : decode c_D_deliver 234 = .ok (.aload_n 0, 1) := by decide +kernel
theorem d_D_deliver_235 : decode c_D_deliver 235 = .ok (.getfield 89, 3) := by decide +kernel
theorem d_D_deliver_238 : decode c_D_deliver 238 = .ok (.iconst 1, 1) := by decide +kernel
theorem d_D_deliver_239 : decode c_D_deliver 239 = .ok (.iaload, 1) := by decide +kernel
theorem d_D_deliver_240 : decode c_D_deliver 240 = .ok (.invokevirtual 221, 3) := by decide +kernel
theorem d_D_deliver_243 : decode c_D_deliver 243 = .ok (.goto (28), 3) := by decide +kernel
theorem d_D_deliver_246 : decode c_D_deliver 246 = .ok (.aload_n 0, 1) := by decide +kernel
theorem d_D_deliver_247 : decode c_D_deliver 247 = .ok (.iload_n 3, 1) := by decide +kernel
theorem d_D_deliver_248 : decode c_D_deliver 248 = .ok (.aload_n 0, 1) := by decide +kernel
theorem d_D_deliver_249 : decode c_D_deliver 249 = .ok (.getfield 89, 3) := by decide +kernel
theorem d_D_deliver_252 : decode c_D_deliver 252 = .ok (.iconst 1, 1) := by decide +kernel
theorem d_D_deliver_253 : decode c_D_deliver 253 = .ok (.iaload, 1) := by decide +kernel
theorem d_D_deliver_254 : decode c_D_deliver 254 = .ok (.invokevirtual 224, 3) := by decide +kernel
theorem d_D_deliver_257 : decode c_D_deliver 257 = .ok (.goto (14), 3) := by decide +kernel
theorem d_D_deliver_260 : decode c_D_deliver 260 = .ok (.aload_n 0, 1) := by decide +kernel
theorem d_D_deliver_261 : decode c_D_deliver 261 = .ok (.iload_n 3, 1) := by decide +kernel
theorem d_D_deliver_262 : decode c_D_deliver 262 = .ok (.aload_n 0, 1) := by decide +kernel
theorem d_D_deliver_263 : decode c_D_deliver 263 = .ok (.getfield 89, 3) := by decide +kernel
theorem d_D_deliver_266 : decode c_D_deliver 266 = .ok (.iconst 1, 1) := by decide +kernel
theorem d_D_deliver_267 : decode c_D_deliver 267 = .ok (.iaload, 1) := by decide +kernel
theorem d_D_deliver_268 : decode c_D_deliver 268 = .ok (.invokevirtual 227, 3) := by decide +kernel
theorem d_D_deliver_271 : decode c_D_deliver 271 = .ok (.iload_n 2, 1) := by decide +kernel
theorem d_D_deliver_272 : decode c_D_deliver 272 = .ok (.ireturn, 1) := by decide +kernel
theorem d_D_takeOut_0 : decode c_D_takeOut 0 = .ok (.bipush (20), 2) := by decide +kernel
theorem d_D_takeOut_2 : decode c_D_takeOut 2 = .ok (.iload_n 1, 1) := by decide +kernel
theorem d_D_takeOut_3 : decode c_D_takeOut 3 = .ok (.imul, 1) := by decide +kernel
theorem d_D_takeOut_4 : decode c_D_takeOut 4 = .ok (.istore_n 2, 1) := by decide +kernel
theorem d_D_takeOut_5 : decode c_D_takeOut 5 = .ok (.iload_n 2, 1) := by decide +kernel
theorem d_D_takeOut_6 : decode c_D_takeOut 6 = .ok (.bipush (20), 2) := by decide +kernel
theorem d_D_takeOut_8 : decode c_D_takeOut 8 = .ok (.aload_n 0, 1) := by decide +kernel
theorem d_D_takeOut_9 : decode c_D_takeOut 9 = .ok (.getfield 119, 3) := by decide +kernel
theorem d_D_takeOut_12 : decode c_D_takeOut 12 = .ok (.imul, 1) := by decide +kernel
theorem d_D_takeOut_13 : decode c_D_takeOut 13 = .ok (.bipush (20), 2) := by decide +kernel
theorem d_D_takeOut_15 : decode c_D_takeOut 15 = .ok (.isub, 1) := by decide +kernel
theorem d_D_takeOut_16 : decode c_D_takeOut 16 = .ok (.if_icmp .ge (24), 3) := by decide +kernel
theorem d_D_takeOut_19 : decode c_D_takeOut 19 = .ok (.aload_n 0, 1) := by decide +kernel
theorem d_D_takeOut_20 : decode c_D_takeOut 20 = .ok (.getfield 86, 3) := by decide +kernel
theorem d_D_takeOut_23 : decode c_D_takeOut 23 = .ok (.iload_n 2, 1) := by decide +kernel
theorem d_D_takeOut_24 : decode c_D_takeOut 24 = .ok (.aload_n 0, 1) := by decide +kernel
theorem d_D_takeOut_25 : decode c_D_takeOut 25 = .ok (.getfield 86, 3) := by decide +kernel
theorem d_D_takeOut_28 : decode c_D_takeOut 28 = .ok (.iload_n 2, 1) := by decide +kernel
theorem d_D_takeOut_29 : decode c_D_takeOut 29 = .ok (.bipush (20), 2) := by decide +kernel
theorem d_D_takeOut_31 : decode c_D_takeOut 31 = .ok (.iadd, 1) := by decide +kernel
theorem d_D_takeOut_32 : decode c_D_takeOut 32 = .ok (.iaload, 1) := by decide +kernel
theorem d_D_takeOut_33 : decode c_D_takeOut 33 = .ok (.iastore, 1) := by decide +kernel
theorem d_D_takeOut_34 : decode c_D_takeOut 34 = .ok (.iinc 2 (1), 3) := by decide +kernel
theorem d_D_takeOut_37 : decode c_D_takeOut 37 = .ok (.goto (-32), 3) := by decide +kernel
theorem d_D_takeOut_40 : decode c_D_takeOut 40 = .ok (.aload_n 0, 1) := by decide +kernel
theorem d_D_takeOut_41 : decode c_D_takeOut 41 = .ok (.dup, 1) := by decide +kernel
theorem d_D_takeOut_42 : decode c_D_takeOut 42 = .ok (.getfield 119, 3) := by decide +kernel
theorem d_D_takeOut_45 : decode c_D_takeOut 45 = .ok (.iconst 1, 1) := by decide +kernel
theorem d_D_takeOut_46 : decode c_D_takeOut 46 = .ok (.isub, 1) := by decide +kernel
theorem d_D_takeOut_47 : decode c_D_takeOut 47 = .ok (.putfield 119, 3) := by decide +kernel
theorem d_D_takeOut_50 : decode c_D_takeOut 50 = .ok (.return_, 1) := by decide +kernel
theorem d_D_newTerm_0 : decode c_D_newTerm 0 = .ok (.aload_n 0, 1) := by decide +kernel
theorem d_D_newTerm_1 : decode c_D_newTerm 1 = .ok (.getfield 13, 3) := by decide +kernel
theorem d_D_newTerm_4 : decode c_D_newTerm 4 = .ok (.iload_n 1, 1) := by decide +kernel
theorem d_D_newTerm_5 : decode c_D_newTerm 5 = .ok (.iload_n 2, 1) := by decide +kernel
theorem d_D_newTerm_6 : decode c_D_newTerm 6 = .ok (.iastore, 1) := by decide +kernel
theorem d_D_newTerm_7 : decode c_D_newTerm 7 = .ok (.aload_n 0, 1) := by decide +kernel
theorem d_D_newTerm_8 : decode c_D_newTerm 8 = .ok (.getfield 17, 3) := by decide +kernel
theorem d_D_newTerm_11 : decode c_D_newTerm 11 = .ok (.iload_n 1, 1) := by decide +kernel
theorem d_D_newTerm_12 : decode c_D_newTerm 12 = .ok (.iconst (-1), 1) := by decide +kernel
theorem d_D_newTerm_13 : decode c_D_newTerm 13 = .ok (.iastore, 1) := by decide +kernel
theorem d_D_newTerm_14 : decode c_D_newTerm 14 = .ok (.aload_n 0, 1) := by decide +kernel
theorem d_D_newTerm_15 : decode c_D_newTerm 15 = .ok (.iload_n 1, 1) := by decide +kernel
theorem d_D_newTerm_16 : decode c_D_newTerm 16 = .ok (.invokevirtual 139, 3) := by decide +kernel
theorem d_D_newTerm_19 : decode c_D_newTerm 19 = .ok (.return_, 1) := by decide +kernel
theorem d_D_question_0 : decode c_D_question 0 = .ok (.aload_n 0, 1) := by decide +kernel
theorem d_D_question_1 : decode c_D_question 1 = .ok (.getfield 53, 3) := by decide +kernel
theorem d_D_question_4 : decode c_D_question 4 = .ok (.iload_n 1, 1) := by decide +kernel
theorem d_D_question_5 : decode c_D_question 5 = .ok (.baload, 1) := by decide +kernel
theorem d_D_question_6 : decode c_D_question 6 = .ok (.ifCond .ne (37), 3) := by decide +kernel
theorem d_D_question_9 : decode c_D_question 9 = .ok (.iload_n 3, 1) := by decide +kernel
theorem d_D_question_10 : decode c_D_question 10 = .ok (.aload_n 0, 1) := by decide +kernel
theorem d_D_question_11 : decode c_D_question 11 = .ok (.getfield 13, 3) := by decide +kernel
theorem d_D_question_14 : decode c_D_question 14 = .ok (.iload_n 1, 1) := by decide +kernel
theorem d_D_question_15 : decode c_D_question 15 = .ok (.iaload, 1) := by decide +kernel
theorem d_D_question_16 : decode c_D_question 16 = .ok (.if_icmp .le (27), 3) := by decide +kernel
theorem d_D_question_19 : decode c_D_question 19 = .ok (.aload_n 0, 1) := by decide +kernel
theorem d_D_question_20 : decode c_D_question 20 = .ok (.aload_n 0, 1) := by decide +kernel
theorem d_D_question_21 : decode c_D_question 21 = .ok (.getfield 89, 3) := by decide +kernel
theorem d_D_question_24 : decode c_D_question 24 = .ok (.iconst 4, 1) := by decide +kernel
theorem d_D_question_25 : decode c_D_question 25 = .ok (.iaload, 1) := by decide +kernel
theorem d_D_question_26 : decode c_D_question 26 = .ok (.aload_n 0, 1) := by decide +kernel
theorem d_D_question_27 : decode c_D_question 27 = .ok (.getfield 89, 3) := by decide +kernel
theorem d_D_question_30 : decode c_D_question 30 = .ok (.iconst 5, 1) := by decide +kernel
theorem d_D_question_31 : decode c_D_question 31 = .ok (.iaload, 1) := by decide +kernel
theorem d_D_question_32 : decode c_D_question 32 = .ok (.iload_n 1, 1) := by decide +kernel
theorem d_D_question_33 : decode c_D_question 33 = .ok (.invokevirtual 230, 3) := by decide +kernel
theorem d_D_question_36 : decode c_D_question 36 = .ok (.ifCond .ne (7), 3) := by decide +kernel
theorem d_D_question_39 : decode c_D_question 39 = .ok (.iconst 1, 1) := by decide +kernel
theorem d_D_question_40 : decode c_D_question 40 = .ok (.goto (4), 3) := by decide +kernel
theorem d_D_question_43 : decode c_D_question 43 = .ok (.iconst 0, 1) := by decide +kernel
theorem d_D_question_44 : decode c_D_question 44 = .ok (.istore 4, 2) := by decide +kernel
theorem d_D_question_46 : decode c_D_question 46 = .ok (.aload_n 0, 1) := by decide +kernel
theorem d_D_question_47 : decode c_D_question 47 = .ok (.iconst 1, 1) := by decide +kernel
theorem d_D_question_48 : decode c_D_question 48 = .ok (.iload_n 1, 1) := by decide +kernel
theorem d_D_question_49 : decode c_D_question 49 = .ok (.iload_n 2, 1) := by decide +kernel
theorem d_D_question_50 : decode c_D_question 50 = .ok (.iload 4, 2) := by decide +kernel
theorem d_D_question_52 : decode c_D_question 52 = .ok (.iload 4, 2) := by decide +kernel
theorem d_D_question_54 : decode c_D_question 54 = .ok (.ifCond .eq (7), 3) := by decide +kernel
theorem d_D_question_57 : decode c_D_question 57 = .ok (.iload_n 3, 1) := by decide +kernel
theorem d_D_question_58 : decode c_D_question 58 = .ok (.goto (9), 3) := by decide +kernel
theorem d_D_question_61 : decode c_D_question 61 = .ok (.aload_n 0, 1) := by decide +kernel
theorem d_D_question_62 : decode c_D_question 62 = .ok (.getfield 13, 3) := by decide +kernel
theorem d_D_question_65 : decode c_D_question 65 = .ok (.iload_n 1, 1) := by decide +kernel
theorem d_D_question_66 : decode c_D_question 66 = .ok (.iaload, 1) := by decide +kernel
theorem d_D_question_67 : decode c_D_question 67 = .ok (.invokevirtual 234, 3) := by decide +kernel
theorem d_D_question_70 : decode c_D_question 70 = .ok (.return_, 1) := by decide +kernel
theorem d_D_liesBefore_0 : decode c_D_liesBefore 0 = .ok (.iload_n 2, 1) := by decide +kernel
theorem d_D_liesBefore_1 : decode c_D_liesBefore 1 = .ok (.aload_n 0, 1) := by decide +kernel
theorem d_D_liesBefore_2 : decode c_D_liesBefore 2 = .ok (.iload_n 3, 1) := by decide +kernel
theorem d_D_liesBefore_3 : decode c_D_liesBefore 3 = .ok (.invokevirtual 126, 3) := by decide +kernel
theorem d_D_liesBefore_6 : decode c_D_liesBefore 6 = .ok (.if_icmp .lt (21), 3) := by decide +kernel
theorem d_D_liesBefore_9 : decode c_D_liesBefore 9 = .ok (.iload_n 2, 1) := by decide +kernel
theorem d_D_liesBefore_10 : decode c_D_liesBefore 10 = .ok (.aload_n 0, 1) := by decide +kernel
theorem d_D_liesBefore_11 : decode c_D_liesBefore 11 = .ok (.iload_n 3, 1) := by decide +kernel
theorem d_D_liesBefore_12 : decode c_D_liesBefore 12 = .ok (.invokevirtual 126, 3) := by decide +kernel
theorem d_D_liesBefore_15 : decode c_D_liesBefore 15 = .ok (.if_icmp .ne (16), 3) := by decide +kernel
theorem d_D_liesBefore_18 : decode c_D_liesBefore 18 = .ok (.iload_n 1, 1) := by decide +kernel
theorem d_D_liesBefore_19 : decode c_D_liesBefore 19 = .ok (.aload_n 0, 1) := by decide +kernel
theorem d_D_liesBefore_20 : decode c_D_liesBefore 20 = .ok (.iload_n 3, 1) := by decide +kernel
theorem d_D_liesBefore_21 : decode c_D_liesBefore 21 = .ok (.invokevirtual 96, 3) := by decide +kernel
theorem d_D_liesBefore_24 : decode c_D_liesBefore 24 = .ok (.if_icmp .ge (7), 3) := by decide +kernel
theorem d_D_liesBefore_27 : decode c_D_liesBefore 27 = .ok (.iconst 1, 1) := by decide +kernel
theorem d_D_liesBefore_28 : decode c_D_liesBefore 28 = .ok (.goto (4), 3) := by decide +kernel
theorem d_D_liesBefore_31 : decode c_D_liesBefore 31 = .ok (.iconst 0, 1) := by decide +kernel
theorem d_D_liesBefore_32 : decode c_D_liesBefore 32 = .ok (.ireturn, 1) := by decide +kernel
theorem d_D_reply_0 : decode c_D_reply 0 = .ok (.aload_n 0, 1) := by decide +kernel
theorem d_D_reply_1 : decode c_D_reply 1 = .ok (.iload_n 1, 1) := by decide +kernel
theorem d_D_reply_2 : decode c_D_reply 2 = .ok (.iload_n 2, 1) := by decide +kernel
theorem d_D_reply_3 : decode c_D_reply 3 = .ok (.iload_n 3, 1) := by decide +kernel
theorem d_D_reply_4 : decode c_D_reply 4 = .ok (.iload 5, 2) := by decide +kernel
theorem d_D_reply_6 : decode c_D_reply 6 = .ok (.invokevirtual 122, 3) := by decide +kernel
theorem d_D_reply_9 : decode c_D_reply 9 = .ok (.aload_n 0, 1) := by decide +kernel
theorem d_D_reply_10 : decode c_D_reply 10 = .ok (.getfield 89, 3) := by decide +kernel
theorem d_D_reply_13 : decode c_D_reply 13 = .ok (.bipush (6), 2) := by decide +kernel
theorem d_D_reply_15 : decode c_D_reply 15 = .ok (.iload 4, 2) := by decide +kernel
theorem d_D_reply_17 : decode c_D_reply 17 = .ok (.ifCond .eq (7), 3) := by decide +kernel
theorem d_D_reply_20 : decode c_D_reply 20 = .ok (.iconst 1, 1) := by decide +kernel
theorem d_D_reply_21 : decode c_D_reply 21 = .ok (.goto (4), 3) := by decide +kernel
theorem d_D_reply_24 : decode c_D_reply 24 = .ok (.iconst 0, 1) := by decide +kernel
theorem d_D_reply_25 : decode c_D_reply 25 = .ok (.iastore, 1) := by decide +kernel
theorem d_D_reply_26 : decode c_D_reply 26 = .ok (.aload_n 0, 1) := by decide +kernel
theorem d_D_reply_27 : decode c_D_reply 27 = .ok (.invokevirtual 129, 3) := by decide +kernel
theorem d_D_reply_30 : decode c_D_reply 30 = .ok (.return_, 1) := by decide +kernel
theorem d_D_answered_0 : decode c_D_answered 0 = .ok (.aload_n 0, 1) := by decide +kernel
theorem d_D_answered_1 : decode c_D_answered 1 = .ok (.getfield 89, 3) := by decide +kernel
theorem d_D_answered_4 : decode c_D_answered 4 = .ok (.bipush (6), 2) := by decide +kernel
theorem d_D_answered_6 : decode c_D_answered 6 = .ok (.iaload, 1) := by decide +kernel
theorem d_D_answered_7 : decode c_D_answered 7 = .ok (.iconst 1, 1) := by decide +kernel
theorem d_D_answered_8 : decode c_D_answered 8 = .ok (.if_icmp .ne (46), 3) := by decide +kernel
theorem d_D_answered_11 : decode c_D_answered 11 = .ok (.aload_n 0, 1) := by decide +kernel
theorem d_D_answered_12 : decode c_D_answered 12 = .ok (.getfield 47, 3) := by decide +kernel
theorem d_D_answered_15 : decode c_D_answered 15 = .ok (.iload_n 1, 1) := by decide +kernel
theorem d_D_answered_16 : decode c_D_answered 16 = .ok (.iaload, 1) := by decide +kernel
theorem d_D_answered_17 : decode c_D_answered 17 = .ok (.iconst 1, 1) := by decide +kernel
theorem d_D_answered_18 : decode c_D_answered 18 = .ok (.if_icmp .ne (15), 3) := by decide +kernel
theorem d_D_answered_21 : decode c_D_answered 21 = .ok (.iload_n 3, 1) := by decide +kernel
theorem d_D_answered_22 : decode c_D_answered 22 = .ok (.aload_n 0, 1) := by decide +kernel
theorem d_D_answered_23 : decode c_D_answered 23 = .ok (.getfield 13, 3) := by decide +kernel
theorem d_D_answered_26 : decode c_D_answered 26 = .ok (.iload_n 1, 1) := by decide +kernel
theorem d_D_answered_27 : decode c_D_answered 27 = .ok (.iaload, 1) := by decide +kernel
theorem d_D_answered_28 : decode c_D_answered 28 = .ok (.iconst 1, 1) := by decide +kernel
theorem d_D_answered_29 : decode c_D_answered 29 = .ok (.iadd, 1) := by decide +kernel
theorem d_D_answered_30 : decode c_D_answered 30 = .ok (.if_icmp .eq (4), 3) := by decide +kernel
theorem d_D_answered_33 : decode c_D_answered 33 = .ok (.return_, 1) := by decide +kernel
theorem d_D_answered_34 : decode c_D_answered 34 = .ok (.aload_n 0, 1) := by decide +kernel
theorem d_D_answered_35 : decode c_D_answered 35 = .ok (.getfield 56, 3) := by decide +kernel
theorem d_D_answered_38 : decode c_D_answered 38 = .ok (.iload_n 1, 1) := by decide +kernel
theorem d_D_answered_39 : decode c_D_answered 39 = .ok (.dup2, 1) := by decide +kernel
theorem d_D_answered_40 : decode c_D_answered 40 = .ok (.iaload, 1) := by decide +kernel
theorem d_D_answered_41 : decode c_D_answered 41 = .ok (.iconst 1, 1) := by decide +kernel
theorem d_D_answered_42 : decode c_D_answered 42 = .ok (.iload_n 2, 1) := by decide +kernel
theorem d_D_answered_43 : decode c_D_answered 43 = .ok (.ishl, 1) := by decide +kernel
theorem d_D_answered_44 : decode c_D_answered 44 = .ok (.ior, 1) := by decide +kernel
theorem d_D_answered_45 : decode c_D_answered 45 = .ok (.iastore, 1) := by decide +kernel
theorem d_D_answered_46 : decode c_D_answered 46 = .ok (.aload_n 0, 1) := by decide +kernel
theorem d_D_answered_47 : decode c_D_answered 47 = .ok (.iload_n 1, 1) := by decide +kernel
theorem d_D_answered_48 : decode c_D_answered 48 = .ok (.invokevirtual 154, 3) := by decide +kernel
theorem d_D_answered_51 : decode c_D_answered 51 = .ok (.goto (19), 3) := by decide +kernel
theorem d_D_answered_54 : decode c_D_answered 54 = .ok (.iload_n 3, 1) := by decide +kernel
theorem d_D_answered_55 : decode c_D_answered 55 = .ok (.aload_n 0, 1) := by decide +kernel
theorem d_D_answered_56 : decode c_D_answered 56 = .ok (.getfield 13, 3) := by decide +kernel
theorem d_D_answered_59 : decode c_D_answered 59 = .ok (.iload_n 1, 1) := by decide +kernel
theorem d_D_answered_60 : decode c_D_answered 60 = .ok (.iaload, 1) := by decide +kernel
theorem d_D_answered_61 : decode c_D_answered 61 = .ok (.if_icmp .le (9), 3) := by decide +kernel
theorem d_D_answered_64 : decode c_D_answered 64 = .ok (.aload_n 0, 1) := by decide +kernel
theorem d_D_answered_65 : decode c_D_answered 65 = .ok (.iload_n 1, 1) := by decide +kernel
theorem d_D_answered_66 : decode c_D_answered 66 = .ok (.iload_n 3, 1) := by decide +kernel
theorem d_D_answered_67 : decode c_D_answered 67 = .ok (.invokevirtual 206, 3) := by decide +kernel
theorem d_D_answered_70 : decode c_D_answered 70 = .ok (.return_, 1) := by decide +kernel
theorem d_D_called_0 : decode c_D_called 0 = .ok (.iload_n 3, 1) := by decide +kernel
theorem d_D_called_1 : decode c_D_called 1 = .ok (.aload_n 0, 1) := by decide +kernel
theorem d_D_called_2 : decode c_D_called 2 = .ok (.getfield 13, 3) := by decide +kernel
theorem d_D_called_5 : decode c_D_called 5 = .ok (.iload_n 1, 1) := by decide +kernel
theorem d_D_called_6 : decode c_D_called 6 = .ok (.iaload, 1) := by decide +kernel
theorem d_D_called_7 : decode c_D_called 7 = .ok (.if_icmp .ne (47), 3) := by decide +kernel
theorem d_D_called_10 : decode c_D_called 10 = .ok (.aload_n 0, 1) := by decide +kernel
theorem d_D_called_11 : decode c_D_called 11 = .ok (.getfield 17, 3) := by decide +kernel
theorem d_D_called_14 : decode c_D_called 14 = .ok (.iload_n 1, 1) := by decide +kernel
theorem d_D_called_15 : decode c_D_called 15 = .ok (.iaload, 1) := by decide +kernel
theorem d_D_called_16 : decode c_D_called 16 = .ok (.iconst (-1), 1) := by decide +kernel
theorem d_D_called_17 : decode c_D_called 17 = .ok (.if_icmp .eq (13), 3) := by decide +kernel
theorem d_D_called_20 : decode c_D_called 20 = .ok (.aload_n 0, 1) := by decide +kernel
theorem d_D_called_21 : decode c_D_called 21 = .ok (.getfield 17, 3) := by decide +kernel
theorem d_D_called_24 : decode c_D_called 24 = .ok (.iload_n 1, 1) := by decide +kernel
theorem d_D_called_25 : decode c_D_called 25 = .ok (.iaload, 1) := by decide +kernel
theorem d_D_called_26 : decode c_D_called 26 = .ok (.iload_n 2, 1) := by decide +kernel
theorem d_D_called_27 : decode c_D_called 27 = .ok (.if_icmp .ne (27), 3) := by decide +kernel
theorem d_D_called_30 : decode c_D_called 30 = .ok (.aload_n 0, 1) := by decide +kernel
theorem d_D_called_31 : decode c_D_called 31 = .ok (.aload_n 0, 1) := by decide +kernel
theorem d_D_called_32 : decode c_D_called 32 = .ok (.getfield 89, 3) := by decide +kernel
theorem d_D_called_35 : decode c_D_called 35 = .ok (.iconst 4, 1) := by decide +kernel
theorem d_D_called_36 : decode c_D_called 36 = .ok (.iaload, 1) := by decide +kernel
theorem d_D_called_37 : decode c_D_called 37 = .ok (.aload_n 0, 1) := by decide +kernel
theorem d_D_called_38 : decode c_D_called 38 = .ok (.getfield 89, 3) := by decide +kernel
theorem d_D_called_41 : decode c_D_called 41 = .ok (.iconst 5, 1) := by decide +kernel
theorem d_D_called_42 : decode c_D_called 42 = .ok (.iaload, 1) := by decide +kernel
theorem d_D_called_43 : decode c_D_called 43 = .ok (.iload_n 1, 1) := by decide +kernel
theorem d_D_called_44 : decode c_D_called 44 = .ok (.invokevirtual 230, 3) := by decide +kernel
theorem d_D_called_47 : decode c_D_called 47 = .ok (.ifCond .ne (7), 3) := by decide +kernel
theorem d_D_called_50 : decode c_D_called 50 = .ok (.iconst 1, 1) := by decide +kernel
theorem d_D_called_51 : decode c_D_called 51 = .ok (.goto (4), 3) := by decide +kernel
theorem d_D_called_54 : decode c_D_called 54 = .ok (.iconst 0, 1) := by decide +kernel
theorem d_D_called_55 : decode c_D_called 55 = .ok (.istore 4, 2) := by decide +kernel
theorem d_D_called_57 : decode c_D_called 57 = .ok (.iload 4, 2) := by decide +kernel
theorem d_D_called_59 : decode c_D_called 59 = .ok (.ifCond .eq (10), 3) := by decide +kernel
theorem d_D_called_62 : decode c_D_called 62 = .ok (.aload_n 0, 1) := by decide +kernel
theorem d_D_called_63 : decode c_D_called 63 = .ok (.getfield 17, 3) := by decide +kernel
theorem d_D_called_66 : decode c_D_called 66 = .ok (.iload_n 1, 1) := by decide +kernel
theorem d_D_called_67 : decode c_D_called 67 = .ok (.iload_n 2, 1) := by decide +kernel
theorem d_D_called_68 : decode c_D_called 68 = .ok (.iastore, 1) := by decide +kernel
theorem d_D_called_69 : decode c_D_called 69 = .ok (.aload_n 0, 1) := by decide +kernel
theorem d_D_called_70 : decode c_D_called 70 = .ok (.iconst 3, 1) := by decide +kernel
theorem d_D_called_71 : decode c_D_called 71 = .ok (.iload_n 1, 1) := by decide +kernel
theorem d_D_called_72 : decode c_D_called 72 = .ok (.iload_n 2, 1) := by decide +kernel
theorem d_D_called_73 : decode c_D_called 73 = .ok (.iload 4, 2) := by decide +kernel
theorem d_D_called_75 : decode c_D_called 75 = .ok (.aload_n 0, 1) := by decide +kernel
theorem d_D_called_76 : decode c_D_called 76 = .ok (.getfield 13, 3) := by decide +kernel
theorem d_D_called_79 : decode c_D_called 79 = .ok (.iload_n 1, 1) := by decide +kernel
theorem d_D_called_80 : decode c_D_called 80 = .ok (.iaload, 1) := by decide +kernel
theorem d_D_called_81 : decode c_D_called 81 = .ok (.invokevirtual 234, 3) := by decide +kernel
theorem d_D_called_84 : decode c_D_called 84 = .ok (.return_, 1) := by decide +kernel
theorem d_D_voted_0 : decode c_D_voted 0 = .ok (.aload_n 0, 1) := by decide +kernel
theorem d_D_voted_1 : decode c_D_voted 1 = .ok (.getfield 89, 3) := by decide +kernel
theorem d_D_voted_4 : decode c_D_voted 4 = .ok (.bipush (6), 2) := by decide +kernel
theorem d_D_voted_6 : decode c_D_voted 6 = .ok (.iaload, 1) := by decide +kernel
theorem d_D_voted_7 : decode c_D_voted 7 = .ok (.ifCond .eq (23), 3) := by decide +kernel
theorem d_D_voted_10 : decode c_D_voted 10 = .ok (.aload_n 0, 1) := by decide +kernel
theorem d_D_voted_11 : decode c_D_voted 11 = .ok (.getfield 47, 3) := by decide +kernel
theorem d_D_voted_14 : decode c_D_voted 14 = .ok (.iload_n 1, 1) := by decide +kernel
theorem d_D_voted_15 : decode c_D_voted 15 = .ok (.iaload, 1) := by decide +kernel
theorem d_D_voted_16 : decode c_D_voted 16 = .ok (.iconst 2, 1) := by decide +kernel
theorem d_D_voted_17 : decode c_D_voted 17 = .ok (.if_icmp .ne (13), 3) := by decide +kernel
theorem d_D_voted_20 : decode c_D_voted 20 = .ok (.iload_n 3, 1) := by decide +kernel
theorem d_D_voted_21 : decode c_D_voted 21 = .ok (.aload_n 0, 1) := by decide +kernel
theorem d_D_voted_22 : decode c_D_voted 22 = .ok (.getfield 13, 3) := by decide +kernel
theorem d_D_voted_25 : decode c_D_voted 25 = .ok (.iload_n 1, 1) := by decide +kernel
theorem d_D_voted_26 : decode c_D_voted 26 = .ok (.iaload, 1) := by decide +kernel
theorem d_D_voted_27 : decode c_D_voted 27 = .ok (.if_icmp .eq (4), 3) := by decide +kernel
theorem d_D_voted_30 : decode c_D_voted 30 = .ok (.return_, 1) := by decide +kernel
theorem d_D_voted_31 : decode c_D_voted 31 = .ok (.aload_n 0, 1) := by decide +kernel
theorem d_D_voted_32 : decode c_D_voted 32 = .ok (.getfield 56, 3) := by decide +kernel
theorem d_D_voted_35 : decode c_D_voted 35 = .ok (.iload_n 1, 1) := by decide +kernel
theorem d_D_voted_36 : decode c_D_voted 36 = .ok (.dup2, 1) := by decide +kernel
theorem d_D_voted_37 : decode c_D_voted 37 = .ok (.iaload, 1) := by decide +kernel
theorem d_D_voted_38 : decode c_D_voted 38 = .ok (.iconst 1, 1) := by decide +kernel
theorem d_D_voted_39 : decode c_D_voted 39 = .ok (.iload_n 2, 1) := by decide +kernel
theorem d_D_voted_40 : decode c_D_voted 40 = .ok (.ishl, 1) := by decide +kernel
theorem d_D_voted_41 : decode c_D_voted 41 = .ok (.ior, 1) := by decide +kernel
theorem d_D_voted_42 : decode c_D_voted 42 = .ok (.iastore, 1) := by decide +kernel
theorem d_D_voted_43 : decode c_D_voted 43 = .ok (.aload_n 0, 1) := by decide +kernel
theorem d_D_voted_44 : decode c_D_voted 44 = .ok (.iload_n 1, 1) := by decide +kernel
theorem d_D_voted_45 : decode c_D_voted 45 = .ok (.invokevirtual 154, 3) := by decide +kernel
theorem d_D_voted_48 : decode c_D_voted 48 = .ok (.return_, 1) := by decide +kernel
theorem d_D_appended_0 : decode c_D_appended 0 = .ok (.aload_n 0, 1) := by decide +kernel
theorem d_D_appended_1 : decode c_D_appended 1 = .ok (.getfield 89, 3) := by decide +kernel
theorem d_D_appended_4 : decode c_D_appended 4 = .ok (.iconst 4, 1) := by decide +kernel
theorem d_D_appended_5 : decode c_D_appended 5 = .ok (.iaload, 1) := by decide +kernel
theorem d_D_appended_6 : decode c_D_appended 6 = .ok (.istore_n 3, 1) := by decide +kernel
theorem d_D_appended_7 : decode c_D_appended 7 = .ok (.aload_n 0, 1) := by decide +kernel
theorem d_D_appended_8 : decode c_D_appended 8 = .ok (.getfield 89, 3) := by decide +kernel
theorem d_D_appended_11 : decode c_D_appended 11 = .ok (.bipush (9), 2) := by decide +kernel
theorem d_D_appended_13 : decode c_D_appended 13 = .ok (.iaload, 1) := by decide +kernel
theorem d_D_appended_14 : decode c_D_appended 14 = .ok (.istore 4, 2) := by decide +kernel
theorem d_D_appended_16 : decode c_D_appended 16 = .ok (.aload_n 0, 1) := by decide +kernel
theorem d_D_appended_17 : decode c_D_appended 17 = .ok (.getfield 89, 3) := by decide +kernel
theorem d_D_appended_20 : decode c_D_appended 20 = .ok (.iconst 3, 1) := by decide +kernel
theorem d_D_appended_21 : decode c_D_appended 21 = .ok (.iaload, 1) := by decide +kernel
theorem d_D_appended_22 : decode c_D_appended 22 = .ok (.aload_n 0, 1) := by decide +kernel
theorem d_D_appended_23 : decode c_D_appended 23 = .ok (.getfield 13, 3) := by decide +kernel
theorem d_D_appended_26 : decode c_D_appended 26 = .ok (.iload_n 1, 1) := by decide +kernel
theorem d_D_appended_27 : decode c_D_appended 27 = .ok (.iaload, 1) := by decide +kernel
theorem d_D_appended_28 : decode c_D_appended 28 = .ok (.if_icmp .ge (13), 3) := by decide +kernel
theorem d_D_appended_31 : decode c_D_appended 31 = .ok (.aload_n 0, 1) := by decide +kernel
theorem d_D_appended_32 : decode c_D_appended 32 = .ok (.iload_n 1, 1) := by decide +kernel
theorem d_D_appended_33 : decode c_D_appended 33 = .ok (.iload_n 2, 1) := by decide +kernel
theorem d_D_appended_34 : decode c_D_appended 34 = .ok (.iconst 0, 1) := by decide +kernel
theorem d_D_appended_35 : decode c_D_appended 35 = .ok (.iconst 0, 1) := by decide +kernel
theorem d_D_appended_36 : decode c_D_appended 36 = .ok (.iconst 0, 1) := by decide +kernel
theorem d_D_appended_37 : decode c_D_appended 37 = .ok (.invokevirtual 238, 3) := by decide +kernel
theorem d_D_appended_40 : decode c_D_appended 40 = .ok (.return_, 1) := by decide +kernel
theorem d_D_appended_41 : decode c_D_appended 41 = .ok (.aload_n 0, 1) := by decide +kernel
theorem d_D_appended_42 : decode c_D_appended 42 = .ok (.iload_n 1, 1) := by decide +kernel
theorem d_D_appended_43 : decode c_D_appended 43 = .ok (.invokevirtual 139, 3) := by decide +kernel
theorem d_D_appended_46 : decode c_D_appended 46 = .ok (.aload_n 0, 1) := by decide +kernel
theorem d_D_appended_47 : decode c_D_appended 47 = .ok (.getfield 53, 3) := by decide +kernel
theorem d_D_appended_50 : decode c_D_appended 50 = .ok (.iload_n 1, 1) := by decide +kernel
theorem d_D_appended_51 : decode c_D_appended 51 = .ok (.iconst 1, 1) := by decide +kernel
theorem d_D_appended_52 : decode c_D_appended 52 = .ok (.bastore, 1) := by decide +kernel
theorem d_D_appended_53 : decode c_D_appended 53 = .ok (.iload_n 3, 1) := by decide +kernel
theorem d_D_appended_54 : decode c_D_appended 54 = .ok (.aload_n 0, 1) := by decide +kernel
theorem d_D_appended_55 : decode c_D_appended 55 = .ok (.iload_n 1, 1) := by decide +kernel
theorem d_D_appended_56 : decode c_D_appended 56 = .ok (.invokevirtual 96, 3) := by decide +kernel
theorem d_D_appended_59 : decode c_D_appended 59 = .ok (.if_icmp .gt (28), 3) := by decide +kernel
theorem d_D_appended_62 : decode c_D_appended 62 = .ok (.iload_n 3, 1) := by decide +kernel
theorem d_D_appended_63 : decode c_D_appended 63 = .ok (.aload_n 0, 1) := by decide +kernel
theorem d_D_appended_64 : decode c_D_appended 64 = .ok (.getfield 20, 3) := by decide +kernel
theorem d_D_appended_67 : decode c_D_appended 67 = .ok (.iload_n 1, 1) := by decide +kernel
theorem d_D_appended_68 : decode c_D_appended 68 = .ok (.iaload, 1) := by decide +kernel
theorem d_D_appended_69 : decode c_D_appended 69 = .ok (.if_icmp .lt (63), 3) := by decide +kernel
theorem d_D_appended_72 : decode c_D_appended 72 = .ok (.aload_n 0, 1) := by decide +kernel
theorem d_D_appended_73 : decode c_D_appended 73 = .ok (.iload_n 1, 1) := by decide +kernel
theorem d_D_appended_74 : decode c_D_appended 74 = .ok (.iload_n 3, 1) := by decide +kernel
theorem d_D_appended_75 : decode c_D_appended 75 = .ok (.invokevirtual 104, 3) := by decide +kernel
theorem d_D_appended_78 : decode c_D_appended 78 = .ok (.aload_n 0, 1) := by decide +kernel
theorem d_D_appended_79 : decode c_D_appended 79 = .ok (.getfield 89, 3) := by decide +kernel
theorem d_D_appended_82 : decode c_D_appended 82 = .ok (.iconst 5, 1) := by decide +kernel
theorem d_D_appended_83 : decode c_D_appended 83 = .ok (.iaload, 1) := by decide +kernel
theorem d_D_appended_84 : decode c_D_appended 84 = .ok (.if_icmp .eq (48), 3) := by decide +kernel
theorem d_D_appended_87 : decode c_D_appended 87 = .ok (.aload_n 0, 1) := by decide +kernel
theorem d_D_appended_88 : decode c_D_appended 88 = .ok (.iload_n 1, 1) := by decide +kernel
theorem d_D_appended_89 : decode c_D_appended 89 = .ok (.invokevirtual 96, 3) := by decide +kernel
theorem d_D_appended_92 : decode c_D_appended 92 = .ok (.iload_n 3, 1) := by decide +kernel
theorem d_D_appended_93 : decode c_D_appended 93 = .ok (.iconst 1, 1) := by decide +kernel
theorem d_D_appended_94 : decode c_D_appended 94 = .ok (.isub, 1) := by decide +kernel
theorem d_D_appended_95 : decode c_D_appended 95 = .ok (.if_icmp .ge (11), 3) := by decide +kernel
theorem d_D_appended_98 : decode c_D_appended 98 = .ok (.aload_n 0, 1) := by decide +kernel
theorem d_D_appended_99 : decode c_D_appended 99 = .ok (.iload_n 1, 1) := by decide +kernel
theorem d_D_appended_100 : decode c_D_appended 100 = .ok (.invokevirtual 96, 3) := by decide +kernel
theorem d_D_appended_103 : decode c_D_appended 103 = .ok (.goto (6), 3) := by decide +kernel
theorem d_D_appended_106 : decode c_D_appended 106 = .ok (.iload_n 3, 1) := by decide +kernel
theorem d_D_appended_107 : decode c_D_appended 107 = .ok (.iconst 1, 1) := by decide +kernel
theorem d_D_appended_108 : decode c_D_appended 108 = .ok (.isub, 1) := by decide +kernel
theorem d_D_appended_109 : decode c_D_appended 109 = .ok (.istore 5, 2) := by decide +kernel
theorem d_D_appended_111 : decode c_D_appended 111 = .ok (.aload_n 0, 1) := by decide +kernel
theorem d_D_appended_112 : decode c_D_appended 112 = .ok (.iload_n 1, 1) := by decide +kernel
theorem d_D_appended_113 : decode c_D_appended 113 = .ok (.iload_n 2, 1) := by decide +kernel
theorem d_D_appended_114 : decode c_D_appended 114 = .ok (.iconst 0, 1) := by decide +kernel
theorem d_D_appended_115 : decode c_D_appended 115 = .ok (.iload 5, 2) := by decide +kernel
theorem d_D_appended_117 : decode c_D_appended 117 = .ok (.ifCond .ge (7), 3) := by decide +kernel
theorem d_D_appended_120 : decode c_D_appended 120 = .ok (.iconst 0, 1) := by decide +kernel
theorem d_D_appended_121 : decode c_D_appended 121 = .ok (.goto (5), 3) := by decide +kernel
theorem d_D_appended_124 : decode c_D_appended 124 = .ok (.iload 5, 2) := by decide +kernel
theorem d_D_appended_126 : decode c_D_appended 126 = .ok (.iload 4, 2) := by decide +kernel
theorem d_D_appended_128 : decode c_D_appended 128 = .ok (.invokevirtual 238, 3) := by decide +kernel
theorem d_D_appended_131 : decode c_D_appended 131 = .ok (.return_, 1) := by decide +kernel
theorem d_D_appended_132 : decode c_D_appended 132 = .ok (.iload_n 3, 1) := by decide +kernel
theorem d_D_appended_133 : decode c_D_appended 133 = .ok (.istore 5, 2) := by decide +kernel
theorem d_D_appended_135 : decode c_D_appended 135 = .ok (.iconst 0, 1) := by decide +kernel
theorem d_D_appended_136 : decode c_D_appended 136 = .ok (.istore 6, 2) := by decide +kernel
theorem d_D_appended_138 : decode c_D_appended 138 = .ok (.iload 6, 2) := by decide +kernel
theorem d_D_appended_140 : decode c_D_appended 140 = .ok (.aload_n 0, 1) := by decide +kernel
theorem d_D_appended_141 : decode c_D_appended 141 = .ok (.getfield 89, 3) := by decide +kernel
theorem d_D_appended_144 : decode c_D_appended 144 = .ok (.bipush (7), 2) := by decide +kernel
theorem d_D_appended_146 : decode c_D_appended 146 = .ok (.iaload, 1) := by decide +kernel
theorem d_D_appended_147 : decode c_D_appended 147 = .ok (.if_icmp .ge (34), 3) := by decide +kernel
theorem d_D_appended_150 : decode c_D_appended 150 = .ok (.aload_n 0, 1) := by decide +kernel
theorem d_D_appended_151 : decode c_D_appended 151 = .ok (.iload_n 1, 1) := by decide +kernel
theorem d_D_appended_152 : decode c_D_appended 152 = .ok (.iload 5, 2) := by decide +kernel
theorem d_D_appended_154 : decode c_D_appended 154 = .ok (.iconst 1, 1) := by decide +kernel
theorem d_D_appended_155 : decode c_D_appended 155 = .ok (.iadd, 1) := by decide +kernel
theorem d_D_appended_156 : decode c_D_appended 156 = .ok (.bipush (10), 2) := by decide +kernel
theorem d_D_appended_158 : decode c_D_appended 158 = .ok (.iconst 4, 1) := by decide +kernel
theorem d_D_appended_159 : decode c_D_appended 159 = .ok (.iload 6, 2) := by decide +kernel
theorem d_D_appended_161 : decode c_D_appended 161 = .ok (.imul, 1) := by decide +kernel
theorem d_D_appended_162 : decode c_D_appended 162 = .ok (.iadd, 1) := by decide +kernel
theorem d_D_appended_163 : decode c_D_appended 163 = .ok (.invokevirtual 242, 3) := by decide +kernel
theorem d_D_appended_166 : decode c_D_appended 166 = .ok (.ifCond .ne (6), 3) := by decide +kernel
theorem d_D_appended_169 : decode c_D_appended 169 = .ok (.goto (12), 3) := by decide +kernel
theorem d_D_appended_172 : decode c_D_appended 172 = .ok (.iinc 5 (1), 3) := by decide +kernel
theorem d_D_appended_175 : decode c_D_appended 175 = .ok (.iinc 6 (1), 3) := by decide +kernel
theorem d_D_appended_178 : decode c_D_appended 178 = .ok (.goto (-40), 3) := by decide +kernel
theorem d_D_appended_181 : decode c_D_appended 181 = .ok (.aload_n 0, 1) := by decide +kernel
theorem d_D_appended_182 : decode c_D_appended 182 = .ok (.getfield 89, 3) := by decide +kernel
theorem d_D_appended_185 : decode c_D_appended 185 = .ok (.bipush (8), 2) := by decide +kernel
theorem d_D_appended_187 : decode c_D_appended 187 = .ok (.iaload, 1) := by decide +kernel
theorem d_D_appended_188 : decode c_D_appended 188 = .ok (.iload 5, 2) := by decide +kernel
theorem d_D_appended_190 : decode c_D_appended 190 = .ok (.if_icmp .ge (13), 3) := by decide +kernel
theorem d_D_appended_193 : decode c_D_appended 193 = .ok (.aload_n 0, 1) := by decide +kernel
theorem d_D_appended_194 : decode c_D_appended 194 = .ok (.getfield 89, 3) := by decide +kernel
theorem d_D_appended_197 : decode c_D_appended 197 = .ok (.bipush (8), 2) := by decide +kernel
theorem d_D_appended_199 : decode c_D_appended 199 = .ok (.iaload, 1) := by decide +kernel
theorem d_D_appended_200 : decode c_D_appended 200 = .ok (.goto (5), 3) := by decide +kernel
theorem d_D_appended_203 : decode c_D_appended 203 = .ok (.iload 5, 2) := by decide +kernel
theorem d_D_appended_205 : decode c_D_appended 205 = .ok (.istore 6, 2) := by decide +kernel
theorem d_D_appended_207 : decode c_D_appended 207 = .ok (.aload_n 0, 1) := by decide +kernel
theorem d_D_appended_208 : decode c_D_appended 208 = .ok (.getfield 50, 3) := by decide +kernel
theorem d_D_appended_211 : decode c_D_appended 211 = .ok (.iload_n 1, 1) := by decide +kernel
theorem d_D_appended_212 : decode c_D_appended 212 = .ok (.iload 6, 2) := by decide +kernel
theorem d_D_appended_214 : decode c_D_appended 214 = .ok (.aload_n 0, 1) := by decide +kernel
theorem d_D_appended_215 : decode c_D_appended 215 = .ok (.getfield 50, 3) := by decide +kernel
theorem d_D_appended_218 : decode c_D_appended 218 = .ok (.iload_n 1, 1) := by decide +kernel
theorem d_D_appended_219 : decode c_D_appended 219 = .ok (.iaload, 1) := by decide +kernel
theorem d_D_appended_220 : decode c_D_appended 220 = .ok (.if_icmp .le (8), 3) := by decide +kernel
theorem d_D_appended_223 : decode c_D_appended 223 = .ok (.iload 6, 2) := by decide +kernel
theorem d_D_appended_225 : decode c_D_appended 225 = .ok (.goto (9), 3) := by decide +kernel
theorem d_D_appended_228 : decode c_D_appended 228 = .ok (.aload_n 0, 1) := by decide +kernel
theorem d_D_appended_229 : decode c_D_appended 229 = .ok (.getfield 50, 3) := by decide +kernel
theorem d_D_appended_232 : decode c_D_appended 232 = .ok (.iload_n 1, 1) := by decide +kernel
theorem d_D_appended_233 : decode c_D_appended 233 = .ok (.iaload, 1) := by decide +kernel
theorem d_D_appended_234 : decode c_D_appended 234 = .ok (.iastore, 1) := by decide +kernel
theorem d_D_appended_235 : decode c_D_appended 235 = .ok (.aload_n 0, 1) := by decide +kernel
theorem d_D_appended_236 : decode c_D_appended 236 = .ok (.iload_n 1, 1) := by decide +kernel
theorem d_D_appended_237 : decode c_D_appended 237 = .ok (.iload_n 2, 1) := by decide +kernel
theorem d_D_appended_238 : decode c_D_appended 238 = .ok (.iconst 1, 1) := by decide +kernel
theorem d_D_appended_239 : decode c_D_appended 239 = .ok (.iload 5, 2) := by decide +kernel
theorem d_D_appended_241 : decode c_D_appended 241 = .ok (.iload 4, 2) := by decide +kernel
theorem d_D_appended_243 : decode c_D_appended 243 = .ok (.invokevirtual 238, 3) := by decide +kernel
theorem d_D_appended_246 : decode c_D_appended 246 = .ok (.return_, 1) := by decide +kernel
theorem d_D_result_0 : decode c_D_result 0 = .ok (.aload_n 0, 1) := by decide +kernel
theorem d_D_result_1 : decode c_D_result 1 = .ok (.iconst 5, 1) := by decide +kernel
theorem d_D_result_2 : decode c_D_result 2 = .ok (.iload_n 1, 1) := by decide +kernel
theorem d_D_result_3 : decode c_D_result 3 = .ok (.iload_n 2, 1) := by decide +kernel
theorem d_D_result_4 : decode c_D_result 4 = .ok (.aload_n 0, 1) := by decide +kernel
theorem d_D_result_5 : decode c_D_result 5 = .ok (.getfield 13, 3) := by decide +kernel
theorem d_D_result_8 : decode c_D_result 8 = .ok (.iload_n 1, 1) := by decide +kernel
theorem d_D_result_9 : decode c_D_result 9 = .ok (.iaload, 1) := by decide +kernel
theorem d_D_result_10 : decode c_D_result 10 = .ok (.invokevirtual 122, 3) := by decide +kernel
theorem d_D_result_13 : decode c_D_result 13 = .ok (.aload_n 0, 1) := by decide +kernel
theorem d_D_result_14 : decode c_D_result 14 = .ok (.getfield 89, 3) := by decide +kernel
theorem d_D_result_17 : decode c_D_result 17 = .ok (.iconst 4, 1) := by decide +kernel
theorem d_D_result_18 : decode c_D_result 18 = .ok (.iload 4, 2) := by decide +kernel
theorem d_D_result_20 : decode c_D_result 20 = .ok (.iastore, 1) := by decide +kernel
theorem d_D_result_21 : decode c_D_result 21 = .ok (.aload_n 0, 1) := by decide +kernel
theorem d_D_result_22 : decode c_D_result 22 = .ok (.getfield 89, 3) := by decide +kernel
theorem d_D_result_25 : decode c_D_result 25 = .ok (.bipush (6), 2) := by decide +kernel
theorem d_D_result_27 : decode c_D_result 27 = .ok (.iload_n 3, 1) := by decide +kernel
theorem d_D_result_28 : decode c_D_result 28 = .ok (.ifCond .eq (7), 3) := by decide +kernel
theorem d_D_result_31 : decode c_D_result 31 = .ok (.iconst 1, 1) := by decide +kernel
theorem d_D_result_32 : decode c_D_result 32 = .ok (.goto (4), 3) := by decide +kernel
theorem d_D_result_35 : decode c_D_result 35 = .ok (.iconst 0, 1) := by decide +kernel
theorem d_D_result_36 : decode c_D_result 36 = .ok (.iastore, 1) := by decide +kernel
theorem d_D_result_37 : decode c_D_result 37 = .ok (.aload_n 0, 1) := by decide +kernel
theorem d_D_result_38 : decode c_D_result 38 = .ok (.getfield 89, 3) := by decide +kernel
theorem d_D_result_41 : decode c_D_result 41 = .ok (.bipush (9), 2) := by decide +kernel
theorem d_D_result_43 : decode c_D_result 43 = .ok (.iload 5, 2) := by decide +kernel
theorem d_D_result_45 : decode c_D_result 45 = .ok (.iastore, 1) := by decide +kernel
theorem d_D_result_46 : decode c_D_result 46 = .ok (.aload_n 0, 1) := by decide +kernel
theorem d_D_result_47 : decode c_D_result 47 = .ok (.invokevirtual 129, 3) := by decide +kernel
theorem d_D_result_50 : decode c_D_result 50 = .ok (.return_, 1) := by decide +kernel
theorem d_D_takeEntry_0 : decode c_D_takeEntry 0 = .ok (.iload_n 2, 1) := by decide +kernel
theorem d_D_takeEntry_1 : decode c_D_takeEntry 1 = .ok (.aload_n 0, 1) := by decide +kernel
theorem d_D_takeEntry_2 : decode c_D_takeEntry 2 = .ok (.getfield 20, 3) := by decide +kernel
theorem d_D_takeEntry_5 : decode c_D_takeEntry 5 = .ok (.iload_n 1, 1) := by decide +kernel
theorem d_D_takeEntry_6 : decode c_D_takeEntry 6 = .ok (.iaload, 1) := by decide +kernel
theorem d_D_takeEntry_7 : decode c_D_takeEntry 7 = .ok (.if_icmp .gt (5), 3) := by decide +kernel
theorem d_D_takeEntry_10 : decode c_D_takeEntry 10 = .ok (.iconst 1, 1) := by decide +kernel
theorem d_D_takeEntry_11 : decode c_D_takeEntry 11 = .ok (.ireturn, 1) := by decide +kernel
theorem d_D_takeEntry_12 : decode c_D_takeEntry 12 = .ok (.iload_n 2, 1) := by decide +kernel
theorem d_D_takeEntry_13 : decode c_D_takeEntry 13 = .ok (.aload_n 0, 1) := by decide +kernel
theorem d_D_takeEntry_14 : decode c_D_takeEntry 14 = .ok (.iload_n 1, 1) := by decide +kernel
theorem d_D_takeEntry_15 : decode c_D_takeEntry 15 = .ok (.invokevirtual 96, 3) := by decide +kernel
theorem d_D_takeEntry_18 : decode c_D_takeEntry 18 = .ok (.if_icmp .gt (20), 3) := by decide +kernel
theorem d_D_takeEntry_21 : decode c_D_takeEntry 21 = .ok (.aload_n 0, 1) := by decide +kernel
theorem d_D_takeEntry_22 : decode c_D_takeEntry 22 = .ok (.iload_n 1, 1) := by decide +kernel
theorem d_D_takeEntry_23 : decode c_D_takeEntry 23 = .ok (.iload_n 2, 1) := by decide +kernel
theorem d_D_takeEntry_24 : decode c_D_takeEntry 24 = .ok (.invokevirtual 104, 3) := by decide +kernel
theorem d_D_takeEntry_27 : decode c_D_takeEntry 27 = .ok (.aload_n 0, 1) := by decide +kernel
theorem d_D_takeEntry_28 : decode c_D_takeEntry 28 = .ok (.getfield 89, 3) := by decide +kernel
theorem d_D_takeEntry_31 : decode c_D_takeEntry 31 = .ok (.iload_n 3, 1) := by decide +kernel
theorem d_D_takeEntry_32 : decode c_D_takeEntry 32 = .ok (.iaload, 1) := by decide +kernel
theorem d_D_takeEntry_33 : decode c_D_takeEntry 33 = .ok (.if_icmp .ne (5), 3) := by decide +kernel
theorem d_D_takeEntry_36 : decode c_D_takeEntry 36 = .ok (.iconst 1, 1) := by decide +kernel
theorem d_D_takeEntry_37 : decode c_D_takeEntry 37 = .ok (.ireturn, 1) := by decide +kernel
theorem d_D_takeEntry_38 : decode c_D_takeEntry 38 = .ok (.iload_n 2, 1) := by decide +kernel
theorem d_D_takeEntry_39 : decode c_D_takeEntry 39 = .ok (.aload_n 0, 1) := by decide +kernel
theorem d_D_takeEntry_40 : decode c_D_takeEntry 40 = .ok (.iload_n 1, 1) := by decide +kernel
theorem d_D_takeEntry_41 : decode c_D_takeEntry 41 = .ok (.invokevirtual 96, 3) := by decide +kernel
theorem d_D_takeEntry_44 : decode c_D_takeEntry 44 = .ok (.if_icmp .gt (19), 3) := by decide +kernel
theorem d_D_takeEntry_47 : decode c_D_takeEntry 47 = .ok (.aload_n 0, 1) := by decide +kernel
theorem d_D_takeEntry_48 : decode c_D_takeEntry 48 = .ok (.getfield 32, 3) := by decide +kernel
theorem d_D_takeEntry_51 : decode c_D_takeEntry 51 = .ok (.iload_n 1, 1) := by decide +kernel
theorem d_D_takeEntry_52 : decode c_D_takeEntry 52 = .ok (.iload_n 2, 1) := by decide +kernel
theorem d_D_takeEntry_53 : decode c_D_takeEntry 53 = .ok (.aload_n 0, 1) := by decide +kernel
theorem d_D_takeEntry_54 : decode c_D_takeEntry 54 = .ok (.getfield 20, 3) := by decide +kernel
theorem d_D_takeEntry_57 : decode c_D_takeEntry 57 = .ok (.iload_n 1, 1) := by decide +kernel
theorem d_D_takeEntry_58 : decode c_D_takeEntry 58 = .ok (.iaload, 1) := by decide +kernel
theorem d_D_takeEntry_59 : decode c_D_takeEntry 59 = .ok (.isub, 1) := by decide +kernel
theorem d_D_takeEntry_60 : decode c_D_takeEntry 60 = .ok (.iconst 1, 1) := by decide +kernel
theorem d_D_takeEntry_61 : decode c_D_takeEntry 61 = .ok (.isub, 1) := by decide +kernel
theorem d_D_takeEntry_62 : decode c_D_takeEntry 62 = .ok (.iastore, 1) := by decide +kernel
theorem d_D_takeEntry_63 : decode c_D_takeEntry 63 = .ok (.aload_n 0, 1) := by decide +kernel
theorem d_D_takeEntry_64 : decode c_D_takeEntry 64 = .ok (.getfield 32, 3) := by decide +kernel
theorem d_D_takeEntry_67 : decode c_D_takeEntry 67 = .ok (.iload_n 1, 1) := by decide +kernel
theorem d_D_takeEntry_68 : decode c_D_takeEntry 68 = .ok (.iaload, 1) := by decide +kernel
theorem d_D_takeEntry_69 : decode c_D_takeEntry 69 = .ok (.bipush (48), 2) := by decide +kernel
theorem d_D_takeEntry_71 : decode c_D_takeEntry 71 = .ok (.if_icmp .lt (5), 3) := by decide +kernel
theorem d_D_takeEntry_74 : decode c_D_takeEntry 74 = .ok (.iconst 0, 1) := by decide +kernel
theorem d_D_takeEntry_75 : decode c_D_takeEntry 75 = .ok (.ireturn, 1) := by decide +kernel
theorem d_D_takeEntry_76 : decode c_D_takeEntry 76 = .ok (.aload_n 0, 1) := by decide +kernel
theorem d_D_takeEntry_77 : decode c_D_takeEntry 77 = .ok (.iload_n 1, 1) := by decide +kernel
theorem d_D_takeEntry_78 : decode c_D_takeEntry 78 = .ok (.aload_n 0, 1) := by decide +kernel
theorem d_D_takeEntry_79 : decode c_D_takeEntry 79 = .ok (.getfield 89, 3) := by decide +kernel
theorem d_D_takeEntry_82 : decode c_D_takeEntry 82 = .ok (.iload_n 3, 1) := by decide +kernel
theorem d_D_takeEntry_83 : decode c_D_takeEntry 83 = .ok (.iaload, 1) := by decide +kernel
theorem d_D_takeEntry_84 : decode c_D_takeEntry 84 = .ok (.aload_n 0, 1) := by decide +kernel
theorem d_D_takeEntry_85 : decode c_D_takeEntry 85 = .ok (.getfield 89, 3) := by decide +kernel
theorem d_D_takeEntry_88 : decode c_D_takeEntry 88 = .ok (.iload_n 3, 1) := by decide +kernel
theorem d_D_takeEntry_89 : decode c_D_takeEntry 89 = .ok (.iconst 1, 1) := by decide +kernel
theorem d_D_takeEntry_90 : decode c_D_takeEntry 90 = .ok (.iadd, 1) := by decide +kernel
theorem d_D_takeEntry_91 : decode c_D_takeEntry 91 = .ok (.iaload, 1) := by decide +kernel
theorem d_D_takeEntry_92 : decode c_D_takeEntry 92 = .ok (.aload_n 0, 1) := by decide +kernel
theorem d_D_takeEntry_93 : decode c_D_takeEntry 93 = .ok (.getfield 89, 3) := by decide +kernel
theorem d_D_takeEntry_96 : decode c_D_takeEntry 96 = .ok (.iload_n 3, 1) := by decide +kernel
theorem d_D_takeEntry_97 : decode c_D_takeEntry 97 = .ok (.iconst 2, 1) := by decide +kernel
theorem d_D_takeEntry_98 : decode c_D_takeEntry 98 = .ok (.iadd, 1) := by decide +kernel
theorem d_D_takeEntry_99 : decode c_D_takeEntry 99 = .ok (.iaload, 1) := by decide +kernel
theorem d_D_takeEntry_100 : decode c_D_takeEntry 100 = .ok (.aload_n 0, 1) := by decide +kernel
theorem d_D_takeEntry_101 : decode c_D_takeEntry 101 = .ok (.getfield 89, 3) := by decide +kernel
theorem d_D_takeEntry_104 : decode c_D_takeEntry 104 = .ok (.iload_n 3, 1) := by decide +kernel
theorem d_D_takeEntry_105 : decode c_D_takeEntry 105 = .ok (.iconst 3, 1) := by decide +kernel
theorem d_D_takeEntry_106 : decode c_D_takeEntry 106 = .ok (.iadd, 1) := by decide +kernel
theorem d_D_takeEntry_107 : decode c_D_takeEntry 107 = .ok (.iaload, 1) := by decide +kernel
theorem d_D_takeEntry_108 : decode c_D_takeEntry 108 = .ok (.invokevirtual 168, 3) := by decide +kernel
theorem d_D_takeEntry_111 : decode c_D_takeEntry 111 = .ok (.iconst 1, 1) := by decide +kernel
theorem d_D_takeEntry_112 : decode c_D_takeEntry 112 = .ok (.ireturn, 1) := by decide +kernel
theorem d_D_resulted_0 : decode c_D_resulted 0 = .ok (.aload_n 0, 1) := by decide +kernel
theorem d_D_resulted_1 : decode c_D_resulted 1 = .ok (.getfield 47, 3) := by decide +kernel
theorem d_D_resulted_4 : decode c_D_resulted 4 = .ok (.iload_n 1, 1) := by decide +kernel
theorem d_D_resulted_5 : decode c_D_resulted 5 = .ok (.iaload, 1) := by decide +kernel
theorem d_D_resulted_6 : decode c_D_resulted 6 = .ok (.iconst 3, 1) := by decide +kernel
theorem d_D_resulted_7 : decode c_D_resulted 7 = .ok (.if_icmp .ne (18), 3) := by decide +kernel
theorem d_D_resulted_10 : decode c_D_resulted 10 = .ok (.aload_n 0, 1) := by decide +kernel
theorem d_D_resulted_11 : decode c_D_resulted 11 = .ok (.getfield 89, 3) := by decide +kernel
theorem d_D_resulted_14 : decode c_D_resulted 14 = .ok (.iconst 3, 1) := by decide +kernel
theorem d_D_resulted_15 : decode c_D_resulted 15 = .ok (.iaload, 1) := by decide +kernel
theorem d_D_resulted_16 : decode c_D_resulted 16 = .ok (.aload_n 0, 1) := by decide +kernel
theorem d_D_resulted_17 : decode c_D_resulted 17 = .ok (.getfield 13, 3) := by decide +kernel
theorem d_D_resulted_20 : decode c_D_resulted 20 = .ok (.iload_n 1, 1) := by decide +kernel
theorem d_D_resulted_21 : decode c_D_resulted 21 = .ok (.iaload, 1) := by decide +kernel
theorem d_D_resulted_22 : decode c_D_resulted 22 = .ok (.if_icmp .eq (4), 3) := by decide +kernel
theorem d_D_resulted_25 : decode c_D_resulted 25 = .ok (.return_, 1) := by decide +kernel
theorem d_D_resulted_26 : decode c_D_resulted 26 = .ok (.iconst 5, 1) := by decide +kernel
theorem d_D_resulted_27 : decode c_D_resulted 27 = .ok (.iload_n 1, 1) := by decide +kernel
theorem d_D_resulted_28 : decode c_D_resulted 28 = .ok (.imul, 1) := by decide +kernel
theorem d_D_resulted_29 : decode c_D_resulted 29 = .ok (.iload_n 2, 1) := by decide +kernel
theorem d_D_resulted_30 : decode c_D_resulted 30 = .ok (.iadd, 1) := by decide +kernel
theorem d_D_resulted_31 : decode c_D_resulted 31 = .ok (.istore_n 3, 1) := by decide +kernel
theorem d_D_resulted_32 : decode c_D_resulted 32 = .ok (.aload_n 0, 1) := by decide +kernel
theorem d_D_resulted_33 : decode c_D_resulted 33 = .ok (.getfield 89, 3) := by decide +kernel
theorem d_D_resulted_36 : decode c_D_resulted 36 = .ok (.iconst 4, 1) := by decide +kernel
theorem d_D_resulted_37 : decode c_D_resulted 37 = .ok (.iaload, 1) := by decide +kernel
theorem d_D_resulted_38 : decode c_D_resulted 38 = .ok (.istore 4, 2) := by decide +kernel
theorem d_D_resulted_40 : decode c_D_resulted 40 = .ok (.aload_n 0, 1) := by decide +kernel
theorem d_D_resulted_41 : decode c_D_resulted 41 = .ok (.getfield 65, 3) := by decide +kernel
theorem d_D_resulted_44 : decode c_D_resulted 44 = .ok (.iload_n 3, 1) := by decide +kernel
theorem d_D_resulted_45 : decode c_D_resulted 45 = .ok (.aload_n 0, 1) := by decide +kernel
theorem d_D_resulted_46 : decode c_D_resulted 46 = .ok (.getfield 89, 3) := by decide +kernel
theorem d_D_resulted_49 : decode c_D_resulted 49 = .ok (.bipush (9), 2) := by decide +kernel
theorem d_D_resulted_51 : decode c_D_resulted 51 = .ok (.iaload, 1) := by decide +kernel
theorem d_D_resulted_52 : decode c_D_resulted 52 = .ok (.aload_n 0, 1) := by decide +kernel
theorem d_D_resulted_53 : decode c_D_resulted 53 = .ok (.getfield 65, 3) := by decide +kernel
theorem d_D_resulted_56 : decode c_D_resulted 56 = .ok (.iload_n 3, 1) := by decide +kernel
theorem d_D_resulted_57 : decode c_D_resulted 57 = .ok (.iaload, 1) := by decide +kernel
theorem d_D_resulted_58 : decode c_D_resulted 58 = .ok (.if_icmp .le (13), 3) := by decide +kernel
theorem d_D_resulted_61 : decode c_D_resulted 61 = .ok (.aload_n 0, 1) := by decide +kernel
theorem d_D_resulted_62 : decode c_D_resulted 62 = .ok (.getfield 89, 3) := by decide +kernel
theorem d_D_resulted_65 : decode c_D_resulted 65 = .ok (.bipush (9), 2) := by decide +kernel
theorem d_D_resulted_67 : decode c_D_resulted 67 = .ok (.iaload, 1) := by decide +kernel
theorem d_D_resulted_68 : decode c_D_resulted 68 = .ok (.goto (9), 3) := by decide +kernel
theorem d_D_resulted_71 : decode c_D_resulted 71 = .ok (.aload_n 0, 1) := by decide +kernel
theorem d_D_resulted_72 : decode c_D_resulted 72 = .ok (.getfield 65, 3) := by decide +kernel
theorem d_D_resulted_75 : decode c_D_resulted 75 = .ok (.iload_n 3, 1) := by decide +kernel
theorem d_D_resulted_76 : decode c_D_resulted 76 = .ok (.iaload, 1) := by decide +kernel
theorem d_D_resulted_77 : decode c_D_resulted 77 = .ok (.iastore, 1) := by decide +kernel
theorem d_D_resulted_78 : decode c_D_resulted 78 = .ok (.aload_n 0, 1) := by decide +kernel
theorem d_D_resulted_79 : decode c_D_resulted 79 = .ok (.iload_n 1, 1) := by decide +kernel
theorem d_D_resulted_80 : decode c_D_resulted 80 = .ok (.invokevirtual 113, 3) := by decide +kernel
theorem d_D_resulted_83 : decode c_D_resulted 83 = .ok (.iload_n 2, 1) := by decide +kernel
theorem d_D_resulted_84 : decode c_D_resulted 84 = .ok (.ishr, 1) := by decide +kernel
theorem d_D_resulted_85 : decode c_D_resulted 85 = .ok (.iconst 1, 1) := by decide +kernel
theorem d_D_resulted_86 : decode c_D_resulted 86 = .ok (.iand, 1) := by decide +kernel
theorem d_D_resulted_87 : decode c_D_resulted 87 = .ok (.iconst 1, 1) := by decide +kernel
theorem d_D_resulted_88 : decode c_D_resulted 88 = .ok (.if_icmp .ne (7), 3) := by decide +kernel
theorem d_D_resulted_91 : decode c_D_resulted 91 = .ok (.iconst 1, 1) := by decide +kernel
theorem d_D_resulted_92 : decode c_D_resulted 92 = .ok (.goto (4), 3) := by decide +kernel
theorem d_D_resulted_95 : decode c_D_resulted 95 = .ok (.iconst 0, 1) := by decide +kernel
theorem d_D_resulted_96 : decode c_D_resulted 96 = .ok (.istore 5, 2) := by decide +kernel
theorem d_D_resulted_98 : decode c_D_resulted 98 = .ok (.aload_n 0, 1) := by decide +kernel
theorem d_D_resulted_99 : decode c_D_resulted 99 = .ok (.getfield 89, 3) := by decide +kernel
theorem d_D_resulted_102 : decode c_D_resulted 102 = .ok (.bipush (6), 2) := by decide +kernel
theorem d_D_resulted_104 : decode c_D_resulted 104 = .ok (.iaload, 1) := by decide +kernel
theorem d_D_resulted_105 : decode c_D_resulted 105 = .ok (.iconst 1, 1) := by decide +kernel
theorem d_D_resulted_106 : decode c_D_resulted 106 = .ok (.if_icmp .ne (88), 3) := by decide +kernel
theorem d_D_resulted_109 : decode c_D_resulted 109 = .ok (.aload_n 0, 1) := by decide +kernel
theorem d_D_resulted_110 : decode c_D_resulted 110 = .ok (.getfield 62, 3) := by decide +kernel
theorem d_D_resulted_113 : decode c_D_resulted 113 = .ok (.iload_n 3, 1) := by decide +kernel
theorem d_D_resulted_114 : decode c_D_resulted 114 = .ok (.iload 4, 2) := by decide +kernel
theorem d_D_resulted_116 : decode c_D_resulted 116 = .ok (.aload_n 0, 1) := by decide +kernel
theorem d_D_resulted_117 : decode c_D_resulted 117 = .ok (.getfield 62, 3) := by decide +kernel
theorem d_D_resulted_120 : decode c_D_resulted 120 = .ok (.iload_n 3, 1) := by decide +kernel
theorem d_D_resulted_121 : decode c_D_resulted 121 = .ok (.iaload, 1) := by decide +kernel
theorem d_D_resulted_122 : decode c_D_resulted 122 = .ok (.if_icmp .le (8), 3) := by decide +kernel
theorem d_D_resulted_125 : decode c_D_resulted 125 = .ok (.iload 4, 2) := by decide +kernel
theorem d_D_resulted_127 : decode c_D_resulted 127 = .ok (.goto (9), 3) := by decide +kernel
theorem d_D_resulted_130 : decode c_D_resulted 130 = .ok (.aload_n 0, 1) := by decide +kernel
theorem d_D_resulted_131 : decode c_D_resulted 131 = .ok (.getfield 62, 3) := by decide +kernel
theorem d_D_resulted_134 : decode c_D_resulted 134 = .ok (.iload_n 3, 1) := by decide +kernel
theorem d_D_resulted_135 : decode c_D_resulted 135 = .ok (.iaload, 1) := by decide +kernel
theorem d_D_resulted_136 : decode c_D_resulted 136 = .ok (.iastore, 1) := by decide +kernel
theorem d_D_resulted_137 : decode c_D_resulted 137 = .ok (.aload_n 0, 1) := by decide +kernel
theorem d_D_resulted_138 : decode c_D_resulted 138 = .ok (.getfield 59, 3) := by decide +kernel
theorem d_D_resulted_141 : decode c_D_resulted 141 = .ok (.iload_n 3, 1) := by decide +kernel
theorem d_D_resulted_142 : decode c_D_resulted 142 = .ok (.aload_n 0, 1) := by decide +kernel
theorem d_D_resulted_143 : decode c_D_resulted 143 = .ok (.getfield 62, 3) := by decide +kernel
theorem d_D_resulted_146 : decode c_D_resulted 146 = .ok (.iload_n 3, 1) := by decide +kernel
theorem d_D_resulted_147 : decode c_D_resulted 147 = .ok (.iaload, 1) := by decide +kernel
theorem d_D_resulted_148 : decode c_D_resulted 148 = .ok (.iconst 1, 1) := by decide +kernel
theorem d_D_resulted_149 : decode c_D_resulted 149 = .ok (.iadd, 1) := by decide +kernel
theorem d_D_resulted_150 : decode c_D_resulted 150 = .ok (.iastore, 1) := by decide +kernel
theorem d_D_resulted_151 : decode c_D_resulted 151 = .ok (.aload_n 0, 1) := by decide +kernel
theorem d_D_resulted_152 : decode c_D_resulted 152 = .ok (.iload_n 1, 1) := by decide +kernel
theorem d_D_resulted_153 : decode c_D_resulted 153 = .ok (.invokevirtual 172, 3) := by decide +kernel
theorem d_D_resulted_156 : decode c_D_resulted 156 = .ok (.aload_n 0, 1) := by decide +kernel
theorem d_D_resulted_157 : decode c_D_resulted 157 = .ok (.getfield 47, 3) := by decide +kernel
theorem d_D_resulted_160 : decode c_D_resulted 160 = .ok (.iload_n 1, 1) := by decide +kernel
theorem d_D_resulted_161 : decode c_D_resulted 161 = .ok (.iaload, 1) := by decide +kernel
theorem d_D_resulted_162 : decode c_D_resulted 162 = .ok (.iconst 3, 1) := by decide +kernel
theorem d_D_resulted_163 : decode c_D_resulted 163 = .ok (.if_icmp .ne (92), 3) := by decide +kernel
theorem d_D_resulted_166 : decode c_D_resulted 166 = .ok (.aload_n 0, 1) := by decide +kernel
theorem d_D_resulted_167 : decode c_D_resulted 167 = .ok (.getfield 59, 3) := by decide +kernel
theorem d_D_resulted_170 : decode c_D_resulted 170 = .ok (.iload_n 3, 1) := by decide +kernel
theorem d_D_resulted_171 : decode c_D_resulted 171 = .ok (.iaload, 1) := by decide +kernel
theorem d_D_resulted_172 : decode c_D_resulted 172 = .ok (.aload_n 0, 1) := by decide +kernel
theorem d_D_resulted_173 : decode c_D_resulted 173 = .ok (.iload_n 1, 1) := by decide +kernel
theorem d_D_resulted_174 : decode c_D_resulted 174 = .ok (.invokevirtual 96, 3) := by decide +kernel
theorem d_D_resulted_177 : decode c_D_resulted 177 = .ok (.if_icmp .gt (78), 3) := by decide +kernel
theorem d_D_resulted_180 : decode c_D_resulted 180 = .ok (.iload 5, 2) := by decide +kernel
theorem d_D_resulted_182 : decode c_D_resulted 182 = .ok (.ifCond .eq (73), 3) := by decide +kernel
theorem d_D_resulted_185 : decode c_D_resulted 185 = .ok (.aload_n 0, 1) := by decide +kernel
theorem d_D_resulted_186 : decode c_D_resulted 186 = .ok (.iload_n 1, 1) := by decide +kernel
theorem d_D_resulted_187 : decode c_D_resulted 187 = .ok (.iload_n 2, 1) := by decide +kernel
theorem d_D_resulted_188 : decode c_D_resulted 188 = .ok (.invokevirtual 132, 3) := by decide +kernel
theorem d_D_resulted_191 : decode c_D_resulted 191 = .ok (.goto (64), 3) := by decide +kernel
theorem d_D_resulted_194 : decode c_D_resulted 194 = .ok (.aload_n 0, 1) := by decide +kernel
theorem d_D_resulted_195 : decode c_D_resulted 195 = .ok (.getfield 59, 3) := by decide +kernel
theorem d_D_resulted_198 : decode c_D_resulted 198 = .ok (.iload_n 3, 1) := by decide +kernel
theorem d_D_resulted_199 : decode c_D_resulted 199 = .ok (.iaload, 1) := by decide +kernel
theorem d_D_resulted_200 : decode c_D_resulted 200 = .ok (.iconst 1, 1) := by decide +kernel
theorem d_D_resulted_201 : decode c_D_resulted 201 = .ok (.isub, 1) := by decide +kernel
theorem d_D_resulted_202 : decode c_D_resulted 202 = .ok (.iload 4, 2) := by decide +kernel
theorem d_D_resulted_204 : decode c_D_resulted 204 = .ok (.iconst 1, 1) := by decide +kernel
theorem d_D_resulted_205 : decode c_D_resulted 205 = .ok (.iadd, 1) := by decide +kernel
theorem d_D_resulted_206 : decode c_D_resulted 206 = .ok (.if_icmp .ge (14), 3) := by decide +kernel
theorem d_D_resulted_209 : decode c_D_resulted 209 = .ok (.aload_n 0, 1) := by decide +kernel
theorem d_D_resulted_210 : decode c_D_resulted 210 = .ok (.getfield 59, 3) := by decide +kernel
theorem d_D_resulted_213 : decode c_D_resulted 213 = .ok (.iload_n 3, 1) := by decide +kernel
theorem d_D_resulted_214 : decode c_D_resulted 214 = .ok (.iaload, 1) := by decide +kernel
theorem d_D_resulted_215 : decode c_D_resulted 215 = .ok (.iconst 1, 1) := by decide +kernel
theorem d_D_resulted_216 : decode c_D_resulted 216 = .ok (.isub, 1) := by decide +kernel
theorem d_D_resulted_217 : decode c_D_resulted 217 = .ok (.goto (7), 3) := by decide +kernel
theorem d_D_resulted_220 : decode c_D_resulted 220 = .ok (.iload 4, 2) := by decide +kernel
theorem d_D_resulted_222 : decode c_D_resulted 222 = .ok (.iconst 1, 1) := by decide +kernel
theorem d_D_resulted_223 : decode c_D_resulted 223 = .ok (.iadd, 1) := by decide +kernel
theorem d_D_resulted_224 : decode c_D_resulted 224 = .ok (.istore 6, 2) := by decide +kernel
theorem d_D_resulted_226 : decode c_D_resulted 226 = .ok (.aload_n 0, 1) := by decide +kernel
theorem d_D_resulted_227 : decode c_D_resulted 227 = .ok (.getfield 59, 3) := by decide +kernel
theorem d_D_resulted_230 : decode c_D_resulted 230 = .ok (.iload_n 3, 1) := by decide +kernel
theorem d_D_resulted_231 : decode c_D_resulted 231 = .ok (.iload 6, 2) := by decide +kernel
theorem d_D_resulted_233 : decode c_D_resulted 233 = .ok (.iconst 1, 1) := by decide +kernel
theorem d_D_resulted_234 : decode c_D_resulted 234 = .ok (.if_icmp .ge (7), 3) := by decide +kernel
theorem d_D_resulted_237 : decode c_D_resulted 237 = .ok (.iconst 1, 1) := by decide +kernel
theorem d_D_resulted_238 : decode c_D_resulted 238 = .ok (.goto (5), 3) := by decide +kernel
theorem d_D_resulted_241 : decode c_D_resulted 241 = .ok (.iload 6, 2) := by decide +kernel
theorem d_D_resulted_243 : decode c_D_resulted 243 = .ok (.iastore, 1) := by decide +kernel
theorem d_D_resulted_244 : decode c_D_resulted 244 = .ok (.iload 5, 2) := by decide +kernel
theorem d_D_resulted_246 : decode c_D_resulted 246 = .ok (.ifCond .eq (9), 3) := by decide +kernel
theorem d_D_resulted_249 : decode c_D_resulted 249 = .ok (.aload_n 0, 1) := by decide +kernel
theorem d_D_resulted_250 : decode c_D_resulted 250 = .ok (.iload_n 1, 1) := by decide +kernel
theorem d_D_resulted_251 : decode c_D_resulted 251 = .ok (.iload_n 2, 1) := by decide +kernel
theorem d_D_resulted_252 : decode c_D_resulted 252 = .ok (.invokevirtual 132, 3) := by decide +kernel
theorem d_D_resulted_255 : decode c_D_resulted 255 = .ok (.aload_n 0, 1) := by decide +kernel
theorem d_D_resulted_256 : decode c_D_resulted 256 = .ok (.getfield 47, 3) := by decide +kernel
theorem d_D_resulted_259 : decode c_D_resulted 259 = .ok (.iload_n 1, 1) := by decide +kernel
theorem d_D_resulted_260 : decode c_D_resulted 260 = .ok (.iaload, 1) := by decide +kernel
theorem d_D_resulted_261 : decode c_D_resulted 261 = .ok (.iconst 3, 1) := by decide +kernel
theorem d_D_resulted_262 : decode c_D_resulted 262 = .ok (.if_icmp .ne (8), 3) := by decide +kernel
theorem d_D_resulted_265 : decode c_D_resulted 265 = .ok (.aload_n 0, 1) := by decide +kernel
theorem d_D_resulted_266 : decode c_D_resulted 266 = .ok (.iload_n 1, 1) := by decide +kernel
theorem d_D_resulted_267 : decode c_D_resulted 267 = .ok (.invokevirtual 197, 3) := by decide +kernel
theorem d_D_resulted_270 : decode c_D_resulted 270 = .ok (.return_, 1) := by decide +kernel
theorem d_D_installed_0 : decode c_D_installed 0 = .ok (.aload_n 0, 1) := by decide +kernel
theorem d_D_installed_1 : decode c_D_installed 1 = .ok (.getfield 89, 3) := by decide +kernel
theorem d_D_installed_4 : decode c_D_installed 4 = .ok (.iconst 3, 1) := by decide +kernel
theorem d_D_installed_5 : decode c_D_installed 5 = .ok (.iaload, 1) := by decide +kernel
theorem d_D_installed_6 : decode c_D_installed 6 = .ok (.aload_n 0, 1) := by decide +kernel
theorem d_D_installed_7 : decode c_D_installed 7 = .ok (.getfield 13, 3) := by decide +kernel
theorem d_D_installed_10 : decode c_D_installed 10 = .ok (.iload_n 1, 1) := by decide +kernel
theorem d_D_installed_11 : decode c_D_installed 11 = .ok (.iaload, 1) := by decide +kernel
theorem d_D_installed_12 : decode c_D_installed 12 = .ok (.if_icmp .ge (13), 3) := by decide +kernel
theorem d_D_installed_15 : decode c_D_installed 15 = .ok (.aload_n 0, 1) := by decide +kernel
theorem d_D_installed_16 : decode c_D_installed 16 = .ok (.iload_n 1, 1) := by decide +kernel
theorem d_D_installed_17 : decode c_D_installed 17 = .ok (.iload_n 2, 1) := by decide +kernel
theorem d_D_installed_18 : decode c_D_installed 18 = .ok (.iconst 0, 1) := by decide +kernel
theorem d_D_installed_19 : decode c_D_installed 19 = .ok (.iconst 0, 1) := by decide +kernel
theorem d_D_installed_20 : decode c_D_installed 20 = .ok (.iconst 0, 1) := by decide +kernel
theorem d_D_installed_21 : decode c_D_installed 21 = .ok (.invokevirtual 238, 3) := by decide +kernel
theorem d_D_installed_24 : decode c_D_installed 24 = .ok (.return_, 1) := by decide +kernel
theorem d_D_installed_25 : decode c_D_installed 25 = .ok (.aload_n 0, 1) := by decide +kernel
theorem d_D_installed_26 : decode c_D_installed 26 = .ok (.iload_n 1, 1) := by decide +kernel
theorem d_D_installed_27 : decode c_D_installed 27 = .ok (.invokevirtual 139, 3) := by decide +kernel
theorem d_D_installed_30 : decode c_D_installed 30 = .ok (.aload_n 0, 1) := by decide +kernel
theorem d_D_installed_31 : decode c_D_installed 31 = .ok (.getfield 53, 3) := by decide +kernel
theorem d_D_installed_34 : decode c_D_installed 34 = .ok (.iload_n 1, 1) := by decide +kernel
theorem d_D_installed_35 : decode c_D_installed 35 = .ok (.iconst 1, 1) := by decide +kernel
theorem d_D_installed_36 : decode c_D_installed 36 = .ok (.bastore, 1) := by decide +kernel
theorem d_D_installed_37 : decode c_D_installed 37 = .ok (.aload_n 0, 1) := by decide +kernel
theorem d_D_installed_38 : decode c_D_installed 38 = .ok (.getfield 89, 3) := by decide +kernel
theorem d_D_installed_41 : decode c_D_installed 41 = .ok (.iconst 4, 1) := by decide +kernel
theorem d_D_installed_42 : decode c_D_installed 42 = .ok (.iaload, 1) := by decide +kernel
theorem d_D_installed_43 : decode c_D_installed 43 = .ok (.istore_n 3, 1) := by decide +kernel
theorem d_D_installed_44 : decode c_D_installed 44 = .ok (.iload_n 3, 1) := by decide +kernel
theorem d_D_installed_45 : decode c_D_installed 45 = .ok (.aload_n 0, 1) := by decide +kernel
theorem d_D_installed_46 : decode c_D_installed 46 = .ok (.getfield 50, 3) := by decide +kernel
theorem d_D_installed_49 : decode c_D_installed 49 = .ok (.iload_n 1, 1) := by decide +kernel
theorem d_D_installed_50 : decode c_D_installed 50 = .ok (.iaload, 1) := by decide +kernel
theorem d_D_installed_51 : decode c_D_installed 51 = .ok (.if_icmp .le (109), 3) := by decide +kernel
theorem d_D_installed_54 : decode c_D_installed 54 = .ok (.aload_n 0, 1) := by decide +kernel
theorem d_D_installed_55 : decode c_D_installed 55 = .ok (.iload_n 1, 1) := by decide +kernel
theorem d_D_installed_56 : decode c_D_installed 56 = .ok (.iload_n 3, 1) := by decide +kernel
theorem d_D_installed_57 : decode c_D_installed 57 = .ok (.invokevirtual 104, 3) := by decide +kernel
theorem d_D_installed_60 : decode c_D_installed 60 = .ok (.aload_n 0, 1) := by decide +kernel
theorem d_D_installed_61 : decode c_D_installed 61 = .ok (.getfield 89, 3) := by decide +kernel
theorem d_D_installed_64 : decode c_D_installed 64 = .ok (.iconst 5, 1) := by decide +kernel
theorem d_D_installed_65 : decode c_D_installed 65 = .ok (.iaload, 1) := by decide +kernel
theorem d_D_installed_66 : decode c_D_installed 66 = .ok (.if_icmp .ne (12), 3) := by decide +kernel
theorem d_D_installed_69 : decode c_D_installed 69 = .ok (.aload_n 0, 1) := by decide +kernel
theorem d_D_installed_70 : decode c_D_installed 70 = .ok (.iload_n 1, 1) := by decide +kernel
theorem d_D_installed_71 : decode c_D_installed 71 = .ok (.iload_n 3, 1) := by decide +kernel
theorem d_D_installed_72 : decode c_D_installed 72 = .ok (.invokevirtual 200, 3) := by decide +kernel
theorem d_D_installed_75 : decode c_D_installed 75 = .ok (.goto (10), 3) := by decide +kernel
theorem d_D_installed_78 : decode c_D_installed 78 = .ok (.aload_n 0, 1) := by decide +kernel
theorem d_D_installed_79 : decode c_D_installed 79 = .ok (.getfield 32, 3) := by decide +kernel
theorem d_D_installed_82 : decode c_D_installed 82 = .ok (.iload_n 1, 1) := by decide +kernel
theorem d_D_installed_83 : decode c_D_installed 83 = .ok (.iconst 0, 1) := by decide +kernel
theorem d_D_installed_84 : decode c_D_installed 84 = .ok (.iastore, 1) := by decide +kernel
theorem d_D_installed_85 : decode c_D_installed 85 = .ok (.aload_n 0, 1) := by decide +kernel
theorem d_D_installed_86 : decode c_D_installed 86 = .ok (.getfield 20, 3) := by decide +kernel
theorem d_D_installed_89 : decode c_D_installed 89 = .ok (.iload_n 1, 1) := by decide +kernel
theorem d_D_installed_90 : decode c_D_installed 90 = .ok (.iload_n 3, 1) := by decide +kernel
theorem d_D_installed_91 : decode c_D_installed 91 = .ok (.iastore, 1) := by decide +kernel
theorem d_D_installed_92 : decode c_D_installed 92 = .ok (.aload_n 0, 1) := by decide +kernel
theorem d_D_installed_93 : decode c_D_installed 93 = .ok (.getfield 23, 3) := by decide +kernel
theorem d_D_installed_96 : decode c_D_installed 96 = .ok (.iload_n 1, 1) := by decide +kernel
theorem d_D_installed_97 : decode c_D_installed 97 = .ok (.aload_n 0, 1) := by decide +kernel
theorem d_D_installed_98 : decode c_D_installed 98 = .ok (.getfield 89, 3) := by decide +kernel
theorem d_D_installed_101 : decode c_D_installed 101 = .ok (.iconst 5, 1) := by decide +kernel
theorem d_D_installed_102 : decode c_D_installed 102 = .ok (.iaload, 1) := by decide +kernel
theorem d_D_installed_103 : decode c_D_installed 103 = .ok (.iastore, 1) := by decide +kernel
theorem d_D_installed_104 : decode c_D_installed 104 = .ok (.aload_n 0, 1) := by decide +kernel
theorem d_D_installed_105 : decode c_D_installed 105 = .ok (.getfield 26, 3) := by decide +kernel
theorem d_D_installed_108 : decode c_D_installed 108 = .ok (.iload_n 1, 1) := by decide +kernel
theorem d_D_installed_109 : decode c_D_installed 109 = .ok (.aload_n 0, 1) := by decide +kernel
theorem d_D_installed_110 : decode c_D_installed 110 = .ok (.getfield 89, 3) := by decide +kernel
theorem d_D_installed_113 : decode c_D_installed 113 = .ok (.bipush (10), 2) := by decide +kernel
theorem d_D_installed_115 : decode c_D_installed 115 = .ok (.iaload, 1) := by decide +kernel
theorem d_D_installed_116 : decode c_D_installed 116 = .ok (.iastore, 1) := by decide +kernel
theorem d_D_installed_117 : decode c_D_installed 117 = .ok (.iconst 0, 1) := by decide +kernel
theorem d_D_installed_118 : decode c_D_installed 118 = .ok (.istore 4, 2) := by decide +kernel
theorem d_D_installed_120 : decode c_D_installed 120 = .ok (.iload 4, 2) := by decide +kernel
theorem d_D_installed_122 : decode c_D_installed 122 = .ok (.iconst 4, 1) := by decide +kernel
theorem d_D_installed_123 : decode c_D_installed 123 = .ok (.if_icmp .ge (30), 3) := by decide +kernel
theorem d_D_installed_126 : decode c_D_installed 126 = .ok (.aload_n 0, 1) := by decide +kernel
theorem d_D_installed_127 : decode c_D_installed 127 = .ok (.getfield 29, 3) := by decide +kernel
theorem d_D_installed_130 : decode c_D_installed 130 = .ok (.iconst 4, 1) := by decide +kernel
theorem d_D_installed_131 : decode c_D_installed 131 = .ok (.iload_n 1, 1) := by decide +kernel
theorem d_D_installed_132 : decode c_D_installed 132 = .ok (.imul, 1) := by decide +kernel
theorem d_D_installed_133 : decode c_D_installed 133 = .ok (.iload 4, 2) := by decide +kernel
theorem d_D_installed_135 : decode c_D_installed 135 = .ok (.iadd, 1) := by decide +kernel
theorem d_D_installed_136 : decode c_D_installed 136 = .ok (.aload_n 0, 1) := by decide +kernel
theorem d_D_installed_137 : decode c_D_installed 137 = .ok (.getfield 89, 3) := by decide +kernel
theorem d_D_installed_140 : decode c_D_installed 140 = .ok (.bipush (11), 2) := by decide +kernel
theorem d_D_installed_142 : decode c_D_installed 142 = .ok (.iload 4, 2) := by decide +kernel
theorem d_D_installed_144 : decode c_D_installed 144 = .ok (.iadd, 1) := by decide +kernel
theorem d_D_installed_145 : decode c_D_installed 145 = .ok (.iaload, 1) := by decide +kernel
theorem d_D_installed_146 : decode c_D_installed 146 = .ok (.iastore, 1) := by decide +kernel
theorem d_D_installed_147 : decode c_D_installed 147 = .ok (.iinc 4 (1), 3) := by decide +kernel
theorem d_D_installed_150 : decode c_D_installed 150 = .ok (.goto (-30), 3) := by decide +kernel
theorem d_D_installed_153 : decode c_D_installed 153 = .ok (.aload_n 0, 1) := by decide +kernel
theorem d_D_installed_154 : decode c_D_installed 154 = .ok (.getfield 50, 3) := by decide +kernel
theorem d_D_installed_157 : decode c_D_installed 157 = .ok (.iload_n 1, 1) := by decide +kernel
theorem d_D_installed_158 : decode c_D_installed 158 = .ok (.iload_n 3, 1) := by decide +kernel
theorem d_D_installed_159 : decode c_D_installed 159 = .ok (.iastore, 1) := by decide +kernel
theorem d_D_installed_160 : decode c_D_installed 160 = .ok (.aload_n 0, 1) := by decide +kernel
theorem d_D_installed_161 : decode c_D_installed 161 = .ok (.iload_n 1, 1) := by decide +kernel
theorem d_D_installed_162 : decode c_D_installed 162 = .ok (.iload_n 2, 1) := by decide +kernel
theorem d_D_installed_163 : decode c_D_installed 163 = .ok (.iconst 1, 1) := by decide +kernel
theorem d_D_installed_164 : decode c_D_installed 164 = .ok (.iload_n 3, 1) := by decide +kernel
theorem d_D_installed_165 : decode c_D_installed 165 = .ok (.aload_n 0, 1) := by decide +kernel
theorem d_D_installed_166 : decode c_D_installed 166 = .ok (.getfield 89, 3) := by decide +kernel
theorem d_D_installed_169 : decode c_D_installed 169 = .ok (.bipush (9), 2) := by decide +kernel
theorem d_D_installed_171 : decode c_D_installed 171 = .ok (.iaload, 1) := by decide +kernel
theorem d_D_installed_172 : decode c_D_installed 172 = .ok (.invokevirtual 238, 3) := by decide +kernel
theorem d_D_installed_175 : decode c_D_installed 175 = .ok (.return_, 1) := by decide +kernel
theorem d_D_lose_0 : decode c_D_lose 0 = .ok (.aload_n 0, 1) := by decide +kernel
theorem d_D_lose_1 : decode c_D_lose 1 = .ok (.iconst 0, 1) := by decide +kernel
theorem d_D_lose_2 : decode c_D_lose 2 = .ok (.putfield 92, 3) := by decide +kernel
theorem d_D_lose_5 : decode c_D_lose 5 = .ok (.iload_n 1, 1) := by decide +kernel
theorem d_D_lose_6 : decode c_D_lose 6 = .ok (.ifCond .lt (11), 3) := by decide +kernel
theorem d_D_lose_9 : decode c_D_lose 9 = .ok (.iload_n 1, 1) := by decide +kernel
theorem d_D_lose_10 : decode c_D_lose 10 = .ok (.aload_n 0, 1) := by decide +kernel
theorem d_D_lose_11 : decode c_D_lose 11 = .ok (.getfield 119, 3) := by decide +kernel
theorem d_D_lose_14 : decode c_D_lose 14 = .ok (.if_icmp .lt (5), 3) := by decide +kernel
theorem d_D_lose_17 : decode c_D_lose 17 = .ok (.iconst 0, 1) := by decide +kernel
theorem d_D_lose_18 : decode c_D_lose 18 = .ok (.ireturn, 1) := by decide +kernel
theorem d_D_lose_19 : decode c_D_lose 19 = .ok (.aload_n 0, 1) := by decide +kernel
theorem d_D_lose_20 : decode c_D_lose 20 = .ok (.iload_n 1, 1) := by decide +kernel
theorem d_D_lose_21 : decode c_D_lose 21 = .ok (.invokevirtual 203, 3) := by decide +kernel
theorem d_D_lose_24 : decode c_D_lose 24 = .ok (.iconst 1, 1) := by decide +kernel
theorem d_D_lose_25 : decode c_D_lose 25 = .ok (.ireturn, 1) := by decide +kernel
theorem d_D_waiting_0 : decode c_D_waiting 0 = .ok (.aload_n 0, 1) := by decide +kernel
theorem d_D_waiting_1 : decode c_D_waiting 1 = .ok (.iconst 0, 1) := by decide +kernel
theorem d_D_waiting_2 : decode c_D_waiting 2 = .ok (.putfield 92, 3) := by decide +kernel
theorem d_D_waiting_5 : decode c_D_waiting 5 = .ok (.aload_n 0, 1) := by decide +kernel
theorem d_D_waiting_6 : decode c_D_waiting 6 = .ok (.getfield 119, 3) := by decide +kernel
theorem d_D_waiting_9 : decode c_D_waiting 9 = .ok (.ireturn, 1) := by decide +kernel
theorem d_D_message_0 : decode c_D_message 0 = .ok (.aload_n 0, 1) := by decide +kernel
theorem d_D_message_1 : decode c_D_message 1 = .ok (.iconst 0, 1) := by decide +kernel
theorem d_D_message_2 : decode c_D_message 2 = .ok (.putfield 92, 3) := by decide +kernel
theorem d_D_message_5 : decode c_D_message 5 = .ok (.iload_n 1, 1) := by decide +kernel
theorem d_D_message_6 : decode c_D_message 6 = .ok (.ifCond .lt (21), 3) := by decide +kernel
theorem d_D_message_9 : decode c_D_message 9 = .ok (.iload_n 1, 1) := by decide +kernel
theorem d_D_message_10 : decode c_D_message 10 = .ok (.aload_n 0, 1) := by decide +kernel
theorem d_D_message_11 : decode c_D_message 11 = .ok (.getfield 119, 3) := by decide +kernel
theorem d_D_message_14 : decode c_D_message 14 = .ok (.if_icmp .ge (13), 3) := by decide +kernel
theorem d_D_message_17 : decode c_D_message 17 = .ok (.iload_n 2, 1) := by decide +kernel
theorem d_D_message_18 : decode c_D_message 18 = .ok (.ifCond .lt (9), 3) := by decide +kernel
theorem d_D_message_21 : decode c_D_message 21 = .ok (.iload_n 2, 1) := by decide +kernel
theorem d_D_message_22 : decode c_D_message 22 = .ok (.bipush (6), 2) := by decide +kernel
theorem d_D_message_24 : decode c_D_message 24 = .ok (.if_icmp .le (5), 3) := by decide +kernel
theorem d_D_message_27 : decode c_D_message 27 = .ok (.iconst (-1), 1) := by decide +kernel
theorem d_D_message_28 : decode c_D_message 28 = .ok (.ireturn, 1) := by decide +kernel
theorem d_D_message_29 : decode c_D_message 29 = .ok (.bipush (20), 2) := by decide +kernel
theorem d_D_message_31 : decode c_D_message 31 = .ok (.iload_n 1, 1) := by decide +kernel
theorem d_D_message_32 : decode c_D_message 32 = .ok (.imul, 1) := by decide +kernel
theorem d_D_message_33 : decode c_D_message 33 = .ok (.istore_n 3, 1) := by decide +kernel
theorem d_D_message_34 : decode c_D_message 34 = .ok (.iload_n 2, 1) := by decide +kernel
theorem d_D_message_35 : decode c_D_message 35 = .ok (.iconst 5, 1) := by decide +kernel
theorem d_D_message_36 : decode c_D_message 36 = .ok (.if_icmp .ge (12), 3) := by decide +kernel
theorem d_D_message_39 : decode c_D_message 39 = .ok (.aload_n 0, 1) := by decide +kernel
theorem d_D_message_40 : decode c_D_message 40 = .ok (.getfield 86, 3) := by decide +kernel
theorem d_D_message_43 : decode c_D_message 43 = .ok (.iload_n 3, 1) := by decide +kernel
theorem d_D_message_44 : decode c_D_message 44 = .ok (.iload_n 2, 1) := by decide +kernel
theorem d_D_message_45 : decode c_D_message 45 = .ok (.iadd, 1) := by decide +kernel
theorem d_D_message_46 : decode c_D_message 46 = .ok (.iaload, 1) := by decide +kernel
theorem d_D_message_47 : decode c_D_message 47 = .ok (.ireturn, 1) := by decide +kernel
theorem d_D_message_48 : decode c_D_message 48 = .ok (.iload_n 2, 1) := by decide +kernel
theorem d_D_message_49 : decode c_D_message 49 = .ok (.bipush (6), 2) := by decide +kernel
theorem d_D_message_51 : decode c_D_message 51 = .ok (.if_icmp .ne (13), 3) := by decide +kernel
theorem d_D_message_54 : decode c_D_message 54 = .ok (.aload_n 0, 1) := by decide +kernel
theorem d_D_message_55 : decode c_D_message 55 = .ok (.getfield 86, 3) := by decide +kernel
theorem d_D_message_58 : decode c_D_message 58 = .ok (.iload_n 3, 1) := by decide +kernel
theorem d_D_message_59 : decode c_D_message 59 = .ok (.bipush (9), 2) := by decide +kernel
theorem d_D_message_61 : decode c_D_message 61 = .ok (.iadd, 1) := by decide +kernel
theorem d_D_message_62 : decode c_D_message 62 = .ok (.iaload, 1) := by decide +kernel
theorem d_D_message_63 : decode c_D_message 63 = .ok (.ireturn, 1) := by decide +kernel
theorem d_D_message_64 : decode c_D_message 64 = .ok (.aload_n 0, 1) := by decide +kernel
theorem d_D_message_65 : decode c_D_message 65 = .ok (.getfield 86, 3) := by decide +kernel
theorem d_D_message_68 : decode c_D_message 68 = .ok (.iload_n 3, 1) := by decide +kernel
theorem d_D_message_69 : decode c_D_message 69 = .ok (.iaload, 1) := by decide +kernel
theorem d_D_message_70 : decode c_D_message 70 = .ok (.iconst 4, 1) := by decide +kernel
theorem d_D_message_71 : decode c_D_message 71 = .ok (.if_icmp .ne (15), 3) := by decide +kernel
theorem d_D_message_74 : decode c_D_message 74 = .ok (.aload_n 0, 1) := by decide +kernel
theorem d_D_message_75 : decode c_D_message 75 = .ok (.getfield 86, 3) := by decide +kernel
theorem d_D_message_78 : decode c_D_message 78 = .ok (.iload_n 3, 1) := by decide +kernel
theorem d_D_message_79 : decode c_D_message 79 = .ok (.bipush (7), 2) := by decide +kernel
theorem d_D_message_81 : decode c_D_message 81 = .ok (.iadd, 1) := by decide +kernel
theorem d_D_message_82 : decode c_D_message 82 = .ok (.iaload, 1) := by decide +kernel
theorem d_D_message_83 : decode c_D_message 83 = .ok (.goto (12), 3) := by decide +kernel
theorem d_D_message_86 : decode c_D_message 86 = .ok (.aload_n 0, 1) := by decide +kernel
theorem d_D_message_87 : decode c_D_message 87 = .ok (.getfield 86, 3) := by decide +kernel
theorem d_D_message_90 : decode c_D_message 90 = .ok (.iload_n 3, 1) := by decide +kernel
theorem d_D_message_91 : decode c_D_message 91 = .ok (.bipush (6), 2) := by decide +kernel
theorem d_D_message_93 : decode c_D_message 93 = .ok (.iadd, 1) := by decide +kernel
theorem d_D_message_94 : decode c_D_message 94 = .ok (.iaload, 1) := by decide +kernel
theorem d_D_message_95 : decode c_D_message 95 = .ok (.ireturn, 1) := by decide +kernel
theorem d_D_state_0 : decode c_D_state 0 = .ok (.aload_n 0, 1) := by decide +kernel
theorem d_D_state_1 : decode c_D_state 1 = .ok (.iconst 0, 1) := by decide +kernel
theorem d_D_state_2 : decode c_D_state 2 = .ok (.putfield 92, 3) := by decide +kernel
theorem d_D_state_5 : decode c_D_state 5 = .ok (.iload_n 1, 1) := by decide +kernel
theorem d_D_state_6 : decode c_D_state 6 = .ok (.invokestatic 143, 3) := by decide +kernel
theorem d_D_state_9 : decode c_D_state 9 = .ok (.ifCond .ne (5), 3) := by decide +kernel
theorem d_D_state_12 : decode c_D_state 12 = .ok (.iconst (-1), 1) := by decide +kernel
theorem d_D_state_13 : decode c_D_state 13 = .ok (.ireturn, 1) := by decide +kernel
theorem d_D_state_14 : decode c_D_state 14 = .ok (.iload_n 2, 1) := by decide +kernel
theorem d_D_state_15 : decode c_D_state 15 = .ok (.tableswitch (126) (0) (8) #[49, 56, 63, 70, 77, 84, 90, 96, 111], 49) := by decide +kernel
theorem d_D_state_64 : decode c_D_state 64 = .ok (.aload_n 0, 1) := by decide +kernel
theorem d_D_state_65 : decode c_D_state 65 = .ok (.getfield 47, 3) := by decide +kernel
theorem d_D_state_68 : decode c_D_state 68 = .ok (.iload_n 1, 1) := by decide +kernel
theorem d_D_state_69 : decode c_D_state 69 = .ok (.iaload, 1) := by decide +kernel
theorem d_D_state_70 : decode c_D_state 70 = .ok (.ireturn, 1) := by decide +kernel
theorem d_D_state_71 : decode c_D_state 71 = .ok (.aload_n 0, 1) := by decide +kernel
theorem d_D_state_72 : decode c_D_state 72 = .ok (.getfield 13, 3) := by decide +kernel
theorem d_D_state_75 : decode c_D_state 75 = .ok (.iload_n 1, 1) := by decide +kernel
theorem d_D_state_76 : decode c_D_state 76 = .ok (.iaload, 1) := by decide +kernel
theorem d_D_state_77 : decode c_D_state 77 = .ok (.ireturn, 1) := by decide +kernel
theorem d_D_state_78 : decode c_D_state 78 = .ok (.aload_n 0, 1) := by decide +kernel
theorem d_D_state_79 : decode c_D_state 79 = .ok (.getfield 17, 3) := by decide +kernel
theorem d_D_state_82 : decode c_D_state 82 = .ok (.iload_n 1, 1) := by decide +kernel
theorem d_D_state_83 : decode c_D_state 83 = .ok (.iaload, 1) := by decide +kernel
theorem d_D_state_84 : decode c_D_state 84 = .ok (.ireturn, 1) := by decide +kernel
theorem d_D_state_85 : decode c_D_state 85 = .ok (.aload_n 0, 1) := by decide +kernel
theorem d_D_state_86 : decode c_D_state 86 = .ok (.getfield 50, 3) := by decide +kernel
theorem d_D_state_89 : decode c_D_state 89 = .ok (.iload_n 1, 1) := by decide +kernel
theorem d_D_state_90 : decode c_D_state 90 = .ok (.iaload, 1) := by decide +kernel
theorem d_D_state_91 : decode c_D_state 91 = .ok (.ireturn, 1) := by decide +kernel
theorem d_D_state_92 : decode c_D_state 92 = .ok (.aload_n 0, 1) := by decide +kernel
theorem d_D_state_93 : decode c_D_state 93 = .ok (.getfield 20, 3) := by decide +kernel
theorem d_D_state_96 : decode c_D_state 96 = .ok (.iload_n 1, 1) := by decide +kernel
theorem d_D_state_97 : decode c_D_state 97 = .ok (.iaload, 1) := by decide +kernel
theorem d_D_state_98 : decode c_D_state 98 = .ok (.ireturn, 1) := by decide +kernel
theorem d_D_state_99 : decode c_D_state 99 = .ok (.aload_n 0, 1) := by decide +kernel
theorem d_D_state_100 : decode c_D_state 100 = .ok (.iload_n 1, 1) := by decide +kernel
theorem d_D_state_101 : decode c_D_state 101 = .ok (.invokevirtual 96, 3) := by decide +kernel
theorem d_D_state_104 : decode c_D_state 104 = .ok (.ireturn, 1) := by decide +kernel
theorem d_D_state_105 : decode c_D_state 105 = .ok (.aload_n 0, 1) := by decide +kernel
theorem d_D_state_106 : decode c_D_state 106 = .ok (.iload_n 1, 1) := by decide +kernel
theorem d_D_state_107 : decode c_D_state 107 = .ok (.invokevirtual 113, 3) := by decide +kernel
theorem d_D_state_110 : decode c_D_state 110 = .ok (.ireturn, 1) := by decide +kernel
theorem d_D_state_111 : decode c_D_state 111 = .ok (.aload_n 0, 1) := by decide +kernel
theorem d_D_state_112 : decode c_D_state 112 = .ok (.getfield 53, 3) := by decide +kernel
theorem d_D_state_115 : decode c_D_state 115 = .ok (.iload_n 1, 1) := by decide +kernel
theorem d_D_state_116 : decode c_D_state 116 = .ok (.baload, 1) := by decide +kernel
theorem d_D_state_117 : decode c_D_state 117 = .ok (.ifCond .eq (7), 3) := by decide +kernel
theorem d_D_state_120 : decode c_D_state 120 = .ok (.iconst 1, 1) := by decide +kernel
theorem d_D_state_121 : decode c_D_state 121 = .ok (.goto (4), 3) := by decide +kernel
theorem d_D_state_124 : decode c_D_state 124 = .ok (.iconst 0, 1) := by decide +kernel
theorem d_D_state_125 : decode c_D_state 125 = .ok (.ireturn, 1) := by decide +kernel
theorem d_D_state_126 : decode c_D_state 126 = .ok (.aload_n 0, 1) := by decide +kernel
theorem d_D_state_127 : decode c_D_state 127 = .ok (.getfield 7, 3) := by decide +kernel
theorem d_D_state_130 : decode c_D_state 130 = .ok (.iload_n 1, 1) := by decide +kernel
theorem d_D_state_131 : decode c_D_state 131 = .ok (.baload, 1) := by decide +kernel
theorem d_D_state_132 : decode c_D_state 132 = .ok (.ifCond .eq (7), 3) := by decide +kernel
theorem d_D_state_135 : decode c_D_state 135 = .ok (.iconst 0, 1) := by decide +kernel
theorem d_D_state_136 : decode c_D_state 136 = .ok (.goto (4), 3) := by decide +kernel
theorem d_D_state_139 : decode c_D_state 139 = .ok (.iconst 1, 1) := by decide +kernel
theorem d_D_state_140 : decode c_D_state 140 = .ok (.ireturn, 1) := by decide +kernel
theorem d_D_state_141 : decode c_D_state 141 = .ok (.iconst (-1), 1) := by decide +kernel
theorem d_D_state_142 : decode c_D_state 142 = .ok (.ireturn, 1) := by decide +kernel
theorem d_D_entry_0 : decode c_D_entry 0 = .ok (.aload_n 0, 1) := by decide +kernel
theorem d_D_entry_1 : decode c_D_entry 1 = .ok (.iconst 0, 1) := by decide +kernel
theorem d_D_entry_2 : decode c_D_entry 2 = .ok (.putfield 92, 3) := by decide +kernel
theorem d_D_entry_5 : decode c_D_entry 5 = .ok (.iload_n 1, 1) := by decide +kernel
theorem d_D_entry_6 : decode c_D_entry 6 = .ok (.invokestatic 143, 3) := by decide +kernel
theorem d_D_entry_9 : decode c_D_entry 9 = .ok (.ifCond .eq (12), 3) := by decide +kernel
theorem d_D_entry_12 : decode c_D_entry 12 = .ok (.aload_n 0, 1) := by decide +kernel
theorem d_D_entry_13 : decode c_D_entry 13 = .ok (.iload_n 1, 1) := by decide +kernel
theorem d_D_entry_14 : decode c_D_entry 14 = .ok (.iload_n 2, 1) := by decide +kernel
theorem d_D_entry_15 : decode c_D_entry 15 = .ok (.invokevirtual 100, 3) := by decide +kernel
theorem d_D_entry_18 : decode c_D_entry 18 = .ok (.goto (4), 3) := by decide +kernel
theorem d_D_entry_21 : decode c_D_entry 21 = .ok (.iconst (-1), 1) := by decide +kernel
theorem d_D_entry_22 : decode c_D_entry 22 = .ok (.istore 4, 2) := by decide +kernel
theorem d_D_entry_24 : decode c_D_entry 24 = .ok (.iload 4, 2) := by decide +kernel
theorem d_D_entry_26 : decode c_D_entry 26 = .ok (.ifCond .ge (5), 3) := by decide +kernel
theorem d_D_entry_29 : decode c_D_entry 29 = .ok (.iconst (-1), 1) := by decide +kernel
theorem d_D_entry_30 : decode c_D_entry 30 = .ok (.ireturn, 1) := by decide +kernel
theorem d_D_entry_31 : decode c_D_entry 31 = .ok (.iload_n 3, 1) := by decide +kernel
theorem d_D_entry_32 : decode c_D_entry 32 = .ok (.tableswitch (64) (0) (3) #[32, 40, 48, 56], 32) := by decide +kernel
theorem d_D_entry_64 : decode c_D_entry 64 = .ok (.aload_n 0, 1) := by decide +kernel
theorem d_D_entry_65 : decode c_D_entry 65 = .ok (.getfield 35, 3) := by decide +kernel
theorem d_D_entry_68 : decode c_D_entry 68 = .ok (.iload 4, 2) := by decide +kernel
theorem d_D_entry_70 : decode c_D_entry 70 = .ok (.iaload, 1) := by decide +kernel
theorem d_D_entry_71 : decode c_D_entry 71 = .ok (.ireturn, 1) := by decide +kernel
theorem d_D_entry_72 : decode c_D_entry 72 = .ok (.aload_n 0, 1) := by decide +kernel
theorem d_D_entry_73 : decode c_D_entry 73 = .ok (.getfield 38, 3) := by decide +kernel
theorem d_D_entry_76 : decode c_D_entry 76 = .ok (.iload 4, 2) := by decide +kernel
theorem d_D_entry_78 : decode c_D_entry 78 = .ok (.iaload, 1) := by decide +kernel
theorem d_D_entry_79 : decode c_D_entry 79 = .ok (.ireturn, 1) := by decide +kernel
theorem d_D_entry_80 : decode c_D_entry 80 = .ok (.aload_n 0, 1) := by decide +kernel
theorem d_D_entry_81 : decode c_D_entry 81 = .ok (.getfield 41, 3) := by decide +kernel
theorem d_D_entry_84 : decode c_D_entry 84 = .ok (.iload 4, 2) := by decide +kernel
theorem d_D_entry_86 : decode c_D_entry 86 = .ok (.iaload, 1) := by decide +kernel
theorem d_D_entry_87 : decode c_D_entry 87 = .ok (.ireturn, 1) := by decide +kernel
theorem d_D_entry_88 : decode c_D_entry 88 = .ok (.aload_n 0, 1) := by decide +kernel
theorem d_D_entry_89 : decode c_D_entry 89 = .ok (.getfield 44, 3) := by decide +kernel
theorem d_D_entry_92 : decode c_D_entry 92 = .ok (.iload 4, 2) := by decide +kernel
theorem d_D_entry_94 : decode c_D_entry 94 = .ok (.iaload, 1) := by decide +kernel
theorem d_D_entry_95 : decode c_D_entry 95 = .ok (.ireturn, 1) := by decide +kernel
theorem d_D_entry_96 : decode c_D_entry 96 = .ok (.iconst (-1), 1) := by decide +kernel
theorem d_D_entry_97 : decode c_D_entry 97 = .ok (.ireturn, 1) := by decide +kernel
theorem d_D_stored_0 : decode c_D_stored 0 = .ok (.aload_n 0, 1) := by decide +kernel
theorem d_D_stored_1 : decode c_D_stored 1 = .ok (.iconst 0, 1) := by decide +kernel
theorem d_D_stored_2 : decode c_D_stored 2 = .ok (.putfield 92, 3) := by decide +kernel
theorem d_D_stored_5 : decode c_D_stored 5 = .ok (.iload_n 1, 1) := by decide +kernel
theorem d_D_stored_6 : decode c_D_stored 6 = .ok (.invokestatic 143, 3) := by decide +kernel
theorem d_D_stored_9 : decode c_D_stored 9 = .ok (.ifCond .eq (25), 3) := by decide +kernel
theorem d_D_stored_12 : decode c_D_stored 12 = .ok (.iload_n 2, 1) := by decide +kernel
theorem d_D_stored_13 : decode c_D_stored 13 = .ok (.invokestatic 188, 3) := by decide +kernel
theorem d_D_stored_16 : decode c_D_stored 16 = .ok (.ifCond .eq (18), 3) := by decide +kernel
theorem d_D_stored_19 : decode c_D_stored 19 = .ok (.aload_n 0, 1) := by decide +kernel
theorem d_D_stored_20 : decode c_D_stored 20 = .ok (.iload_n 1, 1) := by decide +kernel
theorem d_D_stored_21 : decode c_D_stored 21 = .ok (.iload_n 2, 1) := by decide +kernel
theorem d_D_stored_22 : decode c_D_stored 22 = .ok (.aload_n 0, 1) := by decide +kernel
theorem d_D_stored_23 : decode c_D_stored 23 = .ok (.getfield 50, 3) := by decide +kernel
theorem d_D_stored_26 : decode c_D_stored 26 = .ok (.iload_n 1, 1) := by decide +kernel
theorem d_D_stored_27 : decode c_D_stored 27 = .ok (.iaload, 1) := by decide +kernel
theorem d_D_stored_28 : decode c_D_stored 28 = .ok (.invokevirtual 181, 3) := by decide +kernel
theorem d_D_stored_31 : decode c_D_stored 31 = .ok (.goto (4), 3) := by decide +kernel
theorem d_D_stored_34 : decode c_D_stored 34 = .ok (.iconst 0, 1) := by decide +kernel
theorem d_D_stored_35 : decode c_D_stored 35 = .ok (.ireturn, 1) := by decide +kernel
theorem oi_D_1 : Cond.methodLink "QuorumLogModel" 1 Lib.objectInit ∈ qu_W := qm_716
theorem fp_D_7 : qx_FP "QuorumLogModel" 7 8 1 (.array .boolean) true := ⟨"QuorumLogModel", T_D, 30, t_D, rfl, by decide, uw_D, qm_718, k_D, n_D, by decide +kernel, rfl, fun _ => rfl⟩
theorem fp_D_13 : qx_FP "QuorumLogModel" 13 8 2 (.array .int) true := ⟨"QuorumLogModel", T_D, 30, t_D, rfl, by decide, uw_D, qm_719, k_D, n_D, by decide +kernel, rfl, fun _ => rfl⟩
theorem fp_D_17 : qx_FP "QuorumLogModel" 17 8 3 (.array .int) true := ⟨"QuorumLogModel", T_D, 30, t_D, rfl, by decide, uw_D, qm_720, k_D, n_D, by decide +kernel, rfl, fun _ => rfl⟩
theorem fp_D_20 : qx_FP "QuorumLogModel" 20 8 4 (.array .int) true := ⟨"QuorumLogModel", T_D, 30, t_D, rfl, by decide, uw_D, qm_721, k_D, n_D, by decide +kernel, rfl, fun _ => rfl⟩
theorem fp_D_23 : qx_FP "QuorumLogModel" 23 8 5 (.array .int) true := ⟨"QuorumLogModel", T_D, 30, t_D, rfl, by decide, uw_D, qm_722, k_D, n_D, by decide +kernel, rfl, fun _ => rfl⟩
theorem fp_D_26 : qx_FP "QuorumLogModel" 26 8 6 (.array .int) true := ⟨"QuorumLogModel", T_D, 30, t_D, rfl, by decide, uw_D, qm_723, k_D, n_D, by decide +kernel, rfl, fun _ => rfl⟩
theorem fp_D_29 : qx_FP "QuorumLogModel" 29 8 7 (.array .int) true := ⟨"QuorumLogModel", T_D, 30, t_D, rfl, by decide, uw_D, qm_724, k_D, n_D, by decide +kernel, rfl, fun _ => rfl⟩
theorem fp_D_32 : qx_FP "QuorumLogModel" 32 8 8 (.array .int) true := ⟨"QuorumLogModel", T_D, 30, t_D, rfl, by decide, uw_D, qm_725, k_D, n_D, by decide +kernel, rfl, fun _ => rfl⟩
theorem fp_D_35 : qx_FP "QuorumLogModel" 35 8 9 (.array .int) true := ⟨"QuorumLogModel", T_D, 30, t_D, rfl, by decide, uw_D, qm_726, k_D, n_D, by decide +kernel, rfl, fun _ => rfl⟩
theorem fp_D_38 : qx_FP "QuorumLogModel" 38 8 10 (.array .int) true := ⟨"QuorumLogModel", T_D, 30, t_D, rfl, by decide, uw_D, qm_727, k_D, n_D, by decide +kernel, rfl, fun _ => rfl⟩
theorem fp_D_41 : qx_FP "QuorumLogModel" 41 8 11 (.array .int) true := ⟨"QuorumLogModel", T_D, 30, t_D, rfl, by decide, uw_D, qm_728, k_D, n_D, by decide +kernel, rfl, fun _ => rfl⟩
theorem fp_D_44 : qx_FP "QuorumLogModel" 44 8 12 (.array .int) true := ⟨"QuorumLogModel", T_D, 30, t_D, rfl, by decide, uw_D, qm_729, k_D, n_D, by decide +kernel, rfl, fun _ => rfl⟩
theorem fp_D_47 : qx_FP "QuorumLogModel" 47 8 13 (.array .int) true := ⟨"QuorumLogModel", T_D, 30, t_D, rfl, by decide, uw_D, qm_730, k_D, n_D, by decide +kernel, rfl, fun _ => rfl⟩
theorem fp_D_50 : qx_FP "QuorumLogModel" 50 8 14 (.array .int) true := ⟨"QuorumLogModel", T_D, 30, t_D, rfl, by decide, uw_D, qm_731, k_D, n_D, by decide +kernel, rfl, fun _ => rfl⟩
theorem fp_D_53 : qx_FP "QuorumLogModel" 53 8 15 (.array .boolean) true := ⟨"QuorumLogModel", T_D, 30, t_D, rfl, by decide, uw_D, qm_732, k_D, n_D, by decide +kernel, rfl, fun _ => rfl⟩
theorem fp_D_56 : qx_FP "QuorumLogModel" 56 8 16 (.array .int) true := ⟨"QuorumLogModel", T_D, 30, t_D, rfl, by decide, uw_D, qm_733, k_D, n_D, by decide +kernel, rfl, fun _ => rfl⟩
theorem fp_D_59 : qx_FP "QuorumLogModel" 59 8 17 (.array .int) true := ⟨"QuorumLogModel", T_D, 30, t_D, rfl, by decide, uw_D, qm_734, k_D, n_D, by decide +kernel, rfl, fun _ => rfl⟩
theorem fp_D_62 : qx_FP "QuorumLogModel" 62 8 18 (.array .int) true := ⟨"QuorumLogModel", T_D, 30, t_D, rfl, by decide, uw_D, qm_735, k_D, n_D, by decide +kernel, rfl, fun _ => rfl⟩
theorem fp_D_65 : qx_FP "QuorumLogModel" 65 8 19 (.array .int) true := ⟨"QuorumLogModel", T_D, 30, t_D, rfl, by decide, uw_D, qm_736, k_D, n_D, by decide +kernel, rfl, fun _ => rfl⟩
theorem fp_D_68 : qx_FP "QuorumLogModel" 68 8 20 (.array .int) true := ⟨"QuorumLogModel", T_D, 30, t_D, rfl, by decide, uw_D, qm_737, k_D, n_D, by decide +kernel, rfl, fun _ => rfl⟩
theorem fp_D_71 : qx_FP "QuorumLogModel" 71 8 22 (.array .int) true := ⟨"QuorumLogModel", T_D, 30, t_D, rfl, by decide, uw_D, qm_739, k_D, n_D, by decide +kernel, rfl, fun _ => rfl⟩
theorem fp_D_74 : qx_FP "QuorumLogModel" 74 8 23 (.array .int) true := ⟨"QuorumLogModel", T_D, 30, t_D, rfl, by decide, uw_D, qm_740, k_D, n_D, by decide +kernel, rfl, fun _ => rfl⟩
theorem fp_D_77 : qx_FP "QuorumLogModel" 77 8 24 (.array .int) true := ⟨"QuorumLogModel", T_D, 30, t_D, rfl, by decide, uw_D, qm_741, k_D, n_D, by decide +kernel, rfl, fun _ => rfl⟩
theorem fp_D_80 : qx_FP "QuorumLogModel" 80 8 25 (.array .int) true := ⟨"QuorumLogModel", T_D, 30, t_D, rfl, by decide, uw_D, qm_742, k_D, n_D, by decide +kernel, rfl, fun _ => rfl⟩
theorem fp_D_83 : qx_FP "QuorumLogModel" 83 8 26 (.array .int) true := ⟨"QuorumLogModel", T_D, 30, t_D, rfl, by decide, uw_D, qm_743, k_D, n_D, by decide +kernel, rfl, fun _ => rfl⟩
theorem fp_D_86 : qx_FP "QuorumLogModel" 86 8 28 (.array .int) true := ⟨"QuorumLogModel", T_D, 30, t_D, rfl, by decide, uw_D, qm_745, k_D, n_D, by decide +kernel, rfl, fun _ => rfl⟩
theorem fp_D_89 : qx_FP "QuorumLogModel" 89 8 29 (.array .int) true := ⟨"QuorumLogModel", T_D, 30, t_D, rfl, by decide, uw_D, qm_746, k_D, n_D, by decide +kernel, rfl, fun _ => rfl⟩
theorem fl_D_17 : qx_FL "QuorumLogModel" 17 8 3 := ⟨"QuorumLogModel", T_D, 30, rfl, by decide, uw_D, qm_720⟩
theorem fl_D_26 : qx_FL "QuorumLogModel" 26 8 6 := ⟨"QuorumLogModel", T_D, 30, rfl, by decide, uw_D, qm_723⟩
theorem fl_D_92 : qx_FL "QuorumLogModel" 92 8 0 := ⟨"QuorumLogModel", T_D, 30, rfl, by decide, uw_D, qm_717⟩
theorem fp_D_92 : qx_FP "QuorumLogModel" 92 8 0 (.int) false := ⟨"QuorumLogModel", T_D, 30, t_D, rfl, by decide, uw_D, qm_717, k_D, n_D, by decide +kernel, rfl, fun _ => by contradiction⟩
theorem s_D_timer_6 {l : Launch} {G : qh_G} {h : qh_H} {rest : List Value} {v0 : Value} : qx_Site l G "QuorumLogModel" c_D_timer 6 y_D_isServer [v0] rest h := qx_siteS (As := [v0]) d_D_timer_6 qm_817 qm_818 qm_8 w_D_isServer.1 (by decide) p_D_isServer
theorem fl_D_7 : qx_FL "QuorumLogModel" 7 8 1 := ⟨"QuorumLogModel", T_D, 30, rfl, by decide, uw_D, qm_718⟩
theorem fl_D_47 : qx_FL "QuorumLogModel" 47 8 13 := ⟨"QuorumLogModel", T_D, 30, rfl, by decide, uw_D, qm_730⟩
theorem s_D_timer_33 {l : Launch} {G : qh_G} {h : qh_H} {b0 : Nat} {fs rest : List Value} {v0 : Value} (hb0 : h b0 = some (.inr (8, fs))) : qx_Site l G "QuorumLogModel" c_D_timer 33 y_D_isMine (.ref b0 :: [v0]) rest h := qx_siteV (As := [v0]) (E := "QuorumLogModel") (ci := 8) d_D_timer_33 qm_820 qm_822 qs_23 w_D_isMine.1 (by decide) rfl p_D_isMine hb0
theorem fl_D_32 : qx_FL "QuorumLogModel" 32 8 8 := ⟨"QuorumLogModel", T_D, 30, rfl, by decide, uw_D, qm_725⟩
theorem fl_D_53 : qx_FL "QuorumLogModel" 53 8 15 := ⟨"QuorumLogModel", T_D, 30, rfl, by decide, uw_D, qm_732⟩
theorem fl_D_56 : qx_FL "QuorumLogModel" 56 8 16 := ⟨"QuorumLogModel", T_D, 30, rfl, by decide, uw_D, qm_733⟩
theorem fl_D_13 : qx_FL "QuorumLogModel" 13 8 2 := ⟨"QuorumLogModel", T_D, 30, rfl, by decide, uw_D, qm_719⟩
theorem s_D_timer_86 {l : Launch} {G : qh_G} {h : qh_H} {b0 : Nat} {fs rest : List Value} {v0 v1 v2 : Value} (hb0 : h b0 = some (.inr (8, fs))) : qx_Site l G "QuorumLogModel" c_D_timer 86 y_D_askAll (.ref b0 :: [v0, v1, v2]) rest h := qx_siteV (As := [v0, v1, v2]) (E := "QuorumLogModel") (ci := 8) d_D_timer_86 qm_844 qm_846 qs_29 w_D_askAll.1 (by decide) rfl p_D_askAll hb0
theorem s_D_timer_91 {l : Launch} {G : qh_G} {h : qh_H} {b0 : Nat} {fs rest : List Value} {v0 : Value} (hb0 : h b0 = some (.inr (8, fs))) : qx_Site l G "QuorumLogModel" c_D_timer 91 y_D_weigh (.ref b0 :: [v0]) rest h := qx_siteV (As := [v0]) (E := "QuorumLogModel") (ci := 8) d_D_timer_91 qm_864 qm_866 qs_34 w_D_weigh.1 (by decide) rfl p_D_weigh hb0
theorem s_D_isMine_2 {l : Launch} {G : qh_G} {h : qh_H} {b0 : Nat} {fs rest : List Value} {v0 : Value} (hb0 : h b0 = some (.inr (8, fs))) : qx_Site l G "QuorumLogModel" c_D_isMine 2 y_D_config (.ref b0 :: [v0]) rest h := qx_siteV (As := [v0]) (E := "QuorumLogModel") (ci := 8) d_D_isMine_2 qm_824 qm_826 qs_24 w_D_config.1 (by decide) rfl p_D_config hb0
theorem s_D_config_4 {l : Launch} {G : qh_G} {h : qh_H} {b0 : Nat} {fs rest : List Value} {v0 : Value} (hb0 : h b0 = some (.inr (8, fs))) : qx_Site l G "QuorumLogModel" c_D_config 4 y_D_last (.ref b0 :: [v0]) rest h := qx_siteV (As := [v0]) (E := "QuorumLogModel") (ci := 8) d_D_config_4 qm_828 qm_830 qs_25 w_D_last.1 (by decide) rfl p_D_last hb0
theorem s_D_config_7 {l : Launch} {G : qh_G} {h : qh_H} {b0 : Nat} {fs rest : List Value} {v0 v1 : Value} (hb0 : h b0 = some (.inr (8, fs))) : qx_Site l G "QuorumLogModel" c_D_config 7 y_D_membersAt (.ref b0 :: [v0, v1]) rest h := qx_siteV (As := [v0, v1]) (E := "QuorumLogModel") (ci := 8) d_D_config_7 qm_832 qm_834 qs_26 w_D_membersAt.1 (by decide) rfl p_D_membersAt hb0
theorem fl_D_20 : qx_FL "QuorumLogModel" 20 8 4 := ⟨"QuorumLogModel", T_D, 30, rfl, by decide, uw_D, qm_721⟩
theorem s_D_membersAt_3 {l : Launch} {G : qh_G} {h : qh_H} {b0 : Nat} {fs rest : List Value} {v0 v1 : Value} (hb0 : h b0 = some (.inr (8, fs))) : qx_Site l G "QuorumLogModel" c_D_membersAt 3 y_D_latestMembers (.ref b0 :: [v0, v1]) rest h := qx_siteV (As := [v0, v1]) (E := "QuorumLogModel") (ci := 8) d_D_membersAt_3 qm_836 qm_838 qs_27 w_D_latestMembers.1 (by decide) rfl p_D_latestMembers hb0
theorem fl_D_41 : qx_FL "QuorumLogModel" 41 8 11 := ⟨"QuorumLogModel", T_D, 30, rfl, by decide, uw_D, qm_728⟩
theorem s_D_membersAt_27 {l : Launch} {G : qh_G} {h : qh_H} {b0 : Nat} {fs rest : List Value} {v0 v1 : Value} (hb0 : h b0 = some (.inr (8, fs))) : qx_Site l G "QuorumLogModel" c_D_membersAt 27 y_D_cell (.ref b0 :: [v0, v1]) rest h := qx_siteV (As := [v0, v1]) (E := "QuorumLogModel") (ci := 8) d_D_membersAt_27 qm_840 qm_842 qs_28 w_D_cell.1 (by decide) rfl p_D_cell hb0
theorem fl_D_38 : qx_FL "QuorumLogModel" 38 8 10 := ⟨"QuorumLogModel", T_D, 30, rfl, by decide, uw_D, qm_727⟩
theorem s_D_latestMembers_26 {l : Launch} {G : qh_G} {h : qh_H} {b0 : Nat} {fs rest : List Value} {v0 v1 : Value} (hb0 : h b0 = some (.inr (8, fs))) : qx_Site l G "QuorumLogModel" c_D_latestMembers 26 y_D_cell (.ref b0 :: [v0, v1]) rest h := qx_siteV (As := [v0, v1]) (E := "QuorumLogModel") (ci := 8) d_D_latestMembers_26 qm_840 qm_842 qs_28 w_D_cell.1 (by decide) rfl p_D_cell hb0
theorem s_D_cell_13 {l : Launch} {G : qh_G} {h : qh_H} {b0 : Nat} {fs rest : List Value} {v0 : Value} (hb0 : h b0 = some (.inr (8, fs))) : qx_Site l G "QuorumLogModel" c_D_cell 13 y_D_last (.ref b0 :: [v0]) rest h := qx_siteV (As := [v0]) (E := "QuorumLogModel") (ci := 8) d_D_cell_13 qm_828 qm_830 qs_25 w_D_last.1 (by decide) rfl p_D_last hb0
theorem s_D_askAll_2 {l : Launch} {G : qh_G} {h : qh_H} {b0 : Nat} {fs rest : List Value} {v0 : Value} (hb0 : h b0 = some (.inr (8, fs))) : qx_Site l G "QuorumLogModel" c_D_askAll 2 y_D_config (.ref b0 :: [v0]) rest h := qx_siteV (As := [v0]) (E := "QuorumLogModel") (ci := 8) d_D_askAll_2 qm_824 qm_826 qs_24 w_D_config.1 (by decide) rfl p_D_config hb0
theorem s_D_askAll_41 {l : Launch} {G : qh_G} {h : qh_H} {b0 : Nat} {fs rest : List Value} {v0 v1 v2 v3 : Value} (hb0 : h b0 = some (.inr (8, fs))) : qx_Site l G "QuorumLogModel" c_D_askAll 41 y_D_begin (.ref b0 :: [v0, v1, v2, v3]) rest h := qx_siteV (As := [v0, v1, v2, v3]) (E := "QuorumLogModel") (ci := 8) d_D_askAll_41 qm_848 qm_850 qs_30 w_D_begin.1 (by decide) rfl p_D_begin hb0
theorem fl_D_89 : qx_FL "QuorumLogModel" 89 8 29 := ⟨"QuorumLogModel", T_D, 30, rfl, by decide, uw_D, qm_746⟩
theorem s_D_askAll_51 {l : Launch} {G : qh_G} {h : qh_H} {b0 : Nat} {fs rest : List Value} {v0 : Value} (hb0 : h b0 = some (.inr (8, fs))) : qx_Site l G "QuorumLogModel" c_D_askAll 51 y_D_last (.ref b0 :: [v0]) rest h := qx_siteV (As := [v0]) (E := "QuorumLogModel") (ci := 8) d_D_askAll_51 qm_828 qm_830 qs_25 w_D_last.1 (by decide) rfl p_D_last hb0
theorem s_D_askAll_62 {l : Launch} {G : qh_G} {h : qh_H} {b0 : Nat} {fs rest : List Value} {v0 : Value} (hb0 : h b0 = some (.inr (8, fs))) : qx_Site l G "QuorumLogModel" c_D_askAll 62 y_D_lastTerm (.ref b0 :: [v0]) rest h := qx_siteV (As := [v0]) (E := "QuorumLogModel") (ci := 8) d_D_askAll_62 qm_852 qm_854 qs_31 w_D_lastTerm.1 (by decide) rfl p_D_lastTerm hb0
theorem s_D_askAll_67 {l : Launch} {G : qh_G} {h : qh_H} {b0 : Nat} {fs rest : List Value} (hb0 : h b0 = some (.inr (8, fs))) : qx_Site l G "QuorumLogModel" c_D_askAll 67 y_D_post (.ref b0 :: []) rest h := qx_siteV (As := []) (E := "QuorumLogModel") (ci := 8) d_D_askAll_67 qm_860 qm_862 qs_33 w_D_post.1 (by decide) rfl p_D_post hb0
theorem s_D_lastTerm_4 {l : Launch} {G : qh_G} {h : qh_H} {b0 : Nat} {fs rest : List Value} {v0 : Value} (hb0 : h b0 = some (.inr (8, fs))) : qx_Site l G "QuorumLogModel" c_D_lastTerm 4 y_D_last (.ref b0 :: [v0]) rest h := qx_siteV (As := [v0]) (E := "QuorumLogModel") (ci := 8) d_D_lastTerm_4 qm_828 qm_830 qs_25 w_D_last.1 (by decide) rfl p_D_last hb0
theorem s_D_lastTerm_7 {l : Launch} {G : qh_G} {h : qh_H} {b0 : Nat} {fs rest : List Value} {v0 v1 : Value} (hb0 : h b0 = some (.inr (8, fs))) : qx_Site l G "QuorumLogModel" c_D_lastTerm 7 y_D_termAt (.ref b0 :: [v0, v1]) rest h := qx_siteV (As := [v0, v1]) (E := "QuorumLogModel") (ci := 8) d_D_lastTerm_7 qm_856 qm_858 qs_32 w_D_termAt.1 (by decide) rfl p_D_termAt hb0
theorem fl_D_23 : qx_FL "QuorumLogModel" 23 8 5 := ⟨"QuorumLogModel", T_D, 30, rfl, by decide, uw_D, qm_722⟩
theorem s_D_termAt_20 {l : Launch} {G : qh_G} {h : qh_H} {b0 : Nat} {fs rest : List Value} {v0 v1 : Value} (hb0 : h b0 = some (.inr (8, fs))) : qx_Site l G "QuorumLogModel" c_D_termAt 20 y_D_cell (.ref b0 :: [v0, v1]) rest h := qx_siteV (As := [v0, v1]) (E := "QuorumLogModel") (ci := 8) d_D_termAt_20 qm_840 qm_842 qs_28 w_D_cell.1 (by decide) rfl p_D_cell hb0
theorem fl_D_35 : qx_FL "QuorumLogModel" 35 8 9 := ⟨"QuorumLogModel", T_D, 30, rfl, by decide, uw_D, qm_726⟩
theorem fl_D_119 : qx_FL "QuorumLogModel" 119 8 27 := ⟨"QuorumLogModel", T_D, 30, rfl, by decide, uw_D, qm_744⟩
theorem fl_D_86 : qx_FL "QuorumLogModel" 86 8 28 := ⟨"QuorumLogModel", T_D, 30, rfl, by decide, uw_D, qm_745⟩
theorem fp_D_119 : qx_FP "QuorumLogModel" 119 8 27 (.int) false := ⟨"QuorumLogModel", T_D, 30, t_D, rfl, by decide, uw_D, qm_744, k_D, n_D, by decide +kernel, rfl, fun _ => by contradiction⟩
theorem s_D_weigh_18 {l : Launch} {G : qh_G} {h : qh_H} {b0 : Nat} {fs rest : List Value} {v0 v1 : Value} (hb0 : h b0 = some (.inr (8, fs))) : qx_Site l G "QuorumLogModel" c_D_weigh 18 y_D_most (.ref b0 :: [v0, v1]) rest h := qx_siteV (As := [v0, v1]) (E := "QuorumLogModel") (ci := 8) d_D_weigh_18 qm_868 qm_870 qs_35 w_D_most.1 (by decide) rfl p_D_most hb0
theorem s_D_weigh_66 {l : Launch} {G : qh_G} {h : qh_H} {b0 : Nat} {fs rest : List Value} {v0 v1 v2 : Value} (hb0 : h b0 = some (.inr (8, fs))) : qx_Site l G "QuorumLogModel" c_D_weigh 66 y_D_askAll (.ref b0 :: [v0, v1, v2]) rest h := qx_siteV (As := [v0, v1, v2]) (E := "QuorumLogModel") (ci := 8) d_D_weigh_66 qm_844 qm_846 qs_29 w_D_askAll.1 (by decide) rfl p_D_askAll hb0
theorem s_D_weigh_87 {l : Launch} {G : qh_G} {h : qh_H} {b0 : Nat} {fs rest : List Value} {v0 v1 : Value} (hb0 : h b0 = some (.inr (8, fs))) : qx_Site l G "QuorumLogModel" c_D_weigh 87 y_D_most (.ref b0 :: [v0, v1]) rest h := qx_siteV (As := [v0, v1]) (E := "QuorumLogModel") (ci := 8) d_D_weigh_87 qm_868 qm_870 qs_35 w_D_most.1 (by decide) rfl p_D_most hb0
theorem s_D_weigh_95 {l : Launch} {G : qh_G} {h : qh_H} {b0 : Nat} {fs rest : List Value} {v0 : Value} (hb0 : h b0 = some (.inr (8, fs))) : qx_Site l G "QuorumLogModel" c_D_weigh 95 y_D_lead (.ref b0 :: [v0]) rest h := qx_siteV (As := [v0]) (E := "QuorumLogModel") (ci := 8) d_D_weigh_95 qm_875 qm_877 qs_36 w_D_lead.1 (by decide) rfl p_D_lead hb0
theorem s_D_most_2 {l : Launch} {G : qh_G} {h : qh_H} {b0 : Nat} {fs rest : List Value} {v0 : Value} (hb0 : h b0 = some (.inr (8, fs))) : qx_Site l G "QuorumLogModel" c_D_most 2 y_D_config (.ref b0 :: [v0]) rest h := qx_siteV (As := [v0]) (E := "QuorumLogModel") (ci := 8) d_D_most_2 qm_824 qm_826 qs_24 w_D_config.1 (by decide) rfl p_D_config hb0
theorem s_D_most_10 {l : Launch} {G : qh_G} {h : qh_H} {rest : List Value} {v0 : Value} : qx_Site l G "QuorumLogModel" c_D_most 10 y_D_count [v0] rest h := qx_siteS (As := [v0]) d_D_most_10 qm_872 qm_873 qm_8 w_D_count.1 (by decide) p_D_count
theorem s_D_most_15 {l : Launch} {G : qh_G} {h : qh_H} {rest : List Value} {v0 : Value} : qx_Site l G "QuorumLogModel" c_D_most 15 y_D_count [v0] rest h := qx_siteS (As := [v0]) d_D_most_15 qm_872 qm_873 qm_8 w_D_count.1 (by decide) p_D_count
theorem fl_D_68 : qx_FL "QuorumLogModel" 68 8 20 := ⟨"QuorumLogModel", T_D, 30, rfl, by decide, uw_D, qm_737⟩
theorem fl_D_59 : qx_FL "QuorumLogModel" 59 8 17 := ⟨"QuorumLogModel", T_D, 30, rfl, by decide, uw_D, qm_734⟩
theorem s_D_lead_32 {l : Launch} {G : qh_G} {h : qh_H} {b0 : Nat} {fs rest : List Value} {v0 : Value} (hb0 : h b0 = some (.inr (8, fs))) : qx_Site l G "QuorumLogModel" c_D_lead 32 y_D_last (.ref b0 :: [v0]) rest h := qx_siteV (As := [v0]) (E := "QuorumLogModel") (ci := 8) d_D_lead_32 qm_828 qm_830 qs_25 w_D_last.1 (by decide) rfl p_D_last hb0
theorem fl_D_62 : qx_FL "QuorumLogModel" 62 8 18 := ⟨"QuorumLogModel", T_D, 30, rfl, by decide, uw_D, qm_735⟩
theorem fl_D_65 : qx_FL "QuorumLogModel" 65 8 19 := ⟨"QuorumLogModel", T_D, 30, rfl, by decide, uw_D, qm_736⟩
theorem s_D_lead_71 {l : Launch} {G : qh_G} {h : qh_H} {b0 : Nat} {fs rest : List Value} {v0 v1 v2 v3 : Value} (hb0 : h b0 = some (.inr (8, fs))) : qx_Site l G "QuorumLogModel" c_D_lead 71 y_D_append (.ref b0 :: [v0, v1, v2, v3]) rest h := qx_siteV (As := [v0, v1, v2, v3]) (E := "QuorumLogModel") (ci := 8) d_D_lead_71 qm_879 qm_881 qs_37 w_D_append.1 (by decide) rfl p_D_append hb0
theorem s_D_append_12 {l : Launch} {G : qh_G} {h : qh_H} {b0 : Nat} {fs rest : List Value} {v0 v1 v2 v3 v4 : Value} (hb0 : h b0 = some (.inr (8, fs))) : qx_Site l G "QuorumLogModel" c_D_append 12 y_D_push (.ref b0 :: [v0, v1, v2, v3, v4]) rest h := qx_siteV (As := [v0, v1, v2, v3, v4]) (E := "QuorumLogModel") (ci := 8) d_D_append_12 qm_883 qm_885 qs_38 w_D_push.1 (by decide) rfl p_D_push hb0
theorem s_D_append_17 {l : Launch} {G : qh_G} {h : qh_H} {b0 : Nat} {fs rest : List Value} {v0 : Value} (hb0 : h b0 = some (.inr (8, fs))) : qx_Site l G "QuorumLogModel" c_D_append 17 y_D_last (.ref b0 :: [v0]) rest h := qx_siteV (As := [v0]) (E := "QuorumLogModel") (ci := 8) d_D_append_17 qm_828 qm_830 qs_25 w_D_last.1 (by decide) rfl p_D_last hb0
theorem s_D_append_24 {l : Launch} {G : qh_G} {h : qh_H} {b0 : Nat} {fs rest : List Value} {v0 : Value} (hb0 : h b0 = some (.inr (8, fs))) : qx_Site l G "QuorumLogModel" c_D_append 24 y_D_lookAtCommit (.ref b0 :: [v0]) rest h := qx_siteV (As := [v0]) (E := "QuorumLogModel") (ci := 8) d_D_append_24 qm_887 qm_889 qs_39 w_D_lookAtCommit.1 (by decide) rfl p_D_lookAtCommit hb0
theorem s_D_append_29 {l : Launch} {G : qh_G} {h : qh_H} {b0 : Nat} {fs rest : List Value} {v0 : Value} (hb0 : h b0 = some (.inr (8, fs))) : qx_Site l G "QuorumLogModel" c_D_append 29 y_D_sendAll (.ref b0 :: [v0]) rest h := qx_siteV (As := [v0]) (E := "QuorumLogModel") (ci := 8) d_D_append_29 qm_899 qm_901 qs_42 w_D_sendAll.1 (by decide) rfl p_D_sendAll hb0
theorem fl_D_44 : qx_FL "QuorumLogModel" 44 8 12 := ⟨"QuorumLogModel", T_D, 30, rfl, by decide, uw_D, qm_729⟩
theorem fl_D_50 : qx_FL "QuorumLogModel" 50 8 14 := ⟨"QuorumLogModel", T_D, 30, rfl, by decide, uw_D, qm_731⟩
theorem s_D_lookAtCommit_19 {l : Launch} {G : qh_G} {h : qh_H} {b0 : Nat} {fs rest : List Value} {v0 : Value} (hb0 : h b0 = some (.inr (8, fs))) : qx_Site l G "QuorumLogModel" c_D_lookAtCommit 19 y_D_last (.ref b0 :: [v0]) rest h := qx_siteV (As := [v0]) (E := "QuorumLogModel") (ci := 8) d_D_lookAtCommit_19 qm_828 qm_830 qs_25 w_D_last.1 (by decide) rfl p_D_last hb0
theorem s_D_lookAtCommit_28 {l : Launch} {G : qh_G} {h : qh_H} {b0 : Nat} {fs rest : List Value} {v0 v1 : Value} (hb0 : h b0 = some (.inr (8, fs))) : qx_Site l G "QuorumLogModel" c_D_lookAtCommit 28 y_D_termAt (.ref b0 :: [v0, v1]) rest h := qx_siteV (As := [v0, v1]) (E := "QuorumLogModel") (ci := 8) d_D_lookAtCommit_28 qm_856 qm_858 qs_32 w_D_termAt.1 (by decide) rfl p_D_termAt hb0
theorem s_D_lookAtCommit_45 {l : Launch} {G : qh_G} {h : qh_H} {b0 : Nat} {fs rest : List Value} {v0 v1 : Value} (hb0 : h b0 = some (.inr (8, fs))) : qx_Site l G "QuorumLogModel" c_D_lookAtCommit 45 y_D_having (.ref b0 :: [v0, v1]) rest h := qx_siteV (As := [v0, v1]) (E := "QuorumLogModel") (ci := 8) d_D_lookAtCommit_45 qm_891 qm_893 qs_40 w_D_having.1 (by decide) rfl p_D_having hb0
theorem s_D_lookAtCommit_48 {l : Launch} {G : qh_G} {h : qh_H} {b0 : Nat} {fs rest : List Value} {v0 v1 : Value} (hb0 : h b0 = some (.inr (8, fs))) : qx_Site l G "QuorumLogModel" c_D_lookAtCommit 48 y_D_most (.ref b0 :: [v0, v1]) rest h := qx_siteV (As := [v0, v1]) (E := "QuorumLogModel") (ci := 8) d_D_lookAtCommit_48 qm_868 qm_870 qs_35 w_D_most.1 (by decide) rfl p_D_most hb0
theorem s_D_lookAtCommit_73 {l : Launch} {G : qh_G} {h : qh_H} {b0 : Nat} {fs rest : List Value} {v0 : Value} (hb0 : h b0 = some (.inr (8, fs))) : qx_Site l G "QuorumLogModel" c_D_lookAtCommit 73 y_D_last (.ref b0 :: [v0]) rest h := qx_siteV (As := [v0]) (E := "QuorumLogModel") (ci := 8) d_D_lookAtCommit_73 qm_828 qm_830 qs_25 w_D_last.1 (by decide) rfl p_D_last hb0
theorem s_D_lookAtCommit_76 {l : Launch} {G : qh_G} {h : qh_H} {b0 : Nat} {fs rest : List Value} {v0 v1 : Value} (hb0 : h b0 = some (.inr (8, fs))) : qx_Site l G "QuorumLogModel" c_D_lookAtCommit 76 y_D_latestMembers (.ref b0 :: [v0, v1]) rest h := qx_siteV (As := [v0, v1]) (E := "QuorumLogModel") (ci := 8) d_D_lookAtCommit_76 qm_836 qm_838 qs_27 w_D_latestMembers.1 (by decide) rfl p_D_latestMembers hb0
theorem s_D_lookAtCommit_96 {l : Launch} {G : qh_G} {h : qh_H} {b0 : Nat} {fs rest : List Value} {v0 : Value} (hb0 : h b0 = some (.inr (8, fs))) : qx_Site l G "QuorumLogModel" c_D_lookAtCommit 96 y_D_isMine (.ref b0 :: [v0]) rest h := qx_siteV (As := [v0]) (E := "QuorumLogModel") (ci := 8) d_D_lookAtCommit_96 qm_820 qm_822 qs_23 w_D_isMine.1 (by decide) rfl p_D_isMine hb0
theorem s_D_lookAtCommit_104 {l : Launch} {G : qh_G} {h : qh_H} {b0 : Nat} {fs rest : List Value} {v0 : Value} (hb0 : h b0 = some (.inr (8, fs))) : qx_Site l G "QuorumLogModel" c_D_lookAtCommit 104 y_D_follow (.ref b0 :: [v0]) rest h := qx_siteV (As := [v0]) (E := "QuorumLogModel") (ci := 8) d_D_lookAtCommit_104 qm_895 qm_897 qs_41 w_D_follow.1 (by decide) rfl p_D_follow hb0
theorem fl_D_136 : qx_FL "QuorumLogModel" 136 8 21 := ⟨"QuorumLogModel", T_D, 30, rfl, by decide, uw_D, qm_738⟩
theorem fl_D_71 : qx_FL "QuorumLogModel" 71 8 22 := ⟨"QuorumLogModel", T_D, 30, rfl, by decide, uw_D, qm_739⟩
theorem fl_D_80 : qx_FL "QuorumLogModel" 80 8 25 := ⟨"QuorumLogModel", T_D, 30, rfl, by decide, uw_D, qm_742⟩
theorem s_D_sendAll_2 {l : Launch} {G : qh_G} {h : qh_H} {b0 : Nat} {fs rest : List Value} {v0 : Value} (hb0 : h b0 = some (.inr (8, fs))) : qx_Site l G "QuorumLogModel" c_D_sendAll 2 y_D_config (.ref b0 :: [v0]) rest h := qx_siteV (As := [v0]) (E := "QuorumLogModel") (ci := 8) d_D_sendAll_2 qm_824 qm_826 qs_24 w_D_config.1 (by decide) rfl p_D_config hb0
theorem s_D_sendAll_30 {l : Launch} {G : qh_G} {h : qh_H} {b0 : Nat} {fs rest : List Value} {v0 v1 : Value} (hb0 : h b0 = some (.inr (8, fs))) : qx_Site l G "QuorumLogModel" c_D_sendAll 30 y_D_sendTo (.ref b0 :: [v0, v1]) rest h := qx_siteV (As := [v0, v1]) (E := "QuorumLogModel") (ci := 8) d_D_sendAll_30 qm_903 qm_905 qs_43 w_D_sendTo.1 (by decide) rfl p_D_sendTo hb0
theorem s_D_sendTo_50 {l : Launch} {G : qh_G} {h : qh_H} {b0 : Nat} {fs rest : List Value} {v0 v1 v2 v3 : Value} (hb0 : h b0 = some (.inr (8, fs))) : qx_Site l G "QuorumLogModel" c_D_sendTo 50 y_D_begin (.ref b0 :: [v0, v1, v2, v3]) rest h := qx_siteV (As := [v0, v1, v2, v3]) (E := "QuorumLogModel") (ci := 8) d_D_sendTo_50 qm_848 qm_850 qs_30 w_D_begin.1 (by decide) rfl p_D_begin hb0
theorem s_D_sendTo_126 {l : Launch} {G : qh_G} {h : qh_H} {b0 : Nat} {fs rest : List Value} {v0 v1 : Value} (hb0 : h b0 = some (.inr (8, fs))) : qx_Site l G "QuorumLogModel" c_D_sendTo 126 y_D_termAt (.ref b0 :: [v0, v1]) rest h := qx_siteV (As := [v0, v1]) (E := "QuorumLogModel") (ci := 8) d_D_sendTo_126 qm_856 qm_858 qs_32 w_D_termAt.1 (by decide) rfl p_D_termAt hb0
theorem fl_D_29 : qx_FL "QuorumLogModel" 29 8 7 := ⟨"QuorumLogModel", T_D, 30, rfl, by decide, uw_D, qm_724⟩
theorem s_D_sendTo_194 {l : Launch} {G : qh_G} {h : qh_H} {b0 : Nat} {fs rest : List Value} {v0 : Value} (hb0 : h b0 = some (.inr (8, fs))) : qx_Site l G "QuorumLogModel" c_D_sendTo 194 y_D_last (.ref b0 :: [v0]) rest h := qx_siteV (As := [v0]) (E := "QuorumLogModel") (ci := 8) d_D_sendTo_194 qm_828 qm_830 qs_25 w_D_last.1 (by decide) rfl p_D_last hb0
theorem s_D_sendTo_215 {l : Launch} {G : qh_G} {h : qh_H} {b0 : Nat} {fs rest : List Value} {v0 v1 : Value} (hb0 : h b0 = some (.inr (8, fs))) : qx_Site l G "QuorumLogModel" c_D_sendTo 215 y_D_cell (.ref b0 :: [v0, v1]) rest h := qx_siteV (As := [v0, v1]) (E := "QuorumLogModel") (ci := 8) d_D_sendTo_215 qm_840 qm_842 qs_28 w_D_cell.1 (by decide) rfl p_D_cell hb0
theorem s_D_sendTo_314 {l : Launch} {G : qh_G} {h : qh_H} {b0 : Nat} {fs rest : List Value} (hb0 : h b0 = some (.inr (8, fs))) : qx_Site l G "QuorumLogModel" c_D_sendTo 314 y_D_post (.ref b0 :: []) rest h := qx_siteV (As := []) (E := "QuorumLogModel") (ci := 8) d_D_sendTo_314 qm_860 qm_862 qs_33 w_D_post.1 (by decide) rfl p_D_post hb0
theorem s_D_beat_6 {l : Launch} {G : qh_G} {h : qh_H} {rest : List Value} {v0 : Value} : qx_Site l G "QuorumLogModel" c_D_beat 6 y_D_isServer [v0] rest h := qx_siteS (As := [v0]) d_D_beat_6 qm_817 qm_818 qm_8 w_D_isServer.1 (by decide) p_D_isServer
theorem s_D_beat_14 {l : Launch} {G : qh_G} {h : qh_H} {b0 : Nat} {fs rest : List Value} {v0 : Value} (hb0 : h b0 = some (.inr (8, fs))) : qx_Site l G "QuorumLogModel" c_D_beat 14 y_D_leads (.ref b0 :: [v0]) rest h := qx_siteV (As := [v0]) (E := "QuorumLogModel") (ci := 8) d_D_beat_14 qm_911 qm_913 qs_44 w_D_leads.1 (by decide) rfl p_D_leads hb0
theorem s_D_beat_24 {l : Launch} {G : qh_G} {h : qh_H} {b0 : Nat} {fs rest : List Value} {v0 : Value} (hb0 : h b0 = some (.inr (8, fs))) : qx_Site l G "QuorumLogModel" c_D_beat 24 y_D_sendAll (.ref b0 :: [v0]) rest h := qx_siteV (As := [v0]) (E := "QuorumLogModel") (ci := 8) d_D_beat_24 qm_899 qm_901 qs_42 w_D_sendAll.1 (by decide) rfl p_D_sendAll hb0
theorem s_D_put_6 {l : Launch} {G : qh_G} {h : qh_H} {rest : List Value} {v0 : Value} : qx_Site l G "QuorumLogModel" c_D_put 6 y_D_isServer [v0] rest h := qx_siteS (As := [v0]) d_D_put_6 qm_817 qm_818 qm_8 w_D_isServer.1 (by decide) p_D_isServer
theorem s_D_put_13 {l : Launch} {G : qh_G} {h : qh_H} {rest : List Value} {v0 : Value} : qx_Site l G "QuorumLogModel" c_D_put 13 y_D_isKey [v0] rest h := qx_siteS (As := [v0]) d_D_put_13 qm_919 qm_920 qm_8 w_D_isKey.1 (by decide) p_D_isKey
theorem s_D_put_21 {l : Launch} {G : qh_G} {h : qh_H} {b0 : Nat} {fs rest : List Value} {v0 : Value} (hb0 : h b0 = some (.inr (8, fs))) : qx_Site l G "QuorumLogModel" c_D_put 21 y_D_fail (.ref b0 :: [v0]) rest h := qx_siteV (As := [v0]) (E := "QuorumLogModel") (ci := 8) d_D_put_21 qm_922 qm_924 qs_45 w_D_fail.1 (by decide) rfl p_D_fail hb0
theorem s_D_put_27 {l : Launch} {G : qh_G} {h : qh_H} {b0 : Nat} {fs rest : List Value} {v0 : Value} (hb0 : h b0 = some (.inr (8, fs))) : qx_Site l G "QuorumLogModel" c_D_put 27 y_D_leads (.ref b0 :: [v0]) rest h := qx_siteV (As := [v0]) (E := "QuorumLogModel") (ci := 8) d_D_put_27 qm_911 qm_913 qs_44 w_D_leads.1 (by decide) rfl p_D_leads hb0
theorem s_D_put_35 {l : Launch} {G : qh_G} {h : qh_H} {b0 : Nat} {fs rest : List Value} {v0 : Value} (hb0 : h b0 = some (.inr (8, fs))) : qx_Site l G "QuorumLogModel" c_D_put 35 y_D_fail (.ref b0 :: [v0]) rest h := qx_siteV (As := [v0]) (E := "QuorumLogModel") (ci := 8) d_D_put_35 qm_922 qm_924 qs_45 w_D_fail.1 (by decide) rfl p_D_fail hb0
theorem s_D_put_52 {l : Launch} {G : qh_G} {h : qh_H} {b0 : Nat} {fs rest : List Value} {v0 : Value} (hb0 : h b0 = some (.inr (8, fs))) : qx_Site l G "QuorumLogModel" c_D_put 52 y_D_fail (.ref b0 :: [v0]) rest h := qx_siteV (As := [v0]) (E := "QuorumLogModel") (ci := 8) d_D_put_52 qm_922 qm_924 qs_45 w_D_fail.1 (by decide) rfl p_D_fail hb0
theorem s_D_put_61 {l : Launch} {G : qh_G} {h : qh_H} {b0 : Nat} {fs rest : List Value} {v0 v1 v2 v3 : Value} (hb0 : h b0 = some (.inr (8, fs))) : qx_Site l G "QuorumLogModel" c_D_put 61 y_D_append (.ref b0 :: [v0, v1, v2, v3]) rest h := qx_siteV (As := [v0, v1, v2, v3]) (E := "QuorumLogModel") (ci := 8) d_D_put_61 qm_879 qm_881 qs_37 w_D_append.1 (by decide) rfl p_D_append hb0
theorem s_D_change_6 {l : Launch} {G : qh_G} {h : qh_H} {rest : List Value} {v0 : Value} : qx_Site l G "QuorumLogModel" c_D_change 6 y_D_isServer [v0] rest h := qx_siteS (As := [v0]) d_D_change_6 qm_817 qm_818 qm_8 w_D_isServer.1 (by decide) p_D_isServer
theorem s_D_change_13 {l : Launch} {G : qh_G} {h : qh_H} {rest : List Value} {v0 : Value} : qx_Site l G "QuorumLogModel" c_D_change 13 y_D_isServer [v0] rest h := qx_siteS (As := [v0]) d_D_change_13 qm_817 qm_818 qm_8 w_D_isServer.1 (by decide) p_D_isServer
theorem s_D_change_21 {l : Launch} {G : qh_G} {h : qh_H} {b0 : Nat} {fs rest : List Value} {v0 : Value} (hb0 : h b0 = some (.inr (8, fs))) : qx_Site l G "QuorumLogModel" c_D_change 21 y_D_fail (.ref b0 :: [v0]) rest h := qx_siteV (As := [v0]) (E := "QuorumLogModel") (ci := 8) d_D_change_21 qm_922 qm_924 qs_45 w_D_fail.1 (by decide) rfl p_D_fail hb0
theorem s_D_change_27 {l : Launch} {G : qh_G} {h : qh_H} {b0 : Nat} {fs rest : List Value} {v0 : Value} (hb0 : h b0 = some (.inr (8, fs))) : qx_Site l G "QuorumLogModel" c_D_change 27 y_D_config (.ref b0 :: [v0]) rest h := qx_siteV (As := [v0]) (E := "QuorumLogModel") (ci := 8) d_D_change_27 qm_824 qm_826 qs_24 w_D_config.1 (by decide) rfl p_D_config hb0
theorem s_D_change_69 {l : Launch} {G : qh_G} {h : qh_H} {b0 : Nat} {fs rest : List Value} {v0 : Value} (hb0 : h b0 = some (.inr (8, fs))) : qx_Site l G "QuorumLogModel" c_D_change 69 y_D_fail (.ref b0 :: [v0]) rest h := qx_siteV (As := [v0]) (E := "QuorumLogModel") (ci := 8) d_D_change_69 qm_922 qm_924 qs_45 w_D_fail.1 (by decide) rfl p_D_fail hb0
theorem s_D_change_75 {l : Launch} {G : qh_G} {h : qh_H} {b0 : Nat} {fs rest : List Value} {v0 : Value} (hb0 : h b0 = some (.inr (8, fs))) : qx_Site l G "QuorumLogModel" c_D_change 75 y_D_leads (.ref b0 :: [v0]) rest h := qx_siteV (As := [v0]) (E := "QuorumLogModel") (ci := 8) d_D_change_75 qm_911 qm_913 qs_44 w_D_leads.1 (by decide) rfl p_D_leads hb0
theorem s_D_change_83 {l : Launch} {G : qh_G} {h : qh_H} {b0 : Nat} {fs rest : List Value} {v0 : Value} (hb0 : h b0 = some (.inr (8, fs))) : qx_Site l G "QuorumLogModel" c_D_change 83 y_D_fail (.ref b0 :: [v0]) rest h := qx_siteV (As := [v0]) (E := "QuorumLogModel") (ci := 8) d_D_change_83 qm_922 qm_924 qs_45 w_D_fail.1 (by decide) rfl p_D_fail hb0
theorem s_D_change_102 {l : Launch} {G : qh_G} {h : qh_H} {b0 : Nat} {fs rest : List Value} {v0 : Value} (hb0 : h b0 = some (.inr (8, fs))) : qx_Site l G "QuorumLogModel" c_D_change 102 y_D_last (.ref b0 :: [v0]) rest h := qx_siteV (As := [v0]) (E := "QuorumLogModel") (ci := 8) d_D_change_102 qm_828 qm_830 qs_25 w_D_last.1 (by decide) rfl p_D_last hb0
theorem s_D_change_105 {l : Launch} {G : qh_G} {h : qh_H} {b0 : Nat} {fs rest : List Value} {v0 v1 : Value} (hb0 : h b0 = some (.inr (8, fs))) : qx_Site l G "QuorumLogModel" c_D_change 105 y_D_latestMembers (.ref b0 :: [v0, v1]) rest h := qx_siteV (As := [v0, v1]) (E := "QuorumLogModel") (ci := 8) d_D_change_105 qm_836 qm_838 qs_27 w_D_latestMembers.1 (by decide) rfl p_D_latestMembers hb0
theorem s_D_change_119 {l : Launch} {G : qh_G} {h : qh_H} {b0 : Nat} {fs rest : List Value} {v0 : Value} (hb0 : h b0 = some (.inr (8, fs))) : qx_Site l G "QuorumLogModel" c_D_change 119 y_D_isOld (.ref b0 :: [v0]) rest h := qx_siteV (As := [v0]) (E := "QuorumLogModel") (ci := 8) d_D_change_119 qm_930 qm_932 qs_46 w_D_isOld.1 (by decide) rfl p_D_isOld hb0
theorem s_D_change_127 {l : Launch} {G : qh_G} {h : qh_H} {b0 : Nat} {fs rest : List Value} {v0 : Value} (hb0 : h b0 = some (.inr (8, fs))) : qx_Site l G "QuorumLogModel" c_D_change 127 y_D_fail (.ref b0 :: [v0]) rest h := qx_siteV (As := [v0]) (E := "QuorumLogModel") (ci := 8) d_D_change_127 qm_922 qm_924 qs_45 w_D_fail.1 (by decide) rfl p_D_fail hb0
theorem s_D_change_141 {l : Launch} {G : qh_G} {h : qh_H} {b0 : Nat} {fs rest : List Value} {v0 v1 v2 v3 : Value} (hb0 : h b0 = some (.inr (8, fs))) : qx_Site l G "QuorumLogModel" c_D_change 141 y_D_append (.ref b0 :: [v0, v1, v2, v3]) rest h := qx_siteV (As := [v0, v1, v2, v3]) (E := "QuorumLogModel") (ci := 8) d_D_change_141 qm_879 qm_881 qs_37 w_D_append.1 (by decide) rfl p_D_append hb0
theorem s_D_isOld_8 {l : Launch} {G : qh_G} {h : qh_H} {b0 : Nat} {fs rest : List Value} {v0 v1 : Value} (hb0 : h b0 = some (.inr (8, fs))) : qx_Site l G "QuorumLogModel" c_D_isOld 8 y_D_termAt (.ref b0 :: [v0, v1]) rest h := qx_siteV (As := [v0, v1]) (E := "QuorumLogModel") (ci := 8) d_D_isOld_8 qm_856 qm_858 qs_32 w_D_termAt.1 (by decide) rfl p_D_termAt hb0
theorem s_D_read_6 {l : Launch} {G : qh_G} {h : qh_H} {rest : List Value} {v0 : Value} : qx_Site l G "QuorumLogModel" c_D_read 6 y_D_isServer [v0] rest h := qx_siteS (As := [v0]) d_D_read_6 qm_817 qm_818 qm_8 w_D_isServer.1 (by decide) p_D_isServer
theorem s_D_read_13 {l : Launch} {G : qh_G} {h : qh_H} {rest : List Value} {v0 : Value} : qx_Site l G "QuorumLogModel" c_D_read 13 y_D_isKey [v0] rest h := qx_siteS (As := [v0]) d_D_read_13 qm_919 qm_920 qm_8 w_D_isKey.1 (by decide) p_D_isKey
theorem s_D_read_21 {l : Launch} {G : qh_G} {h : qh_H} {b0 : Nat} {fs rest : List Value} {v0 : Value} (hb0 : h b0 = some (.inr (8, fs))) : qx_Site l G "QuorumLogModel" c_D_read 21 y_D_fail (.ref b0 :: [v0]) rest h := qx_siteV (As := [v0]) (E := "QuorumLogModel") (ci := 8) d_D_read_21 qm_922 qm_924 qs_45 w_D_fail.1 (by decide) rfl p_D_fail hb0
theorem s_D_read_27 {l : Launch} {G : qh_G} {h : qh_H} {b0 : Nat} {fs rest : List Value} {v0 : Value} (hb0 : h b0 = some (.inr (8, fs))) : qx_Site l G "QuorumLogModel" c_D_read 27 y_D_leads (.ref b0 :: [v0]) rest h := qx_siteV (As := [v0]) (E := "QuorumLogModel") (ci := 8) d_D_read_27 qm_911 qm_913 qs_44 w_D_leads.1 (by decide) rfl p_D_leads hb0
theorem s_D_read_35 {l : Launch} {G : qh_G} {h : qh_H} {b0 : Nat} {fs rest : List Value} {v0 : Value} (hb0 : h b0 = some (.inr (8, fs))) : qx_Site l G "QuorumLogModel" c_D_read 35 y_D_fail (.ref b0 :: [v0]) rest h := qx_siteV (As := [v0]) (E := "QuorumLogModel") (ci := 8) d_D_read_35 qm_922 qm_924 qs_45 w_D_fail.1 (by decide) rfl p_D_fail hb0
theorem s_D_read_104 {l : Launch} {G : qh_G} {h : qh_H} {b0 : Nat} {fs rest : List Value} {v0 : Value} (hb0 : h b0 = some (.inr (8, fs))) : qx_Site l G "QuorumLogModel" c_D_read 104 y_D_isOld (.ref b0 :: [v0]) rest h := qx_siteV (As := [v0]) (E := "QuorumLogModel") (ci := 8) d_D_read_104 qm_930 qm_932 qs_46 w_D_isOld.1 (by decide) rfl p_D_isOld hb0
theorem s_D_read_112 {l : Launch} {G : qh_G} {h : qh_H} {b0 : Nat} {fs rest : List Value} {v0 : Value} (hb0 : h b0 = some (.inr (8, fs))) : qx_Site l G "QuorumLogModel" c_D_read 112 y_D_fail (.ref b0 :: [v0]) rest h := qx_siteV (As := [v0]) (E := "QuorumLogModel") (ci := 8) d_D_read_112 qm_922 qm_924 qs_45 w_D_fail.1 (by decide) rfl p_D_fail hb0
theorem fl_D_74 : qx_FL "QuorumLogModel" 74 8 23 := ⟨"QuorumLogModel", T_D, 30, rfl, by decide, uw_D, qm_740⟩
theorem fl_D_77 : qx_FL "QuorumLogModel" 77 8 24 := ⟨"QuorumLogModel", T_D, 30, rfl, by decide, uw_D, qm_741⟩
theorem fp_D_136 : qx_FP "QuorumLogModel" 136 8 21 (.int) false := ⟨"QuorumLogModel", T_D, 30, t_D, rfl, by decide, uw_D, qm_738, k_D, n_D, by decide +kernel, rfl, fun _ => by contradiction⟩
theorem s_D_read_173 {l : Launch} {G : qh_G} {h : qh_H} {b0 : Nat} {fs rest : List Value} {v0 : Value} (hb0 : h b0 = some (.inr (8, fs))) : qx_Site l G "QuorumLogModel" c_D_read 173 y_D_sendAll (.ref b0 :: [v0]) rest h := qx_siteV (As := [v0]) (E := "QuorumLogModel") (ci := 8) d_D_read_173 qm_899 qm_901 qs_42 w_D_sendAll.1 (by decide) rfl p_D_sendAll hb0
theorem s_D_read_178 {l : Launch} {G : qh_G} {h : qh_H} {b0 : Nat} {fs rest : List Value} {v0 : Value} (hb0 : h b0 = some (.inr (8, fs))) : qx_Site l G "QuorumLogModel" c_D_read 178 y_D_lookAtReads (.ref b0 :: [v0]) rest h := qx_siteV (As := [v0]) (E := "QuorumLogModel") (ci := 8) d_D_read_178 qm_938 qm_940 qs_47 w_D_lookAtReads.1 (by decide) rfl p_D_lookAtReads hb0
theorem s_D_lookAtReads_85 {l : Launch} {G : qh_G} {h : qh_H} {b0 : Nat} {fs rest : List Value} {v0 v1 : Value} (hb0 : h b0 = some (.inr (8, fs))) : qx_Site l G "QuorumLogModel" c_D_lookAtReads 85 y_D_most (.ref b0 :: [v0, v1]) rest h := qx_siteV (As := [v0, v1]) (E := "QuorumLogModel") (ci := 8) d_D_lookAtReads_85 qm_868 qm_870 qs_35 w_D_most.1 (by decide) rfl p_D_most hb0
theorem fl_D_83 : qx_FL "QuorumLogModel" 83 8 26 := ⟨"QuorumLogModel", T_D, 30, rfl, by decide, uw_D, qm_743⟩
theorem s_D_lookAtReads_120 {l : Launch} {G : qh_G} {h : qh_H} {b0 : Nat} {fs rest : List Value} {v0 v1 v2 : Value} (hb0 : h b0 = some (.inr (8, fs))) : qx_Site l G "QuorumLogModel" c_D_lookAtReads 120 y_D_valueAt (.ref b0 :: [v0, v1, v2]) rest h := qx_siteV (As := [v0, v1, v2]) (E := "QuorumLogModel") (ci := 8) d_D_lookAtReads_120 qm_942 qm_944 qs_48 w_D_valueAt.1 (by decide) rfl p_D_valueAt hb0
theorem s_D_valueAt_32 {l : Launch} {G : qh_G} {h : qh_H} {b0 : Nat} {fs rest : List Value} {v0 v1 : Value} (hb0 : h b0 = some (.inr (8, fs))) : qx_Site l G "QuorumLogModel" c_D_valueAt 32 y_D_cell (.ref b0 :: [v0, v1]) rest h := qx_siteV (As := [v0, v1]) (E := "QuorumLogModel") (ci := 8) d_D_valueAt_32 qm_840 qm_842 qs_28 w_D_cell.1 (by decide) rfl p_D_cell hb0
theorem s_D_compact_6 {l : Launch} {G : qh_G} {h : qh_H} {rest : List Value} {v0 : Value} : qx_Site l G "QuorumLogModel" c_D_compact 6 y_D_isServer [v0] rest h := qx_siteS (As := [v0]) d_D_compact_6 qm_817 qm_818 qm_8 w_D_isServer.1 (by decide) p_D_isServer
theorem s_D_compact_48 {l : Launch} {G : qh_G} {h : qh_H} {b0 : Nat} {fs rest : List Value} {v0 v1 : Value} (hb0 : h b0 = some (.inr (8, fs))) : qx_Site l G "QuorumLogModel" c_D_compact 48 y_D_termAt (.ref b0 :: [v0, v1]) rest h := qx_siteV (As := [v0, v1]) (E := "QuorumLogModel") (ci := 8) d_D_compact_48 qm_856 qm_858 qs_32 w_D_termAt.1 (by decide) rfl p_D_termAt hb0
theorem s_D_compact_55 {l : Launch} {G : qh_G} {h : qh_H} {b0 : Nat} {fs rest : List Value} {v0 v1 : Value} (hb0 : h b0 = some (.inr (8, fs))) : qx_Site l G "QuorumLogModel" c_D_compact 55 y_D_membersAt (.ref b0 :: [v0, v1]) rest h := qx_siteV (As := [v0, v1]) (E := "QuorumLogModel") (ci := 8) d_D_compact_55 qm_832 qm_834 qs_26 w_D_membersAt.1 (by decide) rfl p_D_membersAt hb0
theorem s_D_compact_74 {l : Launch} {G : qh_G} {h : qh_H} {b0 : Nat} {fs rest : List Value} {v0 v1 v2 : Value} (hb0 : h b0 = some (.inr (8, fs))) : qx_Site l G "QuorumLogModel" c_D_compact 74 y_D_valueAt (.ref b0 :: [v0, v1, v2]) rest h := qx_siteV (As := [v0, v1, v2]) (E := "QuorumLogModel") (ci := 8) d_D_compact_74 qm_942 qm_944 qs_48 w_D_valueAt.1 (by decide) rfl p_D_valueAt hb0
theorem s_D_compact_101 {l : Launch} {G : qh_G} {h : qh_H} {b0 : Nat} {fs rest : List Value} {v0 v1 : Value} (hb0 : h b0 = some (.inr (8, fs))) : qx_Site l G "QuorumLogModel" c_D_compact 101 y_D_shift (.ref b0 :: [v0, v1]) rest h := qx_siteV (As := [v0, v1]) (E := "QuorumLogModel") (ci := 8) d_D_compact_101 qm_958 qm_960 qs_49 w_D_shift.1 (by decide) rfl p_D_shift hb0
theorem s_D_crash_6 {l : Launch} {G : qh_G} {h : qh_H} {rest : List Value} {v0 : Value} : qx_Site l G "QuorumLogModel" c_D_crash 6 y_D_isServer [v0] rest h := qx_siteS (As := [v0]) d_D_crash_6 qm_817 qm_818 qm_8 w_D_isServer.1 (by decide) p_D_isServer
theorem s_D_crash_32 {l : Launch} {G : qh_G} {h : qh_H} {b0 : Nat} {fs rest : List Value} {v0 : Value} (hb0 : h b0 = some (.inr (8, fs))) : qx_Site l G "QuorumLogModel" c_D_crash 32 y_D_follow (.ref b0 :: [v0]) rest h := qx_siteV (As := [v0]) (E := "QuorumLogModel") (ci := 8) d_D_crash_32 qm_895 qm_897 qs_41 w_D_follow.1 (by decide) rfl p_D_follow hb0
theorem s_D_restart_6 {l : Launch} {G : qh_G} {h : qh_H} {rest : List Value} {v0 : Value} : qx_Site l G "QuorumLogModel" c_D_restart 6 y_D_isServer [v0] rest h := qx_siteS (As := [v0]) d_D_restart_6 qm_817 qm_818 qm_8 w_D_isServer.1 (by decide) p_D_isServer
theorem s_D_deliver_52 {l : Launch} {G : qh_G} {h : qh_H} {b0 : Nat} {fs rest : List Value} {v0 : Value} (hb0 : h b0 = some (.inr (8, fs))) : qx_Site l G "QuorumLogModel" c_D_deliver 52 y_D_takeOut (.ref b0 :: [v0]) rest h := qx_siteV (As := [v0]) (E := "QuorumLogModel") (ci := 8) d_D_deliver_52 qm_974 qm_976 qs_50 w_D_takeOut.1 (by decide) rfl p_D_takeOut hb0
theorem s_D_deliver_108 {l : Launch} {G : qh_G} {h : qh_H} {b0 : Nat} {fs rest : List Value} {v0 v1 : Value} (hb0 : h b0 = some (.inr (8, fs))) : qx_Site l G "QuorumLogModel" c_D_deliver 108 y_D_newTerm (.ref b0 :: [v0, v1]) rest h := qx_siteV (As := [v0, v1]) (E := "QuorumLogModel") (ci := 8) d_D_deliver_108 qm_978 qm_980 qs_51 w_D_newTerm.1 (by decide) rfl p_D_newTerm hb0
theorem s_D_deliver_166 {l : Launch} {G : qh_G} {h : qh_H} {b0 : Nat} {fs rest : List Value} {v0 v1 v2 : Value} (hb0 : h b0 = some (.inr (8, fs))) : qx_Site l G "QuorumLogModel" c_D_deliver 166 y_D_question (.ref b0 :: [v0, v1, v2]) rest h := qx_siteV (As := [v0, v1, v2]) (E := "QuorumLogModel") (ci := 8) d_D_deliver_166 qm_982 qm_984 qs_52 w_D_question.1 (by decide) rfl p_D_question hb0
theorem s_D_deliver_186 {l : Launch} {G : qh_G} {h : qh_H} {b0 : Nat} {fs rest : List Value} {v0 v1 v2 : Value} (hb0 : h b0 = some (.inr (8, fs))) : qx_Site l G "QuorumLogModel" c_D_deliver 186 y_D_answered (.ref b0 :: [v0, v1, v2]) rest h := qx_siteV (As := [v0, v1, v2]) (E := "QuorumLogModel") (ci := 8) d_D_deliver_186 qm_994 qm_996 qs_55 w_D_answered.1 (by decide) rfl p_D_answered hb0
theorem s_D_deliver_206 {l : Launch} {G : qh_G} {h : qh_H} {b0 : Nat} {fs rest : List Value} {v0 v1 v2 : Value} (hb0 : h b0 = some (.inr (8, fs))) : qx_Site l G "QuorumLogModel" c_D_deliver 206 y_D_called (.ref b0 :: [v0, v1, v2]) rest h := qx_siteV (As := [v0, v1, v2]) (E := "QuorumLogModel") (ci := 8) d_D_deliver_206 qm_998 qm_1000 qs_56 w_D_called.1 (by decide) rfl p_D_called hb0
theorem s_D_deliver_226 {l : Launch} {G : qh_G} {h : qh_H} {b0 : Nat} {fs rest : List Value} {v0 v1 v2 : Value} (hb0 : h b0 = some (.inr (8, fs))) : qx_Site l G "QuorumLogModel" c_D_deliver 226 y_D_voted (.ref b0 :: [v0, v1, v2]) rest h := qx_siteV (As := [v0, v1, v2]) (E := "QuorumLogModel") (ci := 8) d_D_deliver_226 qm_1002 qm_1004 qs_57 w_D_voted.1 (by decide) rfl p_D_voted hb0
theorem s_D_deliver_240 {l : Launch} {G : qh_G} {h : qh_H} {b0 : Nat} {fs rest : List Value} {v0 v1 : Value} (hb0 : h b0 = some (.inr (8, fs))) : qx_Site l G "QuorumLogModel" c_D_deliver 240 y_D_appended (.ref b0 :: [v0, v1]) rest h := qx_siteV (As := [v0, v1]) (E := "QuorumLogModel") (ci := 8) d_D_deliver_240 qm_1006 qm_1008 qs_58 w_D_appended.1 (by decide) rfl p_D_appended hb0
theorem s_D_deliver_254 {l : Launch} {G : qh_G} {h : qh_H} {b0 : Nat} {fs rest : List Value} {v0 v1 : Value} (hb0 : h b0 = some (.inr (8, fs))) : qx_Site l G "QuorumLogModel" c_D_deliver 254 y_D_resulted (.ref b0 :: [v0, v1]) rest h := qx_siteV (As := [v0, v1]) (E := "QuorumLogModel") (ci := 8) d_D_deliver_254 qm_1018 qm_1020 qs_61 w_D_resulted.1 (by decide) rfl p_D_resulted hb0
theorem s_D_deliver_268 {l : Launch} {G : qh_G} {h : qh_H} {b0 : Nat} {fs rest : List Value} {v0 v1 : Value} (hb0 : h b0 = some (.inr (8, fs))) : qx_Site l G "QuorumLogModel" c_D_deliver 268 y_D_installed (.ref b0 :: [v0, v1]) rest h := qx_siteV (As := [v0, v1]) (E := "QuorumLogModel") (ci := 8) d_D_deliver_268 qm_1022 qm_1024 qs_62 w_D_installed.1 (by decide) rfl p_D_installed hb0
theorem s_D_newTerm_16 {l : Launch} {G : qh_G} {h : qh_H} {b0 : Nat} {fs rest : List Value} {v0 : Value} (hb0 : h b0 = some (.inr (8, fs))) : qx_Site l G "QuorumLogModel" c_D_newTerm 16 y_D_follow (.ref b0 :: [v0]) rest h := qx_siteV (As := [v0]) (E := "QuorumLogModel") (ci := 8) d_D_newTerm_16 qm_895 qm_897 qs_41 w_D_follow.1 (by decide) rfl p_D_follow hb0
theorem s_D_question_33 {l : Launch} {G : qh_G} {h : qh_H} {b0 : Nat} {fs rest : List Value} {v0 v1 v2 : Value} (hb0 : h b0 = some (.inr (8, fs))) : qx_Site l G "QuorumLogModel" c_D_question 33 y_D_liesBefore (.ref b0 :: [v0, v1, v2]) rest h := qx_siteV (As := [v0, v1, v2]) (E := "QuorumLogModel") (ci := 8) d_D_question_33 qm_986 qm_988 qs_53 w_D_liesBefore.1 (by decide) rfl p_D_liesBefore hb0
theorem s_D_question_67 {l : Launch} {G : qh_G} {h : qh_H} {b0 : Nat} {fs rest : List Value} {v0 v1 v2 v3 v4 : Value} (hb0 : h b0 = some (.inr (8, fs))) : qx_Site l G "QuorumLogModel" c_D_question 67 y_D_reply (.ref b0 :: [v0, v1, v2, v3, v4]) rest h := qx_siteV (As := [v0, v1, v2, v3, v4]) (E := "QuorumLogModel") (ci := 8) d_D_question_67 qm_990 qm_992 qs_54 w_D_reply.1 (by decide) rfl p_D_reply hb0
theorem s_D_liesBefore_3 {l : Launch} {G : qh_G} {h : qh_H} {b0 : Nat} {fs rest : List Value} {v0 : Value} (hb0 : h b0 = some (.inr (8, fs))) : qx_Site l G "QuorumLogModel" c_D_liesBefore 3 y_D_lastTerm (.ref b0 :: [v0]) rest h := qx_siteV (As := [v0]) (E := "QuorumLogModel") (ci := 8) d_D_liesBefore_3 qm_852 qm_854 qs_31 w_D_lastTerm.1 (by decide) rfl p_D_lastTerm hb0
theorem s_D_liesBefore_12 {l : Launch} {G : qh_G} {h : qh_H} {b0 : Nat} {fs rest : List Value} {v0 : Value} (hb0 : h b0 = some (.inr (8, fs))) : qx_Site l G "QuorumLogModel" c_D_liesBefore 12 y_D_lastTerm (.ref b0 :: [v0]) rest h := qx_siteV (As := [v0]) (E := "QuorumLogModel") (ci := 8) d_D_liesBefore_12 qm_852 qm_854 qs_31 w_D_lastTerm.1 (by decide) rfl p_D_lastTerm hb0
theorem s_D_liesBefore_21 {l : Launch} {G : qh_G} {h : qh_H} {b0 : Nat} {fs rest : List Value} {v0 : Value} (hb0 : h b0 = some (.inr (8, fs))) : qx_Site l G "QuorumLogModel" c_D_liesBefore 21 y_D_last (.ref b0 :: [v0]) rest h := qx_siteV (As := [v0]) (E := "QuorumLogModel") (ci := 8) d_D_liesBefore_21 qm_828 qm_830 qs_25 w_D_last.1 (by decide) rfl p_D_last hb0
theorem s_D_reply_6 {l : Launch} {G : qh_G} {h : qh_H} {b0 : Nat} {fs rest : List Value} {v0 v1 v2 v3 : Value} (hb0 : h b0 = some (.inr (8, fs))) : qx_Site l G "QuorumLogModel" c_D_reply 6 y_D_begin (.ref b0 :: [v0, v1, v2, v3]) rest h := qx_siteV (As := [v0, v1, v2, v3]) (E := "QuorumLogModel") (ci := 8) d_D_reply_6 qm_848 qm_850 qs_30 w_D_begin.1 (by decide) rfl p_D_begin hb0
theorem s_D_reply_27 {l : Launch} {G : qh_G} {h : qh_H} {b0 : Nat} {fs rest : List Value} (hb0 : h b0 = some (.inr (8, fs))) : qx_Site l G "QuorumLogModel" c_D_reply 27 y_D_post (.ref b0 :: []) rest h := qx_siteV (As := []) (E := "QuorumLogModel") (ci := 8) d_D_reply_27 qm_860 qm_862 qs_33 w_D_post.1 (by decide) rfl p_D_post hb0
theorem s_D_answered_48 {l : Launch} {G : qh_G} {h : qh_H} {b0 : Nat} {fs rest : List Value} {v0 : Value} (hb0 : h b0 = some (.inr (8, fs))) : qx_Site l G "QuorumLogModel" c_D_answered 48 y_D_weigh (.ref b0 :: [v0]) rest h := qx_siteV (As := [v0]) (E := "QuorumLogModel") (ci := 8) d_D_answered_48 qm_864 qm_866 qs_34 w_D_weigh.1 (by decide) rfl p_D_weigh hb0
theorem s_D_answered_67 {l : Launch} {G : qh_G} {h : qh_H} {b0 : Nat} {fs rest : List Value} {v0 v1 : Value} (hb0 : h b0 = some (.inr (8, fs))) : qx_Site l G "QuorumLogModel" c_D_answered 67 y_D_newTerm (.ref b0 :: [v0, v1]) rest h := qx_siteV (As := [v0, v1]) (E := "QuorumLogModel") (ci := 8) d_D_answered_67 qm_978 qm_980 qs_51 w_D_newTerm.1 (by decide) rfl p_D_newTerm hb0
theorem s_D_called_44 {l : Launch} {G : qh_G} {h : qh_H} {b0 : Nat} {fs rest : List Value} {v0 v1 v2 : Value} (hb0 : h b0 = some (.inr (8, fs))) : qx_Site l G "QuorumLogModel" c_D_called 44 y_D_liesBefore (.ref b0 :: [v0, v1, v2]) rest h := qx_siteV (As := [v0, v1, v2]) (E := "QuorumLogModel") (ci := 8) d_D_called_44 qm_986 qm_988 qs_53 w_D_liesBefore.1 (by decide) rfl p_D_liesBefore hb0
theorem s_D_called_81 {l : Launch} {G : qh_G} {h : qh_H} {b0 : Nat} {fs rest : List Value} {v0 v1 v2 v3 v4 : Value} (hb0 : h b0 = some (.inr (8, fs))) : qx_Site l G "QuorumLogModel" c_D_called 81 y_D_reply (.ref b0 :: [v0, v1, v2, v3, v4]) rest h := qx_siteV (As := [v0, v1, v2, v3, v4]) (E := "QuorumLogModel") (ci := 8) d_D_called_81 qm_990 qm_992 qs_54 w_D_reply.1 (by decide) rfl p_D_reply hb0
theorem s_D_voted_45 {l : Launch} {G : qh_G} {h : qh_H} {b0 : Nat} {fs rest : List Value} {v0 : Value} (hb0 : h b0 = some (.inr (8, fs))) : qx_Site l G "QuorumLogModel" c_D_voted 45 y_D_weigh (.ref b0 :: [v0]) rest h := qx_siteV (As := [v0]) (E := "QuorumLogModel") (ci := 8) d_D_voted_45 qm_864 qm_866 qs_34 w_D_weigh.1 (by decide) rfl p_D_weigh hb0
theorem s_D_appended_37 {l : Launch} {G : qh_G} {h : qh_H} {b0 : Nat} {fs rest : List Value} {v0 v1 v2 v3 v4 : Value} (hb0 : h b0 = some (.inr (8, fs))) : qx_Site l G "QuorumLogModel" c_D_appended 37 y_D_result (.ref b0 :: [v0, v1, v2, v3, v4]) rest h := qx_siteV (As := [v0, v1, v2, v3, v4]) (E := "QuorumLogModel") (ci := 8) d_D_appended_37 qm_1010 qm_1012 qs_59 w_D_result.1 (by decide) rfl p_D_result hb0
theorem s_D_appended_43 {l : Launch} {G : qh_G} {h : qh_H} {b0 : Nat} {fs rest : List Value} {v0 : Value} (hb0 : h b0 = some (.inr (8, fs))) : qx_Site l G "QuorumLogModel" c_D_appended 43 y_D_follow (.ref b0 :: [v0]) rest h := qx_siteV (As := [v0]) (E := "QuorumLogModel") (ci := 8) d_D_appended_43 qm_895 qm_897 qs_41 w_D_follow.1 (by decide) rfl p_D_follow hb0
theorem s_D_appended_56 {l : Launch} {G : qh_G} {h : qh_H} {b0 : Nat} {fs rest : List Value} {v0 : Value} (hb0 : h b0 = some (.inr (8, fs))) : qx_Site l G "QuorumLogModel" c_D_appended 56 y_D_last (.ref b0 :: [v0]) rest h := qx_siteV (As := [v0]) (E := "QuorumLogModel") (ci := 8) d_D_appended_56 qm_828 qm_830 qs_25 w_D_last.1 (by decide) rfl p_D_last hb0
theorem s_D_appended_75 {l : Launch} {G : qh_G} {h : qh_H} {b0 : Nat} {fs rest : List Value} {v0 v1 : Value} (hb0 : h b0 = some (.inr (8, fs))) : qx_Site l G "QuorumLogModel" c_D_appended 75 y_D_termAt (.ref b0 :: [v0, v1]) rest h := qx_siteV (As := [v0, v1]) (E := "QuorumLogModel") (ci := 8) d_D_appended_75 qm_856 qm_858 qs_32 w_D_termAt.1 (by decide) rfl p_D_termAt hb0
theorem s_D_appended_89 {l : Launch} {G : qh_G} {h : qh_H} {b0 : Nat} {fs rest : List Value} {v0 : Value} (hb0 : h b0 = some (.inr (8, fs))) : qx_Site l G "QuorumLogModel" c_D_appended 89 y_D_last (.ref b0 :: [v0]) rest h := qx_siteV (As := [v0]) (E := "QuorumLogModel") (ci := 8) d_D_appended_89 qm_828 qm_830 qs_25 w_D_last.1 (by decide) rfl p_D_last hb0
theorem s_D_appended_100 {l : Launch} {G : qh_G} {h : qh_H} {b0 : Nat} {fs rest : List Value} {v0 : Value} (hb0 : h b0 = some (.inr (8, fs))) : qx_Site l G "QuorumLogModel" c_D_appended 100 y_D_last (.ref b0 :: [v0]) rest h := qx_siteV (As := [v0]) (E := "QuorumLogModel") (ci := 8) d_D_appended_100 qm_828 qm_830 qs_25 w_D_last.1 (by decide) rfl p_D_last hb0
theorem s_D_appended_128 {l : Launch} {G : qh_G} {h : qh_H} {b0 : Nat} {fs rest : List Value} {v0 v1 v2 v3 v4 : Value} (hb0 : h b0 = some (.inr (8, fs))) : qx_Site l G "QuorumLogModel" c_D_appended 128 y_D_result (.ref b0 :: [v0, v1, v2, v3, v4]) rest h := qx_siteV (As := [v0, v1, v2, v3, v4]) (E := "QuorumLogModel") (ci := 8) d_D_appended_128 qm_1010 qm_1012 qs_59 w_D_result.1 (by decide) rfl p_D_result hb0
theorem s_D_appended_163 {l : Launch} {G : qh_G} {h : qh_H} {b0 : Nat} {fs rest : List Value} {v0 v1 v2 : Value} (hb0 : h b0 = some (.inr (8, fs))) : qx_Site l G "QuorumLogModel" c_D_appended 163 y_D_takeEntry (.ref b0 :: [v0, v1, v2]) rest h := qx_siteV (As := [v0, v1, v2]) (E := "QuorumLogModel") (ci := 8) d_D_appended_163 qm_1014 qm_1016 qs_60 w_D_takeEntry.1 (by decide) rfl p_D_takeEntry hb0
theorem s_D_appended_243 {l : Launch} {G : qh_G} {h : qh_H} {b0 : Nat} {fs rest : List Value} {v0 v1 v2 v3 v4 : Value} (hb0 : h b0 = some (.inr (8, fs))) : qx_Site l G "QuorumLogModel" c_D_appended 243 y_D_result (.ref b0 :: [v0, v1, v2, v3, v4]) rest h := qx_siteV (As := [v0, v1, v2, v3, v4]) (E := "QuorumLogModel") (ci := 8) d_D_appended_243 qm_1010 qm_1012 qs_59 w_D_result.1 (by decide) rfl p_D_result hb0
theorem s_D_result_10 {l : Launch} {G : qh_G} {h : qh_H} {b0 : Nat} {fs rest : List Value} {v0 v1 v2 v3 : Value} (hb0 : h b0 = some (.inr (8, fs))) : qx_Site l G "QuorumLogModel" c_D_result 10 y_D_begin (.ref b0 :: [v0, v1, v2, v3]) rest h := qx_siteV (As := [v0, v1, v2, v3]) (E := "QuorumLogModel") (ci := 8) d_D_result_10 qm_848 qm_850 qs_30 w_D_begin.1 (by decide) rfl p_D_begin hb0
theorem s_D_result_47 {l : Launch} {G : qh_G} {h : qh_H} {b0 : Nat} {fs rest : List Value} (hb0 : h b0 = some (.inr (8, fs))) : qx_Site l G "QuorumLogModel" c_D_result 47 y_D_post (.ref b0 :: []) rest h := qx_siteV (As := []) (E := "QuorumLogModel") (ci := 8) d_D_result_47 qm_860 qm_862 qs_33 w_D_post.1 (by decide) rfl p_D_post hb0
theorem s_D_takeEntry_15 {l : Launch} {G : qh_G} {h : qh_H} {b0 : Nat} {fs rest : List Value} {v0 : Value} (hb0 : h b0 = some (.inr (8, fs))) : qx_Site l G "QuorumLogModel" c_D_takeEntry 15 y_D_last (.ref b0 :: [v0]) rest h := qx_siteV (As := [v0]) (E := "QuorumLogModel") (ci := 8) d_D_takeEntry_15 qm_828 qm_830 qs_25 w_D_last.1 (by decide) rfl p_D_last hb0
theorem s_D_takeEntry_24 {l : Launch} {G : qh_G} {h : qh_H} {b0 : Nat} {fs rest : List Value} {v0 v1 : Value} (hb0 : h b0 = some (.inr (8, fs))) : qx_Site l G "QuorumLogModel" c_D_takeEntry 24 y_D_termAt (.ref b0 :: [v0, v1]) rest h := qx_siteV (As := [v0, v1]) (E := "QuorumLogModel") (ci := 8) d_D_takeEntry_24 qm_856 qm_858 qs_32 w_D_termAt.1 (by decide) rfl p_D_termAt hb0
theorem s_D_takeEntry_41 {l : Launch} {G : qh_G} {h : qh_H} {b0 : Nat} {fs rest : List Value} {v0 : Value} (hb0 : h b0 = some (.inr (8, fs))) : qx_Site l G "QuorumLogModel" c_D_takeEntry 41 y_D_last (.ref b0 :: [v0]) rest h := qx_siteV (As := [v0]) (E := "QuorumLogModel") (ci := 8) d_D_takeEntry_41 qm_828 qm_830 qs_25 w_D_last.1 (by decide) rfl p_D_last hb0
theorem s_D_takeEntry_108 {l : Launch} {G : qh_G} {h : qh_H} {b0 : Nat} {fs rest : List Value} {v0 v1 v2 v3 v4 : Value} (hb0 : h b0 = some (.inr (8, fs))) : qx_Site l G "QuorumLogModel" c_D_takeEntry 108 y_D_push (.ref b0 :: [v0, v1, v2, v3, v4]) rest h := qx_siteV (As := [v0, v1, v2, v3, v4]) (E := "QuorumLogModel") (ci := 8) d_D_takeEntry_108 qm_883 qm_885 qs_38 w_D_push.1 (by decide) rfl p_D_push hb0
theorem s_D_resulted_80 {l : Launch} {G : qh_G} {h : qh_H} {b0 : Nat} {fs rest : List Value} {v0 : Value} (hb0 : h b0 = some (.inr (8, fs))) : qx_Site l G "QuorumLogModel" c_D_resulted 80 y_D_config (.ref b0 :: [v0]) rest h := qx_siteV (As := [v0]) (E := "QuorumLogModel") (ci := 8) d_D_resulted_80 qm_824 qm_826 qs_24 w_D_config.1 (by decide) rfl p_D_config hb0
theorem s_D_resulted_153 {l : Launch} {G : qh_G} {h : qh_H} {b0 : Nat} {fs rest : List Value} {v0 : Value} (hb0 : h b0 = some (.inr (8, fs))) : qx_Site l G "QuorumLogModel" c_D_resulted 153 y_D_lookAtCommit (.ref b0 :: [v0]) rest h := qx_siteV (As := [v0]) (E := "QuorumLogModel") (ci := 8) d_D_resulted_153 qm_887 qm_889 qs_39 w_D_lookAtCommit.1 (by decide) rfl p_D_lookAtCommit hb0
theorem s_D_resulted_174 {l : Launch} {G : qh_G} {h : qh_H} {b0 : Nat} {fs rest : List Value} {v0 : Value} (hb0 : h b0 = some (.inr (8, fs))) : qx_Site l G "QuorumLogModel" c_D_resulted 174 y_D_last (.ref b0 :: [v0]) rest h := qx_siteV (As := [v0]) (E := "QuorumLogModel") (ci := 8) d_D_resulted_174 qm_828 qm_830 qs_25 w_D_last.1 (by decide) rfl p_D_last hb0
theorem s_D_resulted_188 {l : Launch} {G : qh_G} {h : qh_H} {b0 : Nat} {fs rest : List Value} {v0 v1 : Value} (hb0 : h b0 = some (.inr (8, fs))) : qx_Site l G "QuorumLogModel" c_D_resulted 188 y_D_sendTo (.ref b0 :: [v0, v1]) rest h := qx_siteV (As := [v0, v1]) (E := "QuorumLogModel") (ci := 8) d_D_resulted_188 qm_903 qm_905 qs_43 w_D_sendTo.1 (by decide) rfl p_D_sendTo hb0
theorem s_D_resulted_252 {l : Launch} {G : qh_G} {h : qh_H} {b0 : Nat} {fs rest : List Value} {v0 v1 : Value} (hb0 : h b0 = some (.inr (8, fs))) : qx_Site l G "QuorumLogModel" c_D_resulted 252 y_D_sendTo (.ref b0 :: [v0, v1]) rest h := qx_siteV (As := [v0, v1]) (E := "QuorumLogModel") (ci := 8) d_D_resulted_252 qm_903 qm_905 qs_43 w_D_sendTo.1 (by decide) rfl p_D_sendTo hb0
theorem s_D_resulted_267 {l : Launch} {G : qh_G} {h : qh_H} {b0 : Nat} {fs rest : List Value} {v0 : Value} (hb0 : h b0 = some (.inr (8, fs))) : qx_Site l G "QuorumLogModel" c_D_resulted 267 y_D_lookAtReads (.ref b0 :: [v0]) rest h := qx_siteV (As := [v0]) (E := "QuorumLogModel") (ci := 8) d_D_resulted_267 qm_938 qm_940 qs_47 w_D_lookAtReads.1 (by decide) rfl p_D_lookAtReads hb0
theorem s_D_installed_21 {l : Launch} {G : qh_G} {h : qh_H} {b0 : Nat} {fs rest : List Value} {v0 v1 v2 v3 v4 : Value} (hb0 : h b0 = some (.inr (8, fs))) : qx_Site l G "QuorumLogModel" c_D_installed 21 y_D_result (.ref b0 :: [v0, v1, v2, v3, v4]) rest h := qx_siteV (As := [v0, v1, v2, v3, v4]) (E := "QuorumLogModel") (ci := 8) d_D_installed_21 qm_1010 qm_1012 qs_59 w_D_result.1 (by decide) rfl p_D_result hb0
theorem s_D_installed_27 {l : Launch} {G : qh_G} {h : qh_H} {b0 : Nat} {fs rest : List Value} {v0 : Value} (hb0 : h b0 = some (.inr (8, fs))) : qx_Site l G "QuorumLogModel" c_D_installed 27 y_D_follow (.ref b0 :: [v0]) rest h := qx_siteV (As := [v0]) (E := "QuorumLogModel") (ci := 8) d_D_installed_27 qm_895 qm_897 qs_41 w_D_follow.1 (by decide) rfl p_D_follow hb0
theorem s_D_installed_57 {l : Launch} {G : qh_G} {h : qh_H} {b0 : Nat} {fs rest : List Value} {v0 v1 : Value} (hb0 : h b0 = some (.inr (8, fs))) : qx_Site l G "QuorumLogModel" c_D_installed 57 y_D_termAt (.ref b0 :: [v0, v1]) rest h := qx_siteV (As := [v0, v1]) (E := "QuorumLogModel") (ci := 8) d_D_installed_57 qm_856 qm_858 qs_32 w_D_termAt.1 (by decide) rfl p_D_termAt hb0
theorem s_D_installed_72 {l : Launch} {G : qh_G} {h : qh_H} {b0 : Nat} {fs rest : List Value} {v0 v1 : Value} (hb0 : h b0 = some (.inr (8, fs))) : qx_Site l G "QuorumLogModel" c_D_installed 72 y_D_shift (.ref b0 :: [v0, v1]) rest h := qx_siteV (As := [v0, v1]) (E := "QuorumLogModel") (ci := 8) d_D_installed_72 qm_958 qm_960 qs_49 w_D_shift.1 (by decide) rfl p_D_shift hb0
theorem s_D_installed_172 {l : Launch} {G : qh_G} {h : qh_H} {b0 : Nat} {fs rest : List Value} {v0 v1 v2 v3 v4 : Value} (hb0 : h b0 = some (.inr (8, fs))) : qx_Site l G "QuorumLogModel" c_D_installed 172 y_D_result (.ref b0 :: [v0, v1, v2, v3, v4]) rest h := qx_siteV (As := [v0, v1, v2, v3, v4]) (E := "QuorumLogModel") (ci := 8) d_D_installed_172 qm_1010 qm_1012 qs_59 w_D_result.1 (by decide) rfl p_D_result hb0
theorem s_D_lose_21 {l : Launch} {G : qh_G} {h : qh_H} {b0 : Nat} {fs rest : List Value} {v0 : Value} (hb0 : h b0 = some (.inr (8, fs))) : qx_Site l G "QuorumLogModel" c_D_lose 21 y_D_takeOut (.ref b0 :: [v0]) rest h := qx_siteV (As := [v0]) (E := "QuorumLogModel") (ci := 8) d_D_lose_21 qm_974 qm_976 qs_50 w_D_takeOut.1 (by decide) rfl p_D_takeOut hb0
theorem s_D_state_6 {l : Launch} {G : qh_G} {h : qh_H} {rest : List Value} {v0 : Value} : qx_Site l G "QuorumLogModel" c_D_state 6 y_D_isServer [v0] rest h := qx_siteS (As := [v0]) d_D_state_6 qm_817 qm_818 qm_8 w_D_isServer.1 (by decide) p_D_isServer
theorem s_D_state_101 {l : Launch} {G : qh_G} {h : qh_H} {b0 : Nat} {fs rest : List Value} {v0 : Value} (hb0 : h b0 = some (.inr (8, fs))) : qx_Site l G "QuorumLogModel" c_D_state 101 y_D_last (.ref b0 :: [v0]) rest h := qx_siteV (As := [v0]) (E := "QuorumLogModel") (ci := 8) d_D_state_101 qm_828 qm_830 qs_25 w_D_last.1 (by decide) rfl p_D_last hb0
theorem s_D_state_107 {l : Launch} {G : qh_G} {h : qh_H} {b0 : Nat} {fs rest : List Value} {v0 : Value} (hb0 : h b0 = some (.inr (8, fs))) : qx_Site l G "QuorumLogModel" c_D_state 107 y_D_config (.ref b0 :: [v0]) rest h := qx_siteV (As := [v0]) (E := "QuorumLogModel") (ci := 8) d_D_state_107 qm_824 qm_826 qs_24 w_D_config.1 (by decide) rfl p_D_config hb0
theorem s_D_entry_6 {l : Launch} {G : qh_G} {h : qh_H} {rest : List Value} {v0 : Value} : qx_Site l G "QuorumLogModel" c_D_entry 6 y_D_isServer [v0] rest h := qx_siteS (As := [v0]) d_D_entry_6 qm_817 qm_818 qm_8 w_D_isServer.1 (by decide) p_D_isServer
theorem s_D_entry_15 {l : Launch} {G : qh_G} {h : qh_H} {b0 : Nat} {fs rest : List Value} {v0 v1 : Value} (hb0 : h b0 = some (.inr (8, fs))) : qx_Site l G "QuorumLogModel" c_D_entry 15 y_D_cell (.ref b0 :: [v0, v1]) rest h := qx_siteV (As := [v0, v1]) (E := "QuorumLogModel") (ci := 8) d_D_entry_15 qm_840 qm_842 qs_28 w_D_cell.1 (by decide) rfl p_D_cell hb0
theorem s_D_stored_6 {l : Launch} {G : qh_G} {h : qh_H} {rest : List Value} {v0 : Value} : qx_Site l G "QuorumLogModel" c_D_stored 6 y_D_isServer [v0] rest h := qx_siteS (As := [v0]) d_D_stored_6 qm_817 qm_818 qm_8 w_D_isServer.1 (by decide) p_D_isServer
theorem s_D_stored_13 {l : Launch} {G : qh_G} {h : qh_H} {rest : List Value} {v0 : Value} : qx_Site l G "QuorumLogModel" c_D_stored 13 y_D_isKey [v0] rest h := qx_siteS (As := [v0]) d_D_stored_13 qm_919 qm_920 qm_8 w_D_isKey.1 (by decide) p_D_isKey
theorem s_D_stored_28 {l : Launch} {G : qh_G} {h : qh_H} {b0 : Nat} {fs rest : List Value} {v0 v1 v2 : Value} (hb0 : h b0 = some (.inr (8, fs))) : qx_Site l G "QuorumLogModel" c_D_stored 28 y_D_valueAt (.ref b0 :: [v0, v1, v2]) rest h := qx_siteV (As := [v0, v1, v2]) (E := "QuorumLogModel") (ci := 8) d_D_stored_28 qm_942 qm_944 qs_48 w_D_valueAt.1 (by decide) rfl p_D_valueAt hb0
