theorem dX4_init_0 : decode cX4_init 0 = .ok (.aload_n 0, 1) := by decide +kernel
theorem dX4_init_1 : decode cX4_init 1 = .ok (.invokespecial 1, 3) := by decide +kernel
theorem dX4_init_4 : decode cX4_init 4 = .ok (.aload_n 0, 1) := by decide +kernel
theorem dX4_init_5 : decode cX4_init 5 = .ok (.bipush 102, 2) := by decide +kernel
theorem dX4_init_7 : decode cX4_init 7 = .ok (.newarray .int, 2) := by decide +kernel
theorem dX4_init_9 : decode cX4_init 9 = .ok (.putfield 7, 3) := by decide +kernel
theorem dX4_init_12 : decode cX4_init 12 = .ok (.aload_n 0, 1) := by decide +kernel
theorem dX4_init_13 : decode cX4_init 13 = .ok (.ldc 13, 2) := by decide +kernel
theorem dX4_init_15 : decode cX4_init 15 = .ok (.newarray .byte, 2) := by decide +kernel
theorem dX4_init_17 : decode cX4_init 17 = .ok (.putfield 14, 3) := by decide +kernel
theorem dX4_init_20 : decode cX4_init 20 = .ok (.aload_n 0, 1) := by decide +kernel
theorem dX4_init_21 : decode cX4_init 21 = .ok (.bipush 101, 2) := by decide +kernel
theorem dX4_init_23 : decode cX4_init 23 = .ok (.newarray .boolean, 2) := by decide +kernel
theorem dX4_init_25 : decode cX4_init 25 = .ok (.putfield 18, 3) := by decide +kernel
theorem dX4_init_28 : decode cX4_init 28 = .ok (.aload_n 0, 1) := by decide +kernel
theorem dX4_init_29 : decode cX4_init 29 = .ok (.bipush 101, 2) := by decide +kernel
theorem dX4_init_31 : decode cX4_init 31 = .ok (.newarray .int, 2) := by decide +kernel
theorem dX4_init_33 : decode cX4_init 33 = .ok (.putfield 22, 3) := by decide +kernel
theorem dX4_init_36 : decode cX4_init 36 = .ok (.aload_n 0, 1) := by decide +kernel
theorem dX4_init_37 : decode cX4_init 37 = .ok (.bipush 101, 2) := by decide +kernel
theorem dX4_init_39 : decode cX4_init 39 = .ok (.newarray .int, 2) := by decide +kernel
theorem dX4_init_41 : decode cX4_init 41 = .ok (.putfield 25, 3) := by decide +kernel
theorem dX4_init_44 : decode cX4_init 44 = .ok (.aload_n 0, 1) := by decide +kernel
theorem dX4_init_45 : decode cX4_init 45 = .ok (.bipush 101, 2) := by decide +kernel
theorem dX4_init_47 : decode cX4_init 47 = .ok (.newarray .int, 2) := by decide +kernel
theorem dX4_init_49 : decode cX4_init 49 = .ok (.putfield 28, 3) := by decide +kernel
theorem dX4_init_52 : decode cX4_init 52 = .ok (.aload_n 0, 1) := by decide +kernel
theorem dX4_init_53 : decode cX4_init 53 = .ok (.bipush 101, 2) := by decide +kernel
theorem dX4_init_55 : decode cX4_init 55 = .ok (.newarray .int, 2) := by decide +kernel
theorem dX4_init_57 : decode cX4_init 57 = .ok (.putfield 31, 3) := by decide +kernel
theorem dX4_init_60 : decode cX4_init 60 = .ok (.aload_n 0, 1) := by decide +kernel
theorem dX4_init_61 : decode cX4_init 61 = .ok (.bipush 101, 2) := by decide +kernel
theorem dX4_init_63 : decode cX4_init 63 = .ok (.newarray .int, 2) := by decide +kernel
theorem dX4_init_65 : decode cX4_init 65 = .ok (.putfield 34, 3) := by decide +kernel
theorem dX4_init_68 : decode cX4_init 68 = .ok (.aload_n 0, 1) := by decide +kernel
theorem dX4_init_69 : decode cX4_init 69 = .ok (.bipush 101, 2) := by decide +kernel
theorem dX4_init_71 : decode cX4_init 71 = .ok (.newarray .int, 2) := by decide +kernel
theorem dX4_init_73 : decode cX4_init 73 = .ok (.putfield 37, 3) := by decide +kernel
theorem dX4_init_76 : decode cX4_init 76 = .ok (.aload_n 0, 1) := by decide +kernel
theorem dX4_init_77 : decode cX4_init 77 = .ok (.bipush 101, 2) := by decide +kernel
theorem dX4_init_79 : decode cX4_init 79 = .ok (.newarray .int, 2) := by decide +kernel
theorem dX4_init_81 : decode cX4_init 81 = .ok (.putfield 40, 3) := by decide +kernel
theorem dX4_init_84 : decode cX4_init 84 = .ok (.aload_n 0, 1) := by decide +kernel
theorem dX4_init_85 : decode cX4_init 85 = .ok (.bipush 101, 2) := by decide +kernel
theorem dX4_init_87 : decode cX4_init 87 = .ok (.newarray .long, 2) := by decide +kernel
theorem dX4_init_89 : decode cX4_init 89 = .ok (.putfield 43, 3) := by decide +kernel
theorem dX4_init_92 : decode cX4_init 92 = .ok (.aload_n 0, 1) := by decide +kernel
theorem dX4_init_93 : decode cX4_init 93 = .ok (.bipush 101, 2) := by decide +kernel
theorem dX4_init_95 : decode cX4_init 95 = .ok (.newarray .long, 2) := by decide +kernel
theorem dX4_init_97 : decode cX4_init 97 = .ok (.putfield 47, 3) := by decide +kernel
theorem dX4_init_100 : decode cX4_init 100 = .ok (.aload_n 0, 1) := by decide +kernel
theorem dX4_init_101 : decode cX4_init 101 = .ok (.iconst 4, 1) := by decide +kernel
theorem dX4_init_102 : decode cX4_init 102 = .ok (.newarray .int, 2) := by decide +kernel
theorem dX4_init_104 : decode cX4_init 104 = .ok (.putfield 50, 3) := by decide +kernel
theorem dX4_init_107 : decode cX4_init 107 = .ok (.aload_n 0, 1) := by decide +kernel
theorem dX4_init_108 : decode cX4_init 108 = .ok (.iconst 4, 1) := by decide +kernel
theorem dX4_init_109 : decode cX4_init 109 = .ok (.newarray .int, 2) := by decide +kernel
theorem dX4_init_111 : decode cX4_init 111 = .ok (.putfield 53, 3) := by decide +kernel
theorem dX4_init_114 : decode cX4_init 114 = .ok (.aload_n 0, 1) := by decide +kernel
theorem dX4_init_115 : decode cX4_init 115 = .ok (.iconst 4, 1) := by decide +kernel
theorem dX4_init_116 : decode cX4_init 116 = .ok (.newarray .int, 2) := by decide +kernel
theorem dX4_init_118 : decode cX4_init 118 = .ok (.putfield 56, 3) := by decide +kernel
theorem dX4_init_121 : decode cX4_init 121 = .ok (.aload_n 0, 1) := by decide +kernel
theorem dX4_init_122 : decode cX4_init 122 = .ok (.iconst 4, 1) := by decide +kernel
theorem dX4_init_123 : decode cX4_init 123 = .ok (.newarray .int, 2) := by decide +kernel
theorem dX4_init_125 : decode cX4_init 125 = .ok (.putfield 59, 3) := by decide +kernel
theorem dX4_init_128 : decode cX4_init 128 = .ok (.aload_n 0, 1) := by decide +kernel
theorem dX4_init_129 : decode cX4_init 129 = .ok (.iconst 4, 1) := by decide +kernel
theorem dX4_init_130 : decode cX4_init 130 = .ok (.newarray .int, 2) := by decide +kernel
theorem dX4_init_132 : decode cX4_init 132 = .ok (.putfield 62, 3) := by decide +kernel
theorem dX4_init_135 : decode cX4_init 135 = .ok (.aload_n 0, 1) := by decide +kernel
theorem dX4_init_136 : decode cX4_init 136 = .ok (.iconst 4, 1) := by decide +kernel
theorem dX4_init_137 : decode cX4_init 137 = .ok (.newarray .int, 2) := by decide +kernel
theorem dX4_init_139 : decode cX4_init 139 = .ok (.putfield 65, 3) := by decide +kernel
theorem dX4_init_142 : decode cX4_init 142 = .ok (.aload_n 0, 1) := by decide +kernel
theorem dX4_init_143 : decode cX4_init 143 = .ok (.iconst 4, 1) := by decide +kernel
theorem dX4_init_144 : decode cX4_init 144 = .ok (.newarray .int, 2) := by decide +kernel
theorem dX4_init_146 : decode cX4_init 146 = .ok (.putfield 68, 3) := by decide +kernel
theorem dX4_init_149 : decode cX4_init 149 = .ok (.aload_n 0, 1) := by decide +kernel
theorem dX4_init_150 : decode cX4_init 150 = .ok (.iconst 4, 1) := by decide +kernel
theorem dX4_init_151 : decode cX4_init 151 = .ok (.newarray .long, 2) := by decide +kernel
theorem dX4_init_153 : decode cX4_init 153 = .ok (.putfield 71, 3) := by decide +kernel
theorem dX4_init_156 : decode cX4_init 156 = .ok (.aload_n 0, 1) := by decide +kernel
theorem dX4_init_157 : decode cX4_init 157 = .ok (.iconst 4, 1) := by decide +kernel
theorem dX4_init_158 : decode cX4_init 158 = .ok (.newarray .boolean, 2) := by decide +kernel
theorem dX4_init_160 : decode cX4_init 160 = .ok (.putfield 74, 3) := by decide +kernel
theorem dX4_init_163 : decode cX4_init 163 = .ok (.aload_n 0, 1) := by decide +kernel
theorem dX4_init_164 : decode cX4_init 164 = .ok (.ldc 77, 2) := by decide +kernel
theorem dX4_init_166 : decode cX4_init 166 = .ok (.newarray .byte, 2) := by decide +kernel
theorem dX4_init_168 : decode cX4_init 168 = .ok (.putfield 78, 3) := by decide +kernel
theorem dX4_init_171 : decode cX4_init 171 = .ok (.aload_n 0, 1) := by decide +kernel
theorem dX4_init_172 : decode cX4_init 172 = .ok (.sipush 6001, 3) := by decide +kernel
theorem dX4_init_175 : decode cX4_init 175 = .ok (.newarray .int, 2) := by decide +kernel
theorem dX4_init_177 : decode cX4_init 177 = .ok (.putfield 81, 3) := by decide +kernel
theorem dX4_init_180 : decode cX4_init 180 = .ok (.aload_n 0, 1) := by decide +kernel
theorem dX4_init_181 : decode cX4_init 181 = .ok (.sipush 6001, 3) := by decide +kernel
theorem dX4_init_184 : decode cX4_init 184 = .ok (.newarray .int, 2) := by decide +kernel
theorem dX4_init_186 : decode cX4_init 186 = .ok (.putfield 84, 3) := by decide +kernel
theorem dX4_init_189 : decode cX4_init 189 = .ok (.aload_n 0, 1) := by decide +kernel
theorem dX4_init_190 : decode cX4_init 190 = .ok (.sipush 6001, 3) := by decide +kernel
theorem dX4_init_193 : decode cX4_init 193 = .ok (.newarray .int, 2) := by decide +kernel
theorem dX4_init_195 : decode cX4_init 195 = .ok (.putfield 87, 3) := by decide +kernel
theorem dX4_init_198 : decode cX4_init 198 = .ok (.aload_n 0, 1) := by decide +kernel
theorem dX4_init_199 : decode cX4_init 199 = .ok (.sipush 6001, 3) := by decide +kernel
theorem dX4_init_202 : decode cX4_init 202 = .ok (.newarray .int, 2) := by decide +kernel
theorem dX4_init_204 : decode cX4_init 204 = .ok (.putfield 90, 3) := by decide +kernel
theorem dX4_init_207 : decode cX4_init 207 = .ok (.aload_n 0, 1) := by decide +kernel
theorem dX4_init_208 : decode cX4_init 208 = .ok (.sipush 6001, 3) := by decide +kernel
theorem dX4_init_211 : decode cX4_init 211 = .ok (.newarray .int, 2) := by decide +kernel
theorem dX4_init_213 : decode cX4_init 213 = .ok (.putfield 93, 3) := by decide +kernel
theorem dX4_init_216 : decode cX4_init 216 = .ok (.aload_n 0, 1) := by decide +kernel
theorem dX4_init_217 : decode cX4_init 217 = .ok (.sipush 6001, 3) := by decide +kernel
theorem dX4_init_220 : decode cX4_init 220 = .ok (.newarray .long, 2) := by decide +kernel
theorem dX4_init_222 : decode cX4_init 222 = .ok (.putfield 96, 3) := by decide +kernel
theorem dX4_init_225 : decode cX4_init 225 = .ok (.aload_n 0, 1) := by decide +kernel
theorem dX4_init_226 : decode cX4_init 226 = .ok (.sipush 6001, 3) := by decide +kernel
theorem dX4_init_229 : decode cX4_init 229 = .ok (.newarray .boolean, 2) := by decide +kernel
theorem dX4_init_231 : decode cX4_init 231 = .ok (.putfield 99, 3) := by decide +kernel
theorem dX4_init_234 : decode cX4_init 234 = .ok (.aload_n 0, 1) := by decide +kernel
theorem dX4_init_235 : decode cX4_init 235 = .ok (.ldc 102, 2) := by decide +kernel
theorem dX4_init_237 : decode cX4_init 237 = .ok (.newarray .byte, 2) := by decide +kernel
theorem dX4_init_239 : decode cX4_init 239 = .ok (.putfield 103, 3) := by decide +kernel
theorem dX4_init_242 : decode cX4_init 242 = .ok (.aload_n 0, 1) := by decide +kernel
theorem dX4_init_243 : decode cX4_init 243 = .ok (.iconst 3, 1) := by decide +kernel
theorem dX4_init_244 : decode cX4_init 244 = .ok (.putfield 106, 3) := by decide +kernel
theorem dX4_init_247 : decode cX4_init 247 = .ok (.aload_n 0, 1) := by decide +kernel
theorem dX4_init_248 : decode cX4_init 248 = .ok (.sipush 10000, 3) := by decide +kernel
theorem dX4_init_251 : decode cX4_init 251 = .ok (.newarray .byte, 2) := by decide +kernel
theorem dX4_init_253 : decode cX4_init 253 = .ok (.putfield 110, 3) := by decide +kernel
theorem dX4_init_256 : decode cX4_init 256 = .ok (.aload_n 0, 1) := by decide +kernel
theorem dX4_init_257 : decode cX4_init 257 = .ok (.bipush 8, 2) := by decide +kernel
theorem dX4_init_259 : decode cX4_init 259 = .ok (.newarray .int, 2) := by decide +kernel
theorem dX4_init_261 : decode cX4_init 261 = .ok (.putfield 113, 3) := by decide +kernel
theorem dX4_init_264 : decode cX4_init 264 = .ok (.aload_n 0, 1) := by decide +kernel
theorem dX4_init_265 : decode cX4_init 265 = .ok (.iload_n 1, 1) := by decide +kernel
theorem dX4_init_266 : decode cX4_init 266 = .ok (.ifCond .lt 13, 3) := by decide +kernel
theorem dX4_init_269 : decode cX4_init 269 = .ok (.iload_n 1, 1) := by decide +kernel
theorem dX4_init_270 : decode cX4_init 270 = .ok (.ldc 116, 2) := by decide +kernel
theorem dX4_init_272 : decode cX4_init 272 = .ok (.if_icmp .gt 7, 3) := by decide +kernel
theorem dX4_init_275 : decode cX4_init 275 = .ok (.iload_n 1, 1) := by decide +kernel
theorem dX4_init_276 : decode cX4_init 276 = .ok (.goto 6, 3) := by decide +kernel
theorem dX4_init_279 : decode cX4_init 279 = .ok (.sipush 4095, 3) := by decide +kernel
theorem dX4_init_282 : decode cX4_init 282 = .ok (.putfield 117, 3) := by decide +kernel
theorem dX4_init_285 : decode cX4_init 285 = .ok (.return_, 1) := by decide +kernel
theorem dX4_thrown_0 : decode cX4_thrown 0 = .ok (.aload_n 0, 1) := by decide +kernel
theorem dX4_thrown_1 : decode cX4_thrown 1 = .ok (.getfield 120, 3) := by decide +kernel
theorem dX4_thrown_4 : decode cX4_thrown 4 = .ok (.ireturn, 1) := by decide +kernel
theorem dX4_size_0 : decode cX4_size 0 = .ok (.aload_n 0, 1) := by decide +kernel
theorem dX4_size_1 : decode cX4_size 1 = .ok (.getfield 7, 3) := by decide +kernel
theorem dX4_size_4 : decode cX4_size 4 = .ok (.iload_n 1, 1) := by decide +kernel
theorem dX4_size_5 : decode cX4_size 5 = .ok (.iconst 1, 1) := by decide +kernel
theorem dX4_size_6 : decode cX4_size 6 = .ok (.iadd, 1) := by decide +kernel
theorem dX4_size_7 : decode cX4_size 7 = .ok (.iaload, 1) := by decide +kernel
theorem dX4_size_8 : decode cX4_size 8 = .ok (.aload_n 0, 1) := by decide +kernel
theorem dX4_size_9 : decode cX4_size 9 = .ok (.getfield 7, 3) := by decide +kernel
theorem dX4_size_12 : decode cX4_size 12 = .ok (.iload_n 1, 1) := by decide +kernel
theorem dX4_size_13 : decode cX4_size 13 = .ok (.iaload, 1) := by decide +kernel
theorem dX4_size_14 : decode cX4_size 14 = .ok (.isub, 1) := by decide +kernel
theorem dX4_size_15 : decode cX4_size 15 = .ok (.ireturn, 1) := by decide +kernel
theorem dX4_send_0 : decode cX4_send 0 = .ok (.aload_n 0, 1) := by decide +kernel
theorem dX4_send_1 : decode cX4_send 1 = .ok (.iconst 0, 1) := by decide +kernel
theorem dX4_send_2 : decode cX4_send 2 = .ok (.putfield 120, 3) := by decide +kernel
theorem dX4_send_5 : decode cX4_send 5 = .ok (.iload_n 1, 1) := by decide +kernel
theorem dX4_send_6 : decode cX4_send 6 = .ok (.ifCond .lt 10, 3) := by decide +kernel
theorem dX4_send_9 : decode cX4_send 9 = .ok (.iload_n 1, 1) := by decide +kernel
theorem dX4_send_10 : decode cX4_send 10 = .ok (.sipush 10000, 3) := by decide +kernel
theorem dX4_send_13 : decode cX4_send 13 = .ok (.if_icmp .le 6, 3) := by decide +kernel
theorem dX4_send_16 : decode cX4_send 16 = .ok (.bipush (-2), 2) := by decide +kernel
theorem dX4_send_18 : decode cX4_send 18 = .ok (.ireturn, 1) := by decide +kernel
theorem dX4_send_19 : decode cX4_send 19 = .ok (.aload_n 0, 1) := by decide +kernel
theorem dX4_send_20 : decode cX4_send 20 = .ok (.getfield 123, 3) := by decide +kernel
theorem dX4_send_23 : decode cX4_send 23 = .ok (.bipush 100, 2) := by decide +kernel
theorem dX4_send_25 : decode cX4_send 25 = .ok (.if_icmp .ne 6, 3) := by decide +kernel
theorem dX4_send_28 : decode cX4_send 28 = .ok (.bipush (-4), 2) := by decide +kernel
theorem dX4_send_30 : decode cX4_send 30 = .ok (.ireturn, 1) := by decide +kernel
theorem dX4_send_31 : decode cX4_send 31 = .ok (.iload_n 1, 1) := by decide +kernel
theorem dX4_send_32 : decode cX4_send 32 = .ok (.ifCond .eq 16, 3) := by decide +kernel
theorem dX4_send_35 : decode cX4_send 35 = .ok (.aload_n 0, 1) := by decide +kernel
theorem dX4_send_36 : decode cX4_send 36 = .ok (.getfield 126, 3) := by decide +kernel
theorem dX4_send_39 : decode cX4_send 39 = .ok (.ifCond .eq 11, 3) := by decide +kernel
theorem dX4_send_42 : decode cX4_send 42 = .ok (.iload_n 1, 1) := by decide +kernel
theorem dX4_send_43 : decode cX4_send 43 = .ok (.bipush 7, 2) := by decide +kernel
theorem dX4_send_45 : decode cX4_send 45 = .ok (.if_icmp .le 5, 3) := by decide +kernel
theorem dX4_send_48 : decode cX4_send 48 = .ok (.iconst 0, 1) := by decide +kernel
theorem dX4_send_49 : decode cX4_send 49 = .ok (.ireturn, 1) := by decide +kernel
theorem dX4_send_50 : decode cX4_send 50 = .ok (.aload_n 0, 1) := by decide +kernel
theorem dX4_send_51 : decode cX4_send 51 = .ok (.dup, 1) := by decide +kernel
theorem dX4_send_52 : decode cX4_send 52 = .ok (.getfield 123, 3) := by decide +kernel
theorem dX4_send_55 : decode cX4_send 55 = .ok (.iconst 1, 1) := by decide +kernel
theorem dX4_send_56 : decode cX4_send 56 = .ok (.iadd, 1) := by decide +kernel
theorem dX4_send_57 : decode cX4_send 57 = .ok (.putfield 123, 3) := by decide +kernel
theorem dX4_send_60 : decode cX4_send 60 = .ok (.aload_n 0, 1) := by decide +kernel
theorem dX4_send_61 : decode cX4_send 61 = .ok (.getfield 7, 3) := by decide +kernel
theorem dX4_send_64 : decode cX4_send 64 = .ok (.aload_n 0, 1) := by decide +kernel
theorem dX4_send_65 : decode cX4_send 65 = .ok (.getfield 123, 3) := by decide +kernel
theorem dX4_send_68 : decode cX4_send 68 = .ok (.iconst 1, 1) := by decide +kernel
theorem dX4_send_69 : decode cX4_send 69 = .ok (.iadd, 1) := by decide +kernel
theorem dX4_send_70 : decode cX4_send 70 = .ok (.aload_n 0, 1) := by decide +kernel
theorem dX4_send_71 : decode cX4_send 71 = .ok (.getfield 7, 3) := by decide +kernel
theorem dX4_send_74 : decode cX4_send 74 = .ok (.aload_n 0, 1) := by decide +kernel
theorem dX4_send_75 : decode cX4_send 75 = .ok (.getfield 123, 3) := by decide +kernel
theorem dX4_send_78 : decode cX4_send 78 = .ok (.iaload, 1) := by decide +kernel
theorem dX4_send_79 : decode cX4_send 79 = .ok (.iload_n 1, 1) := by decide +kernel
theorem dX4_send_80 : decode cX4_send 80 = .ok (.iadd, 1) := by decide +kernel
theorem dX4_send_81 : decode cX4_send 81 = .ok (.iastore, 1) := by decide +kernel
theorem dX4_send_82 : decode cX4_send 82 = .ok (.aload_n 0, 1) := by decide +kernel
theorem dX4_send_83 : decode cX4_send 83 = .ok (.getfield 123, 3) := by decide +kernel
theorem dX4_send_86 : decode cX4_send 86 = .ok (.ireturn, 1) := by decide +kernel
set_option maxRecDepth 20000 in
theorem ggX4_octet_X4_size : GoodIn wsX4_octet wsX4_size := goodIn_r _ [9, 4, 10, 11, 12, 13, 14, 15, 16, 17, 18, 19, 20, 21, 22, 23, 24, 25, 26, 27, 28, 29, 30, 31, 32, 33, 34, 35, 36, 37, 38, 39, 40, 41, 42, 43, 44, 45, 46, 47, 48, 49, 50, 51, 52] (by decide +kernel) (by decide +kernel)
set_option maxRecDepth 20000 in
theorem gX4_octet_X4_size : GoodIn wsX4_octet (wsV RX4 130 RX4 yX4_size wsX4_size) := goodIn_app (goodIn_of _ (by decide +kernel)) ggX4_octet_X4_size
theorem dX4_octet_0 : decode cX4_octet 0 = .ok (.aload_n 0, 1) := by decide +kernel
theorem dX4_octet_1 : decode cX4_octet 1 = .ok (.iconst 0, 1) := by decide +kernel
theorem dX4_octet_2 : decode cX4_octet 2 = .ok (.putfield 120, 3) := by decide +kernel
theorem dX4_octet_5 : decode cX4_octet 5 = .ok (.iload_n 1, 1) := by decide +kernel
theorem dX4_octet_6 : decode cX4_octet 6 = .ok (.iconst 1, 1) := by decide +kernel
theorem dX4_octet_7 : decode cX4_octet 7 = .ok (.if_icmp .lt 24, 3) := by decide +kernel
theorem dX4_octet_10 : decode cX4_octet 10 = .ok (.iload_n 1, 1) := by decide +kernel
theorem dX4_octet_11 : decode cX4_octet 11 = .ok (.aload_n 0, 1) := by decide +kernel
theorem dX4_octet_12 : decode cX4_octet 12 = .ok (.getfield 123, 3) := by decide +kernel
theorem dX4_octet_15 : decode cX4_octet 15 = .ok (.if_icmp .gt 16, 3) := by decide +kernel
theorem dX4_octet_18 : decode cX4_octet 18 = .ok (.iload_n 2, 1) := by decide +kernel
theorem dX4_octet_19 : decode cX4_octet 19 = .ok (.ifCond .lt 12, 3) := by decide +kernel
theorem dX4_octet_22 : decode cX4_octet 22 = .ok (.iload_n 2, 1) := by decide +kernel
theorem dX4_octet_23 : decode cX4_octet 23 = .ok (.aload_n 0, 1) := by decide +kernel
theorem dX4_octet_24 : decode cX4_octet 24 = .ok (.iload_n 1, 1) := by decide +kernel
theorem dX4_octet_25 : decode cX4_octet 25 = .ok (.invokevirtual 130, 3) := by decide +kernel
theorem dX4_octet_28 : decode cX4_octet 28 = .ok (.if_icmp .lt 4, 3) := by decide +kernel
theorem dX4_octet_31 : decode cX4_octet 31 = .ok (.return_, 1) := by decide +kernel
theorem dX4_octet_32 : decode cX4_octet 32 = .ok (.aload_n 0, 1) := by decide +kernel
theorem dX4_octet_33 : decode cX4_octet 33 = .ok (.getfield 14, 3) := by decide +kernel
theorem dX4_octet_36 : decode cX4_octet 36 = .ok (.aload_n 0, 1) := by decide +kernel
theorem dX4_octet_37 : decode cX4_octet 37 = .ok (.getfield 7, 3) := by decide +kernel
theorem dX4_octet_40 : decode cX4_octet 40 = .ok (.iload_n 1, 1) := by decide +kernel
theorem dX4_octet_41 : decode cX4_octet 41 = .ok (.iaload, 1) := by decide +kernel
theorem dX4_octet_42 : decode cX4_octet 42 = .ok (.iload_n 2, 1) := by decide +kernel
theorem dX4_octet_43 : decode cX4_octet 43 = .ok (.iadd, 1) := by decide +kernel
theorem dX4_octet_44 : decode cX4_octet 44 = .ok (.iload_n 3, 1) := by decide +kernel
theorem dX4_octet_45 : decode cX4_octet 45 = .ok (.bastore, 1) := by decide +kernel
theorem dX4_octet_46 : decode cX4_octet 46 = .ok (.return_, 1) := by decide +kernel
theorem dX4_make_0 : decode cX4_make 0 = .ok (.aload_n 0, 1) := by decide +kernel
theorem dX4_make_1 : decode cX4_make 1 = .ok (.getfield 134, 3) := by decide +kernel
theorem dX4_make_4 : decode cX4_make 4 = .ok (.sipush 6000, 3) := by decide +kernel
theorem dX4_make_7 : decode cX4_make 7 = .ok (.if_icmp .ne 5, 3) := by decide +kernel
theorem dX4_make_10 : decode cX4_make 10 = .ok (.iconst 0, 1) := by decide +kernel
theorem dX4_make_11 : decode cX4_make 11 = .ok (.ireturn, 1) := by decide +kernel
theorem dX4_make_12 : decode cX4_make 12 = .ok (.aload_n 0, 1) := by decide +kernel
theorem dX4_make_13 : decode cX4_make 13 = .ok (.dup, 1) := by decide +kernel
theorem dX4_make_14 : decode cX4_make 14 = .ok (.getfield 134, 3) := by decide +kernel
theorem dX4_make_17 : decode cX4_make 17 = .ok (.iconst 1, 1) := by decide +kernel
theorem dX4_make_18 : decode cX4_make 18 = .ok (.iadd, 1) := by decide +kernel
theorem dX4_make_19 : decode cX4_make 19 = .ok (.putfield 134, 3) := by decide +kernel
theorem dX4_make_22 : decode cX4_make 22 = .ok (.aload_n 0, 1) := by decide +kernel
theorem dX4_make_23 : decode cX4_make 23 = .ok (.getfield 81, 3) := by decide +kernel
theorem dX4_make_26 : decode cX4_make 26 = .ok (.aload_n 0, 1) := by decide +kernel
theorem dX4_make_27 : decode cX4_make 27 = .ok (.getfield 134, 3) := by decide +kernel
theorem dX4_make_30 : decode cX4_make 30 = .ok (.iload_n 1, 1) := by decide +kernel
theorem dX4_make_31 : decode cX4_make 31 = .ok (.iastore, 1) := by decide +kernel
theorem dX4_make_32 : decode cX4_make 32 = .ok (.aload_n 0, 1) := by decide +kernel
theorem dX4_make_33 : decode cX4_make 33 = .ok (.getfield 84, 3) := by decide +kernel
theorem dX4_make_36 : decode cX4_make 36 = .ok (.aload_n 0, 1) := by decide +kernel
theorem dX4_make_37 : decode cX4_make 37 = .ok (.getfield 134, 3) := by decide +kernel
theorem dX4_make_40 : decode cX4_make 40 = .ok (.iload_n 2, 1) := by decide +kernel
theorem dX4_make_41 : decode cX4_make 41 = .ok (.iastore, 1) := by decide +kernel
theorem dX4_make_42 : decode cX4_make 42 = .ok (.aload_n 0, 1) := by decide +kernel
theorem dX4_make_43 : decode cX4_make 43 = .ok (.getfield 87, 3) := by decide +kernel
theorem dX4_make_46 : decode cX4_make 46 = .ok (.aload_n 0, 1) := by decide +kernel
theorem dX4_make_47 : decode cX4_make 47 = .ok (.getfield 134, 3) := by decide +kernel
theorem dX4_make_50 : decode cX4_make 50 = .ok (.iload_n 3, 1) := by decide +kernel
theorem dX4_make_51 : decode cX4_make 51 = .ok (.iastore, 1) := by decide +kernel
theorem dX4_make_52 : decode cX4_make 52 = .ok (.aload_n 0, 1) := by decide +kernel
theorem dX4_make_53 : decode cX4_make 53 = .ok (.getfield 90, 3) := by decide +kernel
theorem dX4_make_56 : decode cX4_make 56 = .ok (.aload_n 0, 1) := by decide +kernel
theorem dX4_make_57 : decode cX4_make 57 = .ok (.getfield 134, 3) := by decide +kernel
theorem dX4_make_60 : decode cX4_make 60 = .ok (.iload 4, 2) := by decide +kernel
theorem dX4_make_62 : decode cX4_make 62 = .ok (.iastore, 1) := by decide +kernel
theorem dX4_make_63 : decode cX4_make 63 = .ok (.aload_n 0, 1) := by decide +kernel
theorem dX4_make_64 : decode cX4_make 64 = .ok (.getfield 93, 3) := by decide +kernel
theorem dX4_make_67 : decode cX4_make 67 = .ok (.aload_n 0, 1) := by decide +kernel
theorem dX4_make_68 : decode cX4_make 68 = .ok (.getfield 134, 3) := by decide +kernel
theorem dX4_make_71 : decode cX4_make 71 = .ok (.iload 5, 2) := by decide +kernel
theorem dX4_make_73 : decode cX4_make 73 = .ok (.iastore, 1) := by decide +kernel
theorem dX4_make_74 : decode cX4_make 74 = .ok (.aload_n 0, 1) := by decide +kernel
theorem dX4_make_75 : decode cX4_make 75 = .ok (.getfield 96, 3) := by decide +kernel
theorem dX4_make_78 : decode cX4_make 78 = .ok (.aload_n 0, 1) := by decide +kernel
theorem dX4_make_79 : decode cX4_make 79 = .ok (.getfield 134, 3) := by decide +kernel
theorem dX4_make_82 : decode cX4_make 82 = .ok (.aload_n 0, 1) := by decide +kernel
theorem dX4_make_83 : decode cX4_make 83 = .ok (.getfield 137, 3) := by decide +kernel
theorem dX4_make_86 : decode cX4_make 86 = .ok (.lastore, 1) := by decide +kernel
theorem dX4_make_87 : decode cX4_make 87 = .ok (.aload_n 0, 1) := by decide +kernel
theorem dX4_make_88 : decode cX4_make 88 = .ok (.getfield 134, 3) := by decide +kernel
theorem dX4_make_91 : decode cX4_make 91 = .ok (.ireturn, 1) := by decide +kernel
theorem dX4_fill_0 : decode cX4_fill 0 = .ok (.iconst 0, 1) := by decide +kernel
theorem dX4_fill_1 : decode cX4_fill 1 = .ok (.istore 5, 2) := by decide +kernel
theorem dX4_fill_3 : decode cX4_fill 3 = .ok (.iload 5, 2) := by decide +kernel
theorem dX4_fill_5 : decode cX4_fill 5 = .ok (.iload 4, 2) := by decide +kernel
theorem dX4_fill_7 : decode cX4_fill 7 = .ok (.if_icmp .ge 41, 3) := by decide +kernel
theorem dX4_fill_10 : decode cX4_fill 10 = .ok (.iload_n 1, 1) := by decide +kernel
theorem dX4_fill_11 : decode cX4_fill 11 = .ok (.ifCond .le 37, 3) := by decide +kernel
theorem dX4_fill_14 : decode cX4_fill 14 = .ok (.aload_n 0, 1) := by decide +kernel
theorem dX4_fill_15 : decode cX4_fill 15 = .ok (.getfield 103, 3) := by decide +kernel
theorem dX4_fill_18 : decode cX4_fill 18 = .ok (.bipush 7, 2) := by decide +kernel
theorem dX4_fill_20 : decode cX4_fill 20 = .ok (.iload_n 1, 1) := by decide +kernel
theorem dX4_fill_21 : decode cX4_fill 21 = .ok (.imul, 1) := by decide +kernel
theorem dX4_fill_22 : decode cX4_fill 22 = .ok (.iload 5, 2) := by decide +kernel
theorem dX4_fill_24 : decode cX4_fill 24 = .ok (.iadd, 1) := by decide +kernel
theorem dX4_fill_25 : decode cX4_fill 25 = .ok (.aload_n 0, 1) := by decide +kernel
theorem dX4_fill_26 : decode cX4_fill 26 = .ok (.getfield 14, 3) := by decide +kernel
theorem dX4_fill_29 : decode cX4_fill 29 = .ok (.aload_n 0, 1) := by decide +kernel
theorem dX4_fill_30 : decode cX4_fill 30 = .ok (.getfield 7, 3) := by decide +kernel
theorem dX4_fill_33 : decode cX4_fill 33 = .ok (.iload_n 2, 1) := by decide +kernel
theorem dX4_fill_34 : decode cX4_fill 34 = .ok (.iaload, 1) := by decide +kernel
theorem dX4_fill_35 : decode cX4_fill 35 = .ok (.iload_n 3, 1) := by decide +kernel
theorem dX4_fill_36 : decode cX4_fill 36 = .ok (.iadd, 1) := by decide +kernel
theorem dX4_fill_37 : decode cX4_fill 37 = .ok (.iload 5, 2) := by decide +kernel
theorem dX4_fill_39 : decode cX4_fill 39 = .ok (.iadd, 1) := by decide +kernel
theorem dX4_fill_40 : decode cX4_fill 40 = .ok (.baload, 1) := by decide +kernel
theorem dX4_fill_41 : decode cX4_fill 41 = .ok (.bastore, 1) := by decide +kernel
theorem dX4_fill_42 : decode cX4_fill 42 = .ok (.iinc 5 1, 3) := by decide +kernel
theorem dX4_fill_45 : decode cX4_fill 45 = .ok (.goto (-42), 3) := by decide +kernel
theorem dX4_fill_48 : decode cX4_fill 48 = .ok (.return_, 1) := by decide +kernel
theorem dX4_endSender_0 : decode cX4_endSender 0 = .ok (.aload_n 0, 1) := by decide +kernel
theorem dX4_endSender_1 : decode cX4_endSender 1 = .ok (.getfield 22, 3) := by decide +kernel
theorem dX4_endSender_4 : decode cX4_endSender 4 = .ok (.iload_n 1, 1) := by decide +kernel
theorem dX4_endSender_5 : decode cX4_endSender 5 = .ok (.iconst 4, 1) := by decide +kernel
theorem dX4_endSender_6 : decode cX4_endSender 6 = .ok (.iastore, 1) := by decide +kernel
theorem dX4_endSender_7 : decode cX4_endSender 7 = .ok (.aload_n 0, 1) := by decide +kernel
theorem dX4_endSender_8 : decode cX4_endSender 8 = .ok (.getfield 113, 3) := by decide +kernel
theorem dX4_endSender_11 : decode cX4_endSender 11 = .ok (.iload_n 2, 1) := by decide +kernel
theorem dX4_endSender_12 : decode cX4_endSender 12 = .ok (.dup2, 1) := by decide +kernel
theorem dX4_endSender_13 : decode cX4_endSender 13 = .ok (.iaload, 1) := by decide +kernel
theorem dX4_endSender_14 : decode cX4_endSender 14 = .ok (.iconst 1, 1) := by decide +kernel
theorem dX4_endSender_15 : decode cX4_endSender 15 = .ok (.iadd, 1) := by decide +kernel
theorem dX4_endSender_16 : decode cX4_endSender 16 = .ok (.iastore, 1) := by decide +kernel
theorem dX4_endSender_17 : decode cX4_endSender 17 = .ok (.return_, 1) := by decide +kernel
set_option maxRecDepth 20000 in
theorem ggX4_start_X4_size : GoodIn wsX4_start wsX4_size := goodIn_r _ [10, 11, 34, 35, 36, 37, 38, 39, 40, 41, 42, 43, 44, 45, 46, 47, 48, 49, 50, 51, 52, 53, 54, 55, 56, 57, 58, 59, 60, 61, 62, 63, 64, 65, 66, 67, 68, 69, 70, 71, 72, 73, 74, 75, 76] (by decide +kernel) (by decide +kernel)
set_option maxRecDepth 20000 in
theorem gX4_start_X4_size : GoodIn wsX4_start (wsV RX4 130 RX4 yX4_size wsX4_size) := goodIn_app (goodIn_of _ (by decide +kernel)) ggX4_start_X4_size
set_option maxRecDepth 20000 in
theorem ggX4_start_X4_make : GoodIn wsX4_start wsX4_make := goodIn_r _ [15, 16, 17, 18, 19, 20, 21, 22, 4, 34, 35, 36, 37, 38, 39, 40, 41, 42, 43, 44, 45, 46, 47, 48, 49, 50, 51, 52, 53, 54, 55, 56, 57, 58, 59, 60, 61, 62, 63, 64, 65, 66, 67, 68, 69, 70, 71, 72, 73, 74, 75, 76] (by decide +kernel) (by decide +kernel)
set_option maxRecDepth 20000 in
theorem gX4_start_X4_make : GoodIn wsX4_start (wsV RX4 141 RX4 yX4_make wsX4_make) := goodIn_app (goodIn_of _ (by decide +kernel)) ggX4_start_X4_make
set_option maxRecDepth 20000 in
theorem ggX4_start_X4_fill : GoodIn wsX4_start wsX4_fill := goodIn_r _ [26, 27, 28, 11, 34, 35, 36, 37, 38, 39, 40, 41, 42, 43, 44, 45, 46, 47, 48, 49, 50, 51, 52, 53, 54, 55, 56, 57, 58, 59, 60, 61, 62, 63, 64, 65, 66, 67, 68, 69, 70, 71, 72, 73, 74, 75, 76] (by decide +kernel) (by decide +kernel)
set_option maxRecDepth 20000 in
theorem gX4_start_X4_fill : GoodIn wsX4_start (wsV RX4 145 RX4 yX4_fill wsX4_fill) := goodIn_app (goodIn_of _ (by decide +kernel)) ggX4_start_X4_fill
set_option maxRecDepth 20000 in
theorem ggX4_start_X4_endSender : GoodIn wsX4_start wsX4_endSender := goodIn_r _ [32, 5, 33, 34, 35, 36, 37, 38, 39, 40, 41, 42, 43, 44, 45, 46, 47, 48, 49, 50, 51, 52, 53, 54, 55, 56, 57, 58, 59, 60, 61, 62, 63, 64, 65, 66, 67, 68, 69, 70, 71, 72, 73, 74, 75, 76] (by decide +kernel) (by decide +kernel)
set_option maxRecDepth 20000 in
theorem gX4_start_X4_endSender : GoodIn wsX4_start (wsV RX4 149 RX4 yX4_endSender wsX4_endSender) := goodIn_app (goodIn_of _ (by decide +kernel)) ggX4_start_X4_endSender
theorem dX4_start_0 : decode cX4_start 0 = .ok (.aload_n 0, 1) := by decide +kernel
theorem dX4_start_1 : decode cX4_start 1 = .ok (.iload_n 1, 1) := by decide +kernel
theorem dX4_start_2 : decode cX4_start 2 = .ok (.invokevirtual 130, 3) := by decide +kernel
theorem dX4_start_5 : decode cX4_start 5 = .ok (.bipush 8, 2) := by decide +kernel
theorem dX4_start_7 : decode cX4_start 7 = .ok (.if_icmp .ge 11, 3) := by decide +kernel
theorem dX4_start_10 : decode cX4_start 10 = .ok (.aload_n 0, 1) := by decide +kernel
theorem dX4_start_11 : decode cX4_start 11 = .ok (.iload_n 1, 1) := by decide +kernel
theorem dX4_start_12 : decode cX4_start 12 = .ok (.invokevirtual 130, 3) := by decide +kernel
theorem dX4_start_15 : decode cX4_start 15 = .ok (.goto 20, 3) := by decide +kernel
theorem dX4_start_18 : decode cX4_start 18 = .ok (.aload_n 0, 1) := by decide +kernel
theorem dX4_start_19 : decode cX4_start 19 = .ok (.iload_n 1, 1) := by decide +kernel
theorem dX4_start_20 : decode cX4_start 20 = .ok (.invokevirtual 130, 3) := by decide +kernel
theorem dX4_start_23 : decode cX4_start 23 = .ok (.sipush 4095, 3) := by decide +kernel
theorem dX4_start_26 : decode cX4_start 26 = .ok (.if_icmp .le 7, 3) := by decide +kernel
theorem dX4_start_29 : decode cX4_start 29 = .ok (.iconst 2, 1) := by decide +kernel
theorem dX4_start_30 : decode cX4_start 30 = .ok (.goto 5, 3) := by decide +kernel
theorem dX4_start_33 : decode cX4_start 33 = .ok (.bipush 6, 2) := by decide +kernel
theorem dX4_start_35 : decode cX4_start 35 = .ok (.istore_n 2, 1) := by decide +kernel
theorem dX4_start_36 : decode cX4_start 36 = .ok (.aload_n 0, 1) := by decide +kernel
theorem dX4_start_37 : decode cX4_start 37 = .ok (.iload_n 1, 1) := by decide +kernel
theorem dX4_start_38 : decode cX4_start 38 = .ok (.invokevirtual 130, 3) := by decide +kernel
theorem dX4_start_41 : decode cX4_start 41 = .ok (.bipush 8, 2) := by decide +kernel
theorem dX4_start_43 : decode cX4_start 43 = .ok (.if_icmp .ge 7, 3) := by decide +kernel
theorem dX4_start_46 : decode cX4_start 46 = .ok (.iconst 1, 1) := by decide +kernel
theorem dX4_start_47 : decode cX4_start 47 = .ok (.goto 4, 3) := by decide +kernel
theorem dX4_start_50 : decode cX4_start 50 = .ok (.iconst 0, 1) := by decide +kernel
theorem dX4_start_51 : decode cX4_start 51 = .ok (.istore_n 3, 1) := by decide +kernel
theorem dX4_start_52 : decode cX4_start 52 = .ok (.aload_n 0, 1) := by decide +kernel
theorem dX4_start_53 : decode cX4_start 53 = .ok (.iload_n 3, 1) := by decide +kernel
theorem dX4_start_54 : decode cX4_start 54 = .ok (.ifCond .eq 7, 3) := by decide +kernel
theorem dX4_start_57 : decode cX4_start 57 = .ok (.iconst 0, 1) := by decide +kernel
theorem dX4_start_58 : decode cX4_start 58 = .ok (.goto 4, 3) := by decide +kernel
theorem dX4_start_61 : decode cX4_start 61 = .ok (.iconst 1, 1) := by decide +kernel
theorem dX4_start_62 : decode cX4_start 62 = .ok (.iload_n 1, 1) := by decide +kernel
theorem dX4_start_63 : decode cX4_start 63 = .ok (.iload_n 3, 1) := by decide +kernel
theorem dX4_start_64 : decode cX4_start 64 = .ok (.ifCond .eq 7, 3) := by decide +kernel
theorem dX4_start_67 : decode cX4_start 67 = .ok (.iconst 0, 1) := by decide +kernel
theorem dX4_start_68 : decode cX4_start 68 = .ok (.goto 8, 3) := by decide +kernel
theorem dX4_start_71 : decode cX4_start 71 = .ok (.aload_n 0, 1) := by decide +kernel
theorem dX4_start_72 : decode cX4_start 72 = .ok (.iload_n 1, 1) := by decide +kernel
theorem dX4_start_73 : decode cX4_start 73 = .ok (.invokevirtual 130, 3) := by decide +kernel
theorem dX4_start_76 : decode cX4_start 76 = .ok (.iload_n 2, 1) := by decide +kernel
theorem dX4_start_77 : decode cX4_start 77 = .ok (.iconst 0, 1) := by decide +kernel
theorem dX4_start_78 : decode cX4_start 78 = .ok (.invokevirtual 141, 3) := by decide +kernel
theorem dX4_start_81 : decode cX4_start 81 = .ok (.istore 4, 2) := by decide +kernel
theorem dX4_start_83 : decode cX4_start 83 = .ok (.aload_n 0, 1) := by decide +kernel
theorem dX4_start_84 : decode cX4_start 84 = .ok (.iload 4, 2) := by decide +kernel
theorem dX4_start_86 : decode cX4_start 86 = .ok (.iload_n 1, 1) := by decide +kernel
theorem dX4_start_87 : decode cX4_start 87 = .ok (.iconst 0, 1) := by decide +kernel
theorem dX4_start_88 : decode cX4_start 88 = .ok (.iload_n 2, 1) := by decide +kernel
theorem dX4_start_89 : decode cX4_start 89 = .ok (.invokevirtual 145, 3) := by decide +kernel
theorem dX4_start_92 : decode cX4_start 92 = .ok (.aload_n 0, 1) := by decide +kernel
theorem dX4_start_93 : decode cX4_start 93 = .ok (.getfield 18, 3) := by decide +kernel
theorem dX4_start_96 : decode cX4_start 96 = .ok (.iload_n 1, 1) := by decide +kernel
theorem dX4_start_97 : decode cX4_start 97 = .ok (.iconst 1, 1) := by decide +kernel
theorem dX4_start_98 : decode cX4_start 98 = .ok (.bastore, 1) := by decide +kernel
theorem dX4_start_99 : decode cX4_start 99 = .ok (.aload_n 0, 1) := by decide +kernel
theorem dX4_start_100 : decode cX4_start 100 = .ok (.getfield 25, 3) := by decide +kernel
theorem dX4_start_103 : decode cX4_start 103 = .ok (.iload_n 1, 1) := by decide +kernel
theorem dX4_start_104 : decode cX4_start 104 = .ok (.iload_n 2, 1) := by decide +kernel
theorem dX4_start_105 : decode cX4_start 105 = .ok (.iastore, 1) := by decide +kernel
theorem dX4_start_106 : decode cX4_start 106 = .ok (.aload_n 0, 1) := by decide +kernel
theorem dX4_start_107 : decode cX4_start 107 = .ok (.getfield 43, 3) := by decide +kernel
theorem dX4_start_110 : decode cX4_start 110 = .ok (.iload_n 1, 1) := by decide +kernel
theorem dX4_start_111 : decode cX4_start 111 = .ok (.aload_n 0, 1) := by decide +kernel
theorem dX4_start_112 : decode cX4_start 112 = .ok (.getfield 137, 3) := by decide +kernel
theorem dX4_start_115 : decode cX4_start 115 = .ok (.lastore, 1) := by decide +kernel
theorem dX4_start_116 : decode cX4_start 116 = .ok (.aload_n 0, 1) := by decide +kernel
theorem dX4_start_117 : decode cX4_start 117 = .ok (.getfield 22, 3) := by decide +kernel
theorem dX4_start_120 : decode cX4_start 120 = .ok (.iload_n 1, 1) := by decide +kernel
theorem dX4_start_121 : decode cX4_start 121 = .ok (.iload_n 3, 1) := by decide +kernel
theorem dX4_start_122 : decode cX4_start 122 = .ok (.ifCond .eq 7, 3) := by decide +kernel
theorem dX4_start_125 : decode cX4_start 125 = .ok (.iconst 3, 1) := by decide +kernel
theorem dX4_start_126 : decode cX4_start 126 = .ok (.goto 4, 3) := by decide +kernel
theorem dX4_start_129 : decode cX4_start 129 = .ok (.iconst 1, 1) := by decide +kernel
theorem dX4_start_130 : decode cX4_start 130 = .ok (.iastore, 1) := by decide +kernel
theorem dX4_start_131 : decode cX4_start 131 = .ok (.iload 4, 2) := by decide +kernel
theorem dX4_start_133 : decode cX4_start 133 = .ok (.ifCond .ne 10, 3) := by decide +kernel
theorem dX4_start_136 : decode cX4_start 136 = .ok (.aload_n 0, 1) := by decide +kernel
theorem dX4_start_137 : decode cX4_start 137 = .ok (.iload_n 1, 1) := by decide +kernel
theorem dX4_start_138 : decode cX4_start 138 = .ok (.bipush 7, 2) := by decide +kernel
theorem dX4_start_140 : decode cX4_start 140 = .ok (.invokevirtual 149, 3) := by decide +kernel
theorem dX4_start_143 : decode cX4_start 143 = .ok (.return_, 1) := by decide +kernel
set_option maxRecDepth 20000 in
theorem ggX4_sendNext_X4_size : GoodIn wsX4_sendNext wsX4_size := goodIn_r _ [14, 15, 38, 39, 40, 41, 42, 43, 44, 45, 46, 47, 48, 49, 50, 51, 52, 53, 54, 55, 56, 57, 58, 59, 60, 61, 62, 63, 64, 65, 66, 67, 68, 69, 70, 71, 72, 73, 74, 75, 76, 77, 78, 79, 80] (by decide +kernel) (by decide +kernel)
set_option maxRecDepth 20000 in
theorem gX4_sendNext_X4_size : GoodIn wsX4_sendNext (wsV RX4 130 RX4 yX4_size wsX4_size) := goodIn_app (goodIn_of _ (by decide +kernel)) ggX4_sendNext_X4_size
set_option maxRecDepth 20000 in
theorem ggX4_sendNext_X4_make : GoodIn wsX4_sendNext wsX4_make := goodIn_r _ [19, 20, 21, 22, 23, 24, 25, 26, 4, 38, 39, 40, 41, 42, 43, 44, 45, 46, 47, 48, 49, 50, 51, 52, 53, 54, 55, 56, 57, 58, 59, 60, 61, 62, 63, 64, 65, 66, 67, 68, 69, 70, 71, 72, 73, 74, 75, 76, 77, 78, 79, 80] (by decide +kernel) (by decide +kernel)
set_option maxRecDepth 20000 in
theorem gX4_sendNext_X4_make : GoodIn wsX4_sendNext (wsV RX4 141 RX4 yX4_make wsX4_make) := goodIn_app (goodIn_of _ (by decide +kernel)) ggX4_sendNext_X4_make
set_option maxRecDepth 20000 in
theorem ggX4_sendNext_X4_endSender : GoodIn wsX4_sendNext wsX4_endSender := goodIn_r _ [30, 6, 31, 38, 39, 40, 41, 42, 43, 44, 45, 46, 47, 48, 49, 50, 51, 52, 53, 54, 55, 56, 57, 58, 59, 60, 61, 62, 63, 64, 65, 66, 67, 68, 69, 70, 71, 72, 73, 74, 75, 76, 77, 78, 79, 80] (by decide +kernel) (by decide +kernel)
set_option maxRecDepth 20000 in
theorem gX4_sendNext_X4_endSender : GoodIn wsX4_sendNext (wsV RX4 149 RX4 yX4_endSender wsX4_endSender) := goodIn_app (goodIn_of _ (by decide +kernel)) ggX4_sendNext_X4_endSender
set_option maxRecDepth 20000 in
theorem ggX4_sendNext_X4_fill : GoodIn wsX4_sendNext wsX4_fill := goodIn_r _ [35, 36, 37, 15, 38, 39, 40, 41, 42, 43, 44, 45, 46, 47, 48, 49, 50, 51, 52, 53, 54, 55, 56, 57, 58, 59, 60, 61, 62, 63, 64, 65, 66, 67, 68, 69, 70, 71, 72, 73, 74, 75, 76, 77, 78, 79, 80] (by decide +kernel) (by decide +kernel)
set_option maxRecDepth 20000 in
theorem gX4_sendNext_X4_fill : GoodIn wsX4_sendNext (wsV RX4 145 RX4 yX4_fill wsX4_fill) := goodIn_app (goodIn_of _ (by decide +kernel)) ggX4_sendNext_X4_fill
theorem dX4_sendNext_0 : decode cX4_sendNext 0 = .ok (.aload_n 0, 1) := by decide +kernel
theorem dX4_sendNext_1 : decode cX4_sendNext 1 = .ok (.iload_n 1, 1) := by decide +kernel
theorem dX4_sendNext_2 : decode cX4_sendNext 2 = .ok (.invokevirtual 130, 3) := by decide +kernel
theorem dX4_sendNext_5 : decode cX4_sendNext 5 = .ok (.aload_n 0, 1) := by decide +kernel
theorem dX4_sendNext_6 : decode cX4_sendNext 6 = .ok (.getfield 25, 3) := by decide +kernel
theorem dX4_sendNext_9 : decode cX4_sendNext 9 = .ok (.iload_n 1, 1) := by decide +kernel
theorem dX4_sendNext_10 : decode cX4_sendNext 10 = .ok (.iaload, 1) := by decide +kernel
theorem dX4_sendNext_11 : decode cX4_sendNext 11 = .ok (.isub, 1) := by decide +kernel
theorem dX4_sendNext_12 : decode cX4_sendNext 12 = .ok (.istore_n 2, 1) := by decide +kernel
theorem dX4_sendNext_13 : decode cX4_sendNext 13 = .ok (.iload_n 2, 1) := by decide +kernel
theorem dX4_sendNext_14 : decode cX4_sendNext 14 = .ok (.bipush 7, 2) := by decide +kernel
theorem dX4_sendNext_16 : decode cX4_sendNext 16 = .ok (.if_icmp .le 8, 3) := by decide +kernel
theorem dX4_sendNext_19 : decode cX4_sendNext 19 = .ok (.bipush 7, 2) := by decide +kernel
theorem dX4_sendNext_21 : decode cX4_sendNext 21 = .ok (.goto 4, 3) := by decide +kernel
theorem dX4_sendNext_24 : decode cX4_sendNext 24 = .ok (.iload_n 2, 1) := by decide +kernel
theorem dX4_sendNext_25 : decode cX4_sendNext 25 = .ok (.istore_n 3, 1) := by decide +kernel
theorem dX4_sendNext_26 : decode cX4_sendNext 26 = .ok (.aload_n 0, 1) := by decide +kernel
theorem dX4_sendNext_27 : decode cX4_sendNext 27 = .ok (.getfield 28, 3) := by decide +kernel
theorem dX4_sendNext_30 : decode cX4_sendNext 30 = .ok (.iload_n 1, 1) := by decide +kernel
theorem dX4_sendNext_31 : decode cX4_sendNext 31 = .ok (.aload_n 0, 1) := by decide +kernel
theorem dX4_sendNext_32 : decode cX4_sendNext 32 = .ok (.getfield 28, 3) := by decide +kernel
theorem dX4_sendNext_35 : decode cX4_sendNext 35 = .ok (.iload_n 1, 1) := by decide +kernel
theorem dX4_sendNext_36 : decode cX4_sendNext 36 = .ok (.iaload, 1) := by decide +kernel
theorem dX4_sendNext_37 : decode cX4_sendNext 37 = .ok (.iconst 1, 1) := by decide +kernel
theorem dX4_sendNext_38 : decode cX4_sendNext 38 = .ok (.iadd, 1) := by decide +kernel
theorem dX4_sendNext_39 : decode cX4_sendNext 39 = .ok (.bipush 16, 2) := by decide +kernel
theorem dX4_sendNext_41 : decode cX4_sendNext 41 = .ok (.irem, 1) := by decide +kernel
theorem dX4_sendNext_42 : decode cX4_sendNext 42 = .ok (.iastore, 1) := by decide +kernel
theorem dX4_sendNext_43 : decode cX4_sendNext 43 = .ok (.aload_n 0, 1) := by decide +kernel
theorem dX4_sendNext_44 : decode cX4_sendNext 44 = .ok (.iconst 2, 1) := by decide +kernel
theorem dX4_sendNext_45 : decode cX4_sendNext 45 = .ok (.iload_n 1, 1) := by decide +kernel
theorem dX4_sendNext_46 : decode cX4_sendNext 46 = .ok (.aload_n 0, 1) := by decide +kernel
theorem dX4_sendNext_47 : decode cX4_sendNext 47 = .ok (.getfield 28, 3) := by decide +kernel
theorem dX4_sendNext_50 : decode cX4_sendNext 50 = .ok (.iload_n 1, 1) := by decide +kernel
theorem dX4_sendNext_51 : decode cX4_sendNext 51 = .ok (.iaload, 1) := by decide +kernel
theorem dX4_sendNext_52 : decode cX4_sendNext 52 = .ok (.iload_n 3, 1) := by decide +kernel
theorem dX4_sendNext_53 : decode cX4_sendNext 53 = .ok (.iconst 0, 1) := by decide +kernel
theorem dX4_sendNext_54 : decode cX4_sendNext 54 = .ok (.invokevirtual 141, 3) := by decide +kernel
theorem dX4_sendNext_57 : decode cX4_sendNext 57 = .ok (.istore 4, 2) := by decide +kernel
theorem dX4_sendNext_59 : decode cX4_sendNext 59 = .ok (.iload 4, 2) := by decide +kernel
theorem dX4_sendNext_61 : decode cX4_sendNext 61 = .ok (.ifCond .ne 11, 3) := by decide +kernel
theorem dX4_sendNext_64 : decode cX4_sendNext 64 = .ok (.aload_n 0, 1) := by decide +kernel
theorem dX4_sendNext_65 : decode cX4_sendNext 65 = .ok (.iload_n 1, 1) := by decide +kernel
theorem dX4_sendNext_66 : decode cX4_sendNext 66 = .ok (.bipush 7, 2) := by decide +kernel
theorem dX4_sendNext_68 : decode cX4_sendNext 68 = .ok (.invokevirtual 149, 3) := by decide +kernel
theorem dX4_sendNext_71 : decode cX4_sendNext 71 = .ok (.return_, 1) := by decide +kernel
theorem dX4_sendNext_72 : decode cX4_sendNext 72 = .ok (.aload_n 0, 1) := by decide +kernel
theorem dX4_sendNext_73 : decode cX4_sendNext 73 = .ok (.iload 4, 2) := by decide +kernel
theorem dX4_sendNext_75 : decode cX4_sendNext 75 = .ok (.iload_n 1, 1) := by decide +kernel
theorem dX4_sendNext_76 : decode cX4_sendNext 76 = .ok (.aload_n 0, 1) := by decide +kernel
theorem dX4_sendNext_77 : decode cX4_sendNext 77 = .ok (.getfield 25, 3) := by decide +kernel
theorem dX4_sendNext_80 : decode cX4_sendNext 80 = .ok (.iload_n 1, 1) := by decide +kernel
theorem dX4_sendNext_81 : decode cX4_sendNext 81 = .ok (.iaload, 1) := by decide +kernel
theorem dX4_sendNext_82 : decode cX4_sendNext 82 = .ok (.iload_n 3, 1) := by decide +kernel
theorem dX4_sendNext_83 : decode cX4_sendNext 83 = .ok (.invokevirtual 145, 3) := by decide +kernel
theorem dX4_sendNext_86 : decode cX4_sendNext 86 = .ok (.aload_n 0, 1) := by decide +kernel
theorem dX4_sendNext_87 : decode cX4_sendNext 87 = .ok (.getfield 25, 3) := by decide +kernel
theorem dX4_sendNext_90 : decode cX4_sendNext 90 = .ok (.iload_n 1, 1) := by decide +kernel
theorem dX4_sendNext_91 : decode cX4_sendNext 91 = .ok (.aload_n 0, 1) := by decide +kernel
theorem dX4_sendNext_92 : decode cX4_sendNext 92 = .ok (.getfield 25, 3) := by decide +kernel
theorem dX4_sendNext_95 : decode cX4_sendNext 95 = .ok (.iload_n 1, 1) := by decide +kernel
theorem dX4_sendNext_96 : decode cX4_sendNext 96 = .ok (.iaload, 1) := by decide +kernel
theorem dX4_sendNext_97 : decode cX4_sendNext 97 = .ok (.iload_n 3, 1) := by decide +kernel
theorem dX4_sendNext_98 : decode cX4_sendNext 98 = .ok (.iadd, 1) := by decide +kernel
theorem dX4_sendNext_99 : decode cX4_sendNext 99 = .ok (.iastore, 1) := by decide +kernel
theorem dX4_sendNext_100 : decode cX4_sendNext 100 = .ok (.aload_n 0, 1) := by decide +kernel
theorem dX4_sendNext_101 : decode cX4_sendNext 101 = .ok (.getfield 47, 3) := by decide +kernel
theorem dX4_sendNext_104 : decode cX4_sendNext 104 = .ok (.iload_n 1, 1) := by decide +kernel
theorem dX4_sendNext_105 : decode cX4_sendNext 105 = .ok (.aload_n 0, 1) := by decide +kernel
theorem dX4_sendNext_106 : decode cX4_sendNext 106 = .ok (.getfield 137, 3) := by decide +kernel
theorem dX4_sendNext_109 : decode cX4_sendNext 109 = .ok (.aload_n 0, 1) := by decide +kernel
theorem dX4_sendNext_110 : decode cX4_sendNext 110 = .ok (.getfield 37, 3) := by decide +kernel
theorem dX4_sendNext_113 : decode cX4_sendNext 113 = .ok (.iload_n 1, 1) := by decide +kernel
theorem dX4_sendNext_114 : decode cX4_sendNext 114 = .ok (.iaload, 1) := by decide +kernel
theorem dX4_sendNext_115 : decode cX4_sendNext 115 = .ok (.i2l, 1) := by decide +kernel
theorem dX4_sendNext_116 : decode cX4_sendNext 116 = .ok (.ladd, 1) := by decide +kernel
theorem dX4_sendNext_117 : decode cX4_sendNext 117 = .ok (.lastore, 1) := by decide +kernel
theorem dX4_sendNext_118 : decode cX4_sendNext 118 = .ok (.iload_n 3, 1) := by decide +kernel
theorem dX4_sendNext_119 : decode cX4_sendNext 119 = .ok (.iload_n 2, 1) := by decide +kernel
theorem dX4_sendNext_120 : decode cX4_sendNext 120 = .ok (.if_icmp .ne 11, 3) := by decide +kernel
theorem dX4_sendNext_123 : decode cX4_sendNext 123 = .ok (.aload_n 0, 1) := by decide +kernel
theorem dX4_sendNext_124 : decode cX4_sendNext 124 = .ok (.getfield 22, 3) := by decide +kernel
theorem dX4_sendNext_127 : decode cX4_sendNext 127 = .ok (.iload_n 1, 1) := by decide +kernel
theorem dX4_sendNext_128 : decode cX4_sendNext 128 = .ok (.iconst 3, 1) := by decide +kernel
theorem dX4_sendNext_129 : decode cX4_sendNext 129 = .ok (.iastore, 1) := by decide +kernel
theorem dX4_sendNext_130 : decode cX4_sendNext 130 = .ok (.return_, 1) := by decide +kernel
theorem dX4_sendNext_131 : decode cX4_sendNext 131 = .ok (.aload_n 0, 1) := by decide +kernel
theorem dX4_sendNext_132 : decode cX4_sendNext 132 = .ok (.getfield 31, 3) := by decide +kernel
theorem dX4_sendNext_135 : decode cX4_sendNext 135 = .ok (.iload_n 1, 1) := by decide +kernel
theorem dX4_sendNext_136 : decode cX4_sendNext 136 = .ok (.iaload, 1) := by decide +kernel
theorem dX4_sendNext_137 : decode cX4_sendNext 137 = .ok (.ifCond .ne 4, 3) := by decide +kernel
theorem dX4_sendNext_140 : decode cX4_sendNext 140 = .ok (.return_, 1) := by decide +kernel
theorem dX4_sendNext_141 : decode cX4_sendNext 141 = .ok (.aload_n 0, 1) := by decide +kernel
theorem dX4_sendNext_142 : decode cX4_sendNext 142 = .ok (.getfield 34, 3) := by decide +kernel
theorem dX4_sendNext_145 : decode cX4_sendNext 145 = .ok (.iload_n 1, 1) := by decide +kernel
theorem dX4_sendNext_146 : decode cX4_sendNext 146 = .ok (.dup2, 1) := by decide +kernel
theorem dX4_sendNext_147 : decode cX4_sendNext 147 = .ok (.iaload, 1) := by decide +kernel
theorem dX4_sendNext_148 : decode cX4_sendNext 148 = .ok (.iconst 1, 1) := by decide +kernel
theorem dX4_sendNext_149 : decode cX4_sendNext 149 = .ok (.isub, 1) := by decide +kernel
theorem dX4_sendNext_150 : decode cX4_sendNext 150 = .ok (.iastore, 1) := by decide +kernel
theorem dX4_sendNext_151 : decode cX4_sendNext 151 = .ok (.aload_n 0, 1) := by decide +kernel
theorem dX4_sendNext_152 : decode cX4_sendNext 152 = .ok (.getfield 34, 3) := by decide +kernel
theorem dX4_sendNext_155 : decode cX4_sendNext 155 = .ok (.iload_n 1, 1) := by decide +kernel
theorem dX4_sendNext_156 : decode cX4_sendNext 156 = .ok (.iaload, 1) := by decide +kernel
theorem dX4_sendNext_157 : decode cX4_sendNext 157 = .ok (.ifCond .ne 20, 3) := by decide +kernel
theorem dX4_sendNext_160 : decode cX4_sendNext 160 = .ok (.aload_n 0, 1) := by decide +kernel
theorem dX4_sendNext_161 : decode cX4_sendNext 161 = .ok (.getfield 22, 3) := by decide +kernel
theorem dX4_sendNext_164 : decode cX4_sendNext 164 = .ok (.iload_n 1, 1) := by decide +kernel
theorem dX4_sendNext_165 : decode cX4_sendNext 165 = .ok (.iconst 1, 1) := by decide +kernel
theorem dX4_sendNext_166 : decode cX4_sendNext 166 = .ok (.iastore, 1) := by decide +kernel
theorem dX4_sendNext_167 : decode cX4_sendNext 167 = .ok (.aload_n 0, 1) := by decide +kernel
theorem dX4_sendNext_168 : decode cX4_sendNext 168 = .ok (.getfield 43, 3) := by decide +kernel
theorem dX4_sendNext_171 : decode cX4_sendNext 171 = .ok (.iload_n 1, 1) := by decide +kernel
theorem dX4_sendNext_172 : decode cX4_sendNext 172 = .ok (.aload_n 0, 1) := by decide +kernel
theorem dX4_sendNext_173 : decode cX4_sendNext 173 = .ok (.getfield 137, 3) := by decide +kernel
theorem dX4_sendNext_176 : decode cX4_sendNext 176 = .ok (.lastore, 1) := by decide +kernel
theorem dX4_sendNext_177 : decode cX4_sendNext 177 = .ok (.return_, 1) := by decide +kernel
set_option maxRecDepth 20000 in
theorem ggX4_takeFlow_X4_endSender : GoodIn wsX4_takeFlow wsX4_endSender := goodIn_r _ [18, 2, 19, 20, 21, 22, 23, 24, 25, 26, 27, 28, 29, 30, 31, 32, 33, 34, 35, 36, 37, 38, 39, 40, 41, 42, 43, 44, 45, 46, 47, 48, 49, 50, 51, 52, 53, 54, 55, 56, 57, 58, 59, 60, 61, 62] (by decide +kernel) (by decide +kernel)
set_option maxRecDepth 20000 in
theorem gX4_takeFlow_X4_endSender : GoodIn wsX4_takeFlow (wsV RX4 149 RX4 yX4_endSender wsX4_endSender) := goodIn_app (goodIn_of _ (by decide +kernel)) ggX4_takeFlow_X4_endSender
theorem dX4_takeFlow_0 : decode cX4_takeFlow 0 = .ok (.aload_n 0, 1) := by decide +kernel
theorem dX4_takeFlow_1 : decode cX4_takeFlow 1 = .ok (.getfield 84, 3) := by decide +kernel
theorem dX4_takeFlow_4 : decode cX4_takeFlow 4 = .ok (.iload_n 1, 1) := by decide +kernel
theorem dX4_takeFlow_5 : decode cX4_takeFlow 5 = .ok (.iaload, 1) := by decide +kernel
theorem dX4_takeFlow_6 : decode cX4_takeFlow 6 = .ok (.istore_n 2, 1) := by decide +kernel
theorem dX4_takeFlow_7 : decode cX4_takeFlow 7 = .ok (.aload_n 0, 1) := by decide +kernel
theorem dX4_takeFlow_8 : decode cX4_takeFlow 8 = .ok (.getfield 22, 3) := by decide +kernel
theorem dX4_takeFlow_11 : decode cX4_takeFlow 11 = .ok (.iload_n 2, 1) := by decide +kernel
theorem dX4_takeFlow_12 : decode cX4_takeFlow 12 = .ok (.iaload, 1) := by decide +kernel
theorem dX4_takeFlow_13 : decode cX4_takeFlow 13 = .ok (.iconst 1, 1) := by decide +kernel
theorem dX4_takeFlow_14 : decode cX4_takeFlow 14 = .ok (.if_icmp .eq 10, 3) := by decide +kernel
theorem dX4_takeFlow_17 : decode cX4_takeFlow 17 = .ok (.aload_n 0, 1) := by decide +kernel
theorem dX4_takeFlow_18 : decode cX4_takeFlow 18 = .ok (.getfield 22, 3) := by decide +kernel
theorem dX4_takeFlow_21 : decode cX4_takeFlow 21 = .ok (.iload_n 2, 1) := by decide +kernel
theorem dX4_takeFlow_22 : decode cX4_takeFlow 22 = .ok (.iaload, 1) := by decide +kernel
theorem dX4_takeFlow_23 : decode cX4_takeFlow 23 = .ok (.ireturn, 1) := by decide +kernel
theorem dX4_takeFlow_24 : decode cX4_takeFlow 24 = .ok (.aload_n 0, 1) := by decide +kernel
theorem dX4_takeFlow_25 : decode cX4_takeFlow 25 = .ok (.getfield 93, 3) := by decide +kernel
theorem dX4_takeFlow_28 : decode cX4_takeFlow 28 = .ok (.iload_n 1, 1) := by decide +kernel
theorem dX4_takeFlow_29 : decode cX4_takeFlow 29 = .ok (.iaload, 1) := by decide +kernel
theorem dX4_takeFlow_30 : decode cX4_takeFlow 30 = .ok (.istore_n 3, 1) := by decide +kernel
theorem dX4_takeFlow_31 : decode cX4_takeFlow 31 = .ok (.aload_n 0, 1) := by decide +kernel
theorem dX4_takeFlow_32 : decode cX4_takeFlow 32 = .ok (.getfield 87, 3) := by decide +kernel
theorem dX4_takeFlow_35 : decode cX4_takeFlow 35 = .ok (.iload_n 1, 1) := by decide +kernel
theorem dX4_takeFlow_36 : decode cX4_takeFlow 36 = .ok (.iaload, 1) := by decide +kernel
theorem dX4_takeFlow_37 : decode cX4_takeFlow 37 = .ok (.ifCond .ne 84, 3) := by decide +kernel
theorem dX4_takeFlow_40 : decode cX4_takeFlow 40 = .ok (.aload_n 0, 1) := by decide +kernel
theorem dX4_takeFlow_41 : decode cX4_takeFlow 41 = .ok (.getfield 22, 3) := by decide +kernel
theorem dX4_takeFlow_44 : decode cX4_takeFlow 44 = .ok (.iload_n 2, 1) := by decide +kernel
theorem dX4_takeFlow_45 : decode cX4_takeFlow 45 = .ok (.iconst 2, 1) := by decide +kernel
theorem dX4_takeFlow_46 : decode cX4_takeFlow 46 = .ok (.iastore, 1) := by decide +kernel
theorem dX4_takeFlow_47 : decode cX4_takeFlow 47 = .ok (.aload_n 0, 1) := by decide +kernel
theorem dX4_takeFlow_48 : decode cX4_takeFlow 48 = .ok (.getfield 31, 3) := by decide +kernel
theorem dX4_takeFlow_51 : decode cX4_takeFlow 51 = .ok (.iload_n 2, 1) := by decide +kernel
theorem dX4_takeFlow_52 : decode cX4_takeFlow 52 = .ok (.aload_n 0, 1) := by decide +kernel
theorem dX4_takeFlow_53 : decode cX4_takeFlow 53 = .ok (.getfield 90, 3) := by decide +kernel
theorem dX4_takeFlow_56 : decode cX4_takeFlow 56 = .ok (.iload_n 1, 1) := by decide +kernel
theorem dX4_takeFlow_57 : decode cX4_takeFlow 57 = .ok (.iaload, 1) := by decide +kernel
theorem dX4_takeFlow_58 : decode cX4_takeFlow 58 = .ok (.iastore, 1) := by decide +kernel
theorem dX4_takeFlow_59 : decode cX4_takeFlow 59 = .ok (.aload_n 0, 1) := by decide +kernel
theorem dX4_takeFlow_60 : decode cX4_takeFlow 60 = .ok (.getfield 34, 3) := by decide +kernel
theorem dX4_takeFlow_63 : decode cX4_takeFlow 63 = .ok (.iload_n 2, 1) := by decide +kernel
theorem dX4_takeFlow_64 : decode cX4_takeFlow 64 = .ok (.aload_n 0, 1) := by decide +kernel
theorem dX4_takeFlow_65 : decode cX4_takeFlow 65 = .ok (.getfield 90, 3) := by decide +kernel
theorem dX4_takeFlow_68 : decode cX4_takeFlow 68 = .ok (.iload_n 1, 1) := by decide +kernel
theorem dX4_takeFlow_69 : decode cX4_takeFlow 69 = .ok (.iaload, 1) := by decide +kernel
theorem dX4_takeFlow_70 : decode cX4_takeFlow 70 = .ok (.iastore, 1) := by decide +kernel
theorem dX4_takeFlow_71 : decode cX4_takeFlow 71 = .ok (.aload_n 0, 1) := by decide +kernel
theorem dX4_takeFlow_72 : decode cX4_takeFlow 72 = .ok (.getfield 37, 3) := by decide +kernel
theorem dX4_takeFlow_75 : decode cX4_takeFlow 75 = .ok (.iload_n 2, 1) := by decide +kernel
theorem dX4_takeFlow_76 : decode cX4_takeFlow 76 = .ok (.iload_n 3, 1) := by decide +kernel
theorem dX4_takeFlow_77 : decode cX4_takeFlow 77 = .ok (.sipush 128, 3) := by decide +kernel
theorem dX4_takeFlow_80 : decode cX4_takeFlow 80 = .ok (.if_icmp .ge 7, 3) := by decide +kernel
theorem dX4_takeFlow_83 : decode cX4_takeFlow 83 = .ok (.iload_n 3, 1) := by decide +kernel
theorem dX4_takeFlow_84 : decode cX4_takeFlow 84 = .ok (.goto 23, 3) := by decide +kernel
theorem dX4_takeFlow_87 : decode cX4_takeFlow 87 = .ok (.iload_n 3, 1) := by decide +kernel
theorem dX4_takeFlow_88 : decode cX4_takeFlow 88 = .ok (.sipush 241, 3) := by decide +kernel
theorem dX4_takeFlow_91 : decode cX4_takeFlow 91 = .ok (.if_icmp .lt 14, 3) := by decide +kernel
theorem dX4_takeFlow_94 : decode cX4_takeFlow 94 = .ok (.iload_n 3, 1) := by decide +kernel
theorem dX4_takeFlow_95 : decode cX4_takeFlow 95 = .ok (.sipush 249, 3) := by decide +kernel
theorem dX4_takeFlow_98 : decode cX4_takeFlow 98 = .ok (.if_icmp .gt 7, 3) := by decide +kernel
theorem dX4_takeFlow_101 : decode cX4_takeFlow 101 = .ok (.iconst 1, 1) := by decide +kernel
theorem dX4_takeFlow_102 : decode cX4_takeFlow 102 = .ok (.goto 5, 3) := by decide +kernel
theorem dX4_takeFlow_105 : decode cX4_takeFlow 105 = .ok (.bipush 127, 2) := by decide +kernel
theorem dX4_takeFlow_107 : decode cX4_takeFlow 107 = .ok (.iastore, 1) := by decide +kernel
theorem dX4_takeFlow_108 : decode cX4_takeFlow 108 = .ok (.aload_n 0, 1) := by decide +kernel
theorem dX4_takeFlow_109 : decode cX4_takeFlow 109 = .ok (.getfield 47, 3) := by decide +kernel
theorem dX4_takeFlow_112 : decode cX4_takeFlow 112 = .ok (.iload_n 2, 1) := by decide +kernel
theorem dX4_takeFlow_113 : decode cX4_takeFlow 113 = .ok (.aload_n 0, 1) := by decide +kernel
theorem dX4_takeFlow_114 : decode cX4_takeFlow 114 = .ok (.getfield 137, 3) := by decide +kernel
theorem dX4_takeFlow_117 : decode cX4_takeFlow 117 = .ok (.lastore, 1) := by decide +kernel
theorem dX4_takeFlow_118 : decode cX4_takeFlow 118 = .ok (.goto 61, 3) := by decide +kernel
theorem dX4_takeFlow_121 : decode cX4_takeFlow 121 = .ok (.aload_n 0, 1) := by decide +kernel
theorem dX4_takeFlow_122 : decode cX4_takeFlow 122 = .ok (.getfield 87, 3) := by decide +kernel
theorem dX4_takeFlow_125 : decode cX4_takeFlow 125 = .ok (.iload_n 1, 1) := by decide +kernel
theorem dX4_takeFlow_126 : decode cX4_takeFlow 126 = .ok (.iaload, 1) := by decide +kernel
theorem dX4_takeFlow_127 : decode cX4_takeFlow 127 = .ok (.iconst 1, 1) := by decide +kernel
theorem dX4_takeFlow_128 : decode cX4_takeFlow 128 = .ok (.if_icmp .ne 45, 3) := by decide +kernel
theorem dX4_takeFlow_131 : decode cX4_takeFlow 131 = .ok (.aload_n 0, 1) := by decide +kernel
theorem dX4_takeFlow_132 : decode cX4_takeFlow 132 = .ok (.getfield 40, 3) := by decide +kernel
theorem dX4_takeFlow_135 : decode cX4_takeFlow 135 = .ok (.iload_n 2, 1) := by decide +kernel
theorem dX4_takeFlow_136 : decode cX4_takeFlow 136 = .ok (.dup2, 1) := by decide +kernel
theorem dX4_takeFlow_137 : decode cX4_takeFlow 137 = .ok (.iaload, 1) := by decide +kernel
theorem dX4_takeFlow_138 : decode cX4_takeFlow 138 = .ok (.iconst 1, 1) := by decide +kernel
theorem dX4_takeFlow_139 : decode cX4_takeFlow 139 = .ok (.iadd, 1) := by decide +kernel
theorem dX4_takeFlow_140 : decode cX4_takeFlow 140 = .ok (.iastore, 1) := by decide +kernel
theorem dX4_takeFlow_141 : decode cX4_takeFlow 141 = .ok (.aload_n 0, 1) := by decide +kernel
theorem dX4_takeFlow_142 : decode cX4_takeFlow 142 = .ok (.getfield 43, 3) := by decide +kernel
theorem dX4_takeFlow_145 : decode cX4_takeFlow 145 = .ok (.iload_n 2, 1) := by decide +kernel
theorem dX4_takeFlow_146 : decode cX4_takeFlow 146 = .ok (.aload_n 0, 1) := by decide +kernel
theorem dX4_takeFlow_147 : decode cX4_takeFlow 147 = .ok (.getfield 137, 3) := by decide +kernel
theorem dX4_takeFlow_150 : decode cX4_takeFlow 150 = .ok (.lastore, 1) := by decide +kernel
theorem dX4_takeFlow_151 : decode cX4_takeFlow 151 = .ok (.aload_n 0, 1) := by decide +kernel
theorem dX4_takeFlow_152 : decode cX4_takeFlow 152 = .ok (.getfield 40, 3) := by decide +kernel
theorem dX4_takeFlow_155 : decode cX4_takeFlow 155 = .ok (.iload_n 2, 1) := by decide +kernel
theorem dX4_takeFlow_156 : decode cX4_takeFlow 156 = .ok (.iaload, 1) := by decide +kernel
theorem dX4_takeFlow_157 : decode cX4_takeFlow 157 = .ok (.aload_n 0, 1) := by decide +kernel
theorem dX4_takeFlow_158 : decode cX4_takeFlow 158 = .ok (.getfield 106, 3) := by decide +kernel
theorem dX4_takeFlow_161 : decode cX4_takeFlow 161 = .ok (.if_icmp .le 18, 3) := by decide +kernel
theorem dX4_takeFlow_164 : decode cX4_takeFlow 164 = .ok (.aload_n 0, 1) := by decide +kernel
theorem dX4_takeFlow_165 : decode cX4_takeFlow 165 = .ok (.iload_n 2, 1) := by decide +kernel
theorem dX4_takeFlow_166 : decode cX4_takeFlow 166 = .ok (.iconst 5, 1) := by decide +kernel
theorem dX4_takeFlow_167 : decode cX4_takeFlow 167 = .ok (.invokevirtual 149, 3) := by decide +kernel
theorem dX4_takeFlow_170 : decode cX4_takeFlow 170 = .ok (.goto 9, 3) := by decide +kernel
theorem dX4_takeFlow_173 : decode cX4_takeFlow 173 = .ok (.aload_n 0, 1) := by decide +kernel
theorem dX4_takeFlow_174 : decode cX4_takeFlow 174 = .ok (.iload_n 2, 1) := by decide +kernel
theorem dX4_takeFlow_175 : decode cX4_takeFlow 175 = .ok (.iconst 4, 1) := by decide +kernel
theorem dX4_takeFlow_176 : decode cX4_takeFlow 176 = .ok (.invokevirtual 149, 3) := by decide +kernel
theorem dX4_takeFlow_179 : decode cX4_takeFlow 179 = .ok (.aload_n 0, 1) := by decide +kernel
theorem dX4_takeFlow_180 : decode cX4_takeFlow 180 = .ok (.getfield 22, 3) := by decide +kernel
theorem dX4_takeFlow_183 : decode cX4_takeFlow 183 = .ok (.iload_n 2, 1) := by decide +kernel
theorem dX4_takeFlow_184 : decode cX4_takeFlow 184 = .ok (.iaload, 1) := by decide +kernel
theorem dX4_takeFlow_185 : decode cX4_takeFlow 185 = .ok (.ireturn, 1) := by decide +kernel
theorem dX4_endReceiver_0 : decode cX4_endReceiver 0 = .ok (.aload_n 0, 1) := by decide +kernel
theorem dX4_endReceiver_1 : decode cX4_endReceiver 1 = .ok (.getfield 50, 3) := by decide +kernel
theorem dX4_endReceiver_4 : decode cX4_endReceiver 4 = .ok (.iload_n 1, 1) := by decide +kernel
theorem dX4_endReceiver_5 : decode cX4_endReceiver 5 = .ok (.iconst 3, 1) := by decide +kernel
theorem dX4_endReceiver_6 : decode cX4_endReceiver 6 = .ok (.iastore, 1) := by decide +kernel
theorem dX4_endReceiver_7 : decode cX4_endReceiver 7 = .ok (.aload_n 0, 1) := by decide +kernel
theorem dX4_endReceiver_8 : decode cX4_endReceiver 8 = .ok (.getfield 113, 3) := by decide +kernel
theorem dX4_endReceiver_11 : decode cX4_endReceiver 11 = .ok (.iload_n 2, 1) := by decide +kernel
theorem dX4_endReceiver_12 : decode cX4_endReceiver 12 = .ok (.dup2, 1) := by decide +kernel
theorem dX4_endReceiver_13 : decode cX4_endReceiver 13 = .ok (.iaload, 1) := by decide +kernel
theorem dX4_endReceiver_14 : decode cX4_endReceiver 14 = .ok (.iconst 1, 1) := by decide +kernel
theorem dX4_endReceiver_15 : decode cX4_endReceiver 15 = .ok (.iadd, 1) := by decide +kernel
theorem dX4_endReceiver_16 : decode cX4_endReceiver 16 = .ok (.iastore, 1) := by decide +kernel
theorem dX4_endReceiver_17 : decode cX4_endReceiver 17 = .ok (.return_, 1) := by decide +kernel
set_option maxRecDepth 20000 in
theorem ggX4_answer_X4_make : GoodIn wsX4_answer wsX4_make := goodIn_r _ [14, 15, 16, 17, 18, 19, 20, 21, 6, 28, 29, 30, 31, 32, 33, 34, 35, 36, 37, 38, 39, 40, 41, 42, 43, 44, 45, 46, 47, 48, 49, 50, 51, 52, 53, 54, 55, 56, 57, 58, 59, 60, 61, 62, 63, 64, 65, 66, 67, 68, 69, 70] (by decide +kernel) (by decide +kernel)
set_option maxRecDepth 20000 in
theorem gX4_answer_X4_make : GoodIn wsX4_answer (wsV RX4 141 RX4 yX4_make wsX4_make) := goodIn_app (goodIn_of _ (by decide +kernel)) ggX4_answer_X4_make
set_option maxRecDepth 20000 in
theorem ggX4_answer_X4_endReceiver : GoodIn wsX4_answer wsX4_endReceiver := goodIn_r _ [25, 26, 27, 28, 29, 30, 31, 32, 33, 34, 35, 36, 37, 38, 39, 40, 41, 42, 43, 44, 45, 46, 47, 48, 49, 50, 51, 52, 53, 54, 55, 56, 57, 58, 59, 60, 61, 62, 63, 64, 65, 66, 67, 68, 69, 70] (by decide +kernel) (by decide +kernel)
set_option maxRecDepth 20000 in
theorem gX4_answer_X4_endReceiver : GoodIn wsX4_answer (wsV RX4 162 RX4 yX4_endReceiver wsX4_endReceiver) := goodIn_app (goodIn_of _ (by decide +kernel)) ggX4_answer_X4_endReceiver
theorem dX4_answer_0 : decode cX4_answer 0 = .ok (.aload_n 0, 1) := by decide +kernel
theorem dX4_answer_1 : decode cX4_answer 1 = .ok (.iconst 3, 1) := by decide +kernel
theorem dX4_answer_2 : decode cX4_answer 2 = .ok (.aload_n 0, 1) := by decide +kernel
theorem dX4_answer_3 : decode cX4_answer 3 = .ok (.getfield 53, 3) := by decide +kernel
theorem dX4_answer_6 : decode cX4_answer 6 = .ok (.iload_n 1, 1) := by decide +kernel
theorem dX4_answer_7 : decode cX4_answer 7 = .ok (.iaload, 1) := by decide +kernel
theorem dX4_answer_8 : decode cX4_answer 8 = .ok (.aload_n 0, 1) := by decide +kernel
theorem dX4_answer_9 : decode cX4_answer 9 = .ok (.getfield 153, 3) := by decide +kernel
theorem dX4_answer_12 : decode cX4_answer 12 = .ok (.aload_n 0, 1) := by decide +kernel
theorem dX4_answer_13 : decode cX4_answer 13 = .ok (.getfield 156, 3) := by decide +kernel
theorem dX4_answer_16 : decode cX4_answer 16 = .ok (.aload_n 0, 1) := by decide +kernel
theorem dX4_answer_17 : decode cX4_answer 17 = .ok (.getfield 159, 3) := by decide +kernel
theorem dX4_answer_20 : decode cX4_answer 20 = .ok (.invokevirtual 141, 3) := by decide +kernel
theorem dX4_answer_23 : decode cX4_answer 23 = .ok (.ifCond .ne 11, 3) := by decide +kernel
theorem dX4_answer_26 : decode cX4_answer 26 = .ok (.aload_n 0, 1) := by decide +kernel
theorem dX4_answer_27 : decode cX4_answer 27 = .ok (.iload_n 1, 1) := by decide +kernel
theorem dX4_answer_28 : decode cX4_answer 28 = .ok (.bipush 7, 2) := by decide +kernel
theorem dX4_answer_30 : decode cX4_answer 30 = .ok (.invokevirtual 162, 3) := by decide +kernel
theorem dX4_answer_33 : decode cX4_answer 33 = .ok (.return_, 1) := by decide +kernel
theorem dX4_answer_34 : decode cX4_answer 34 = .ok (.aload_n 0, 1) := by decide +kernel
theorem dX4_answer_35 : decode cX4_answer 35 = .ok (.getfield 71, 3) := by decide +kernel
theorem dX4_answer_38 : decode cX4_answer 38 = .ok (.iload_n 1, 1) := by decide +kernel
theorem dX4_answer_39 : decode cX4_answer 39 = .ok (.aload_n 0, 1) := by decide +kernel
theorem dX4_answer_40 : decode cX4_answer 40 = .ok (.getfield 137, 3) := by decide +kernel
theorem dX4_answer_43 : decode cX4_answer 43 = .ok (.lastore, 1) := by decide +kernel
theorem dX4_answer_44 : decode cX4_answer 44 = .ok (.aload_n 0, 1) := by decide +kernel
theorem dX4_answer_45 : decode cX4_answer 45 = .ok (.getfield 74, 3) := by decide +kernel
theorem dX4_answer_48 : decode cX4_answer 48 = .ok (.iload_n 1, 1) := by decide +kernel
theorem dX4_answer_49 : decode cX4_answer 49 = .ok (.aload_n 0, 1) := by decide +kernel
theorem dX4_answer_50 : decode cX4_answer 50 = .ok (.getfield 153, 3) := by decide +kernel
theorem dX4_answer_53 : decode cX4_answer 53 = .ok (.iconst 1, 1) := by decide +kernel
theorem dX4_answer_54 : decode cX4_answer 54 = .ok (.if_icmp .ne 7, 3) := by decide +kernel
theorem dX4_answer_57 : decode cX4_answer 57 = .ok (.iconst 1, 1) := by decide +kernel
theorem dX4_answer_58 : decode cX4_answer 58 = .ok (.goto 4, 3) := by decide +kernel
theorem dX4_answer_61 : decode cX4_answer 61 = .ok (.iconst 0, 1) := by decide +kernel
theorem dX4_answer_62 : decode cX4_answer 62 = .ok (.bastore, 1) := by decide +kernel
theorem dX4_answer_63 : decode cX4_answer 63 = .ok (.aload_n 0, 1) := by decide +kernel
theorem dX4_answer_64 : decode cX4_answer 64 = .ok (.getfield 153, 3) := by decide +kernel
theorem dX4_answer_67 : decode cX4_answer 67 = .ok (.ifCond .ne 23, 3) := by decide +kernel
theorem dX4_answer_70 : decode cX4_answer 70 = .ok (.aload_n 0, 1) := by decide +kernel
theorem dX4_answer_71 : decode cX4_answer 71 = .ok (.getfield 65, 3) := by decide +kernel
theorem dX4_answer_74 : decode cX4_answer 74 = .ok (.iload_n 1, 1) := by decide +kernel
theorem dX4_answer_75 : decode cX4_answer 75 = .ok (.aload_n 0, 1) := by decide +kernel
theorem dX4_answer_76 : decode cX4_answer 76 = .ok (.getfield 156, 3) := by decide +kernel
theorem dX4_answer_79 : decode cX4_answer 79 = .ok (.iastore, 1) := by decide +kernel
theorem dX4_answer_80 : decode cX4_answer 80 = .ok (.aload_n 0, 1) := by decide +kernel
theorem dX4_answer_81 : decode cX4_answer 81 = .ok (.getfield 68, 3) := by decide +kernel
theorem dX4_answer_84 : decode cX4_answer 84 = .ok (.iload_n 1, 1) := by decide +kernel
theorem dX4_answer_85 : decode cX4_answer 85 = .ok (.aload_n 0, 1) := by decide +kernel
theorem dX4_answer_86 : decode cX4_answer 86 = .ok (.getfield 156, 3) := by decide +kernel
theorem dX4_answer_89 : decode cX4_answer 89 = .ok (.iastore, 1) := by decide +kernel
theorem dX4_answer_90 : decode cX4_answer 90 = .ok (.aload_n 0, 1) := by decide +kernel
theorem dX4_answer_91 : decode cX4_answer 91 = .ok (.getfield 153, 3) := by decide +kernel
theorem dX4_answer_94 : decode cX4_answer 94 = .ok (.iconst 2, 1) := by decide +kernel
theorem dX4_answer_95 : decode cX4_answer 95 = .ok (.if_icmp .ne 9, 3) := by decide +kernel
theorem dX4_answer_98 : decode cX4_answer 98 = .ok (.aload_n 0, 1) := by decide +kernel
theorem dX4_answer_99 : decode cX4_answer 99 = .ok (.iload_n 1, 1) := by decide +kernel
theorem dX4_answer_100 : decode cX4_answer 100 = .ok (.iconst 4, 1) := by decide +kernel
theorem dX4_answer_101 : decode cX4_answer 101 = .ok (.invokevirtual 162, 3) := by decide +kernel
theorem dX4_answer_104 : decode cX4_answer 104 = .ok (.return_, 1) := by decide +kernel
theorem dX4_put_0 : decode cX4_put 0 = .ok (.iconst 0, 1) := by decide +kernel
theorem dX4_put_1 : decode cX4_put 1 = .ok (.istore_n 3, 1) := by decide +kernel
theorem dX4_put_2 : decode cX4_put 2 = .ok (.iload_n 3, 1) := by decide +kernel
theorem dX4_put_3 : decode cX4_put 3 = .ok (.aload_n 0, 1) := by decide +kernel
theorem dX4_put_4 : decode cX4_put 4 = .ok (.getfield 90, 3) := by decide +kernel
theorem dX4_put_7 : decode cX4_put 7 = .ok (.iload_n 2, 1) := by decide +kernel
theorem dX4_put_8 : decode cX4_put 8 = .ok (.iaload, 1) := by decide +kernel
theorem dX4_put_9 : decode cX4_put 9 = .ok (.if_icmp .ge 47, 3) := by decide +kernel
theorem dX4_put_12 : decode cX4_put 12 = .ok (.aload_n 0, 1) := by decide +kernel
theorem dX4_put_13 : decode cX4_put 13 = .ok (.getfield 78, 3) := by decide +kernel
theorem dX4_put_16 : decode cX4_put 16 = .ok (.sipush 10000, 3) := by decide +kernel
theorem dX4_put_19 : decode cX4_put 19 = .ok (.iload_n 1, 1) := by decide +kernel
theorem dX4_put_20 : decode cX4_put 20 = .ok (.imul, 1) := by decide +kernel
theorem dX4_put_21 : decode cX4_put 21 = .ok (.aload_n 0, 1) := by decide +kernel
theorem dX4_put_22 : decode cX4_put 22 = .ok (.getfield 59, 3) := by decide +kernel
theorem dX4_put_25 : decode cX4_put 25 = .ok (.iload_n 1, 1) := by decide +kernel
theorem dX4_put_26 : decode cX4_put 26 = .ok (.iaload, 1) := by decide +kernel
theorem dX4_put_27 : decode cX4_put 27 = .ok (.iadd, 1) := by decide +kernel
theorem dX4_put_28 : decode cX4_put 28 = .ok (.aload_n 0, 1) := by decide +kernel
theorem dX4_put_29 : decode cX4_put 29 = .ok (.getfield 103, 3) := by decide +kernel
theorem dX4_put_32 : decode cX4_put 32 = .ok (.bipush 7, 2) := by decide +kernel
theorem dX4_put_34 : decode cX4_put 34 = .ok (.iload_n 2, 1) := by decide +kernel
theorem dX4_put_35 : decode cX4_put 35 = .ok (.imul, 1) := by decide +kernel
theorem dX4_put_36 : decode cX4_put 36 = .ok (.iload_n 3, 1) := by decide +kernel
theorem dX4_put_37 : decode cX4_put 37 = .ok (.iadd, 1) := by decide +kernel
theorem dX4_put_38 : decode cX4_put 38 = .ok (.baload, 1) := by decide +kernel
theorem dX4_put_39 : decode cX4_put 39 = .ok (.bastore, 1) := by decide +kernel
theorem dX4_put_40 : decode cX4_put 40 = .ok (.aload_n 0, 1) := by decide +kernel
theorem dX4_put_41 : decode cX4_put 41 = .ok (.getfield 59, 3) := by decide +kernel
theorem dX4_put_44 : decode cX4_put 44 = .ok (.iload_n 1, 1) := by decide +kernel
theorem dX4_put_45 : decode cX4_put 45 = .ok (.dup2, 1) := by decide +kernel
theorem dX4_put_46 : decode cX4_put 46 = .ok (.iaload, 1) := by decide +kernel
theorem dX4_put_47 : decode cX4_put 47 = .ok (.iconst 1, 1) := by decide +kernel
theorem dX4_put_48 : decode cX4_put 48 = .ok (.iadd, 1) := by decide +kernel
theorem dX4_put_49 : decode cX4_put 49 = .ok (.iastore, 1) := by decide +kernel
theorem dX4_put_50 : decode cX4_put 50 = .ok (.iinc 3 1, 3) := by decide +kernel
theorem dX4_put_53 : decode cX4_put 53 = .ok (.goto (-51), 3) := by decide +kernel
theorem dX4_put_56 : decode cX4_put 56 = .ok (.return_, 1) := by decide +kernel
theorem dX4_whole_0 : decode cX4_whole 0 = .ok (.aload_n 0, 1) := by decide +kernel
theorem dX4_whole_1 : decode cX4_whole 1 = .ok (.getfield 50, 3) := by decide +kernel
theorem dX4_whole_4 : decode cX4_whole 4 = .ok (.iload_n 1, 1) := by decide +kernel
theorem dX4_whole_5 : decode cX4_whole 5 = .ok (.iconst 2, 1) := by decide +kernel
theorem dX4_whole_6 : decode cX4_whole 6 = .ok (.iastore, 1) := by decide +kernel
theorem dX4_whole_7 : decode cX4_whole 7 = .ok (.aload_n 0, 1) := by decide +kernel
theorem dX4_whole_8 : decode cX4_whole 8 = .ok (.getfield 113, 3) := by decide +kernel
theorem dX4_whole_11 : decode cX4_whole 11 = .ok (.iconst 0, 1) := by decide +kernel
theorem dX4_whole_12 : decode cX4_whole 12 = .ok (.dup2, 1) := by decide +kernel
theorem dX4_whole_13 : decode cX4_whole 13 = .ok (.iaload, 1) := by decide +kernel
theorem dX4_whole_14 : decode cX4_whole 14 = .ok (.iconst 1, 1) := by decide +kernel
theorem dX4_whole_15 : decode cX4_whole 15 = .ok (.iadd, 1) := by decide +kernel
theorem dX4_whole_16 : decode cX4_whole 16 = .ok (.iastore, 1) := by decide +kernel
theorem dX4_whole_17 : decode cX4_whole 17 = .ok (.aload_n 0, 1) := by decide +kernel
theorem dX4_whole_18 : decode cX4_whole 18 = .ok (.aload_n 0, 1) := by decide +kernel
theorem dX4_whole_19 : decode cX4_whole 19 = .ok (.getfield 56, 3) := by decide +kernel
theorem dX4_whole_22 : decode cX4_whole 22 = .ok (.iload_n 1, 1) := by decide +kernel
theorem dX4_whole_23 : decode cX4_whole 23 = .ok (.iaload, 1) := by decide +kernel
theorem dX4_whole_24 : decode cX4_whole 24 = .ok (.putfield 165, 3) := by decide +kernel
theorem dX4_whole_27 : decode cX4_whole 27 = .ok (.iconst 0, 1) := by decide +kernel
theorem dX4_whole_28 : decode cX4_whole 28 = .ok (.istore_n 2, 1) := by decide +kernel
theorem dX4_whole_29 : decode cX4_whole 29 = .ok (.iload_n 2, 1) := by decide +kernel
theorem dX4_whole_30 : decode cX4_whole 30 = .ok (.aload_n 0, 1) := by decide +kernel
theorem dX4_whole_31 : decode cX4_whole 31 = .ok (.getfield 165, 3) := by decide +kernel
theorem dX4_whole_34 : decode cX4_whole 34 = .ok (.if_icmp .ge 27, 3) := by decide +kernel
theorem dX4_whole_37 : decode cX4_whole 37 = .ok (.aload_n 0, 1) := by decide +kernel
theorem dX4_whole_38 : decode cX4_whole 38 = .ok (.getfield 110, 3) := by decide +kernel
theorem dX4_whole_41 : decode cX4_whole 41 = .ok (.iload_n 2, 1) := by decide +kernel
theorem dX4_whole_42 : decode cX4_whole 42 = .ok (.aload_n 0, 1) := by decide +kernel
theorem dX4_whole_43 : decode cX4_whole 43 = .ok (.getfield 78, 3) := by decide +kernel
theorem dX4_whole_46 : decode cX4_whole 46 = .ok (.sipush 10000, 3) := by decide +kernel
theorem dX4_whole_49 : decode cX4_whole 49 = .ok (.iload_n 1, 1) := by decide +kernel
theorem dX4_whole_50 : decode cX4_whole 50 = .ok (.imul, 1) := by decide +kernel
theorem dX4_whole_51 : decode cX4_whole 51 = .ok (.iload_n 2, 1) := by decide +kernel
theorem dX4_whole_52 : decode cX4_whole 52 = .ok (.iadd, 1) := by decide +kernel
theorem dX4_whole_53 : decode cX4_whole 53 = .ok (.baload, 1) := by decide +kernel
theorem dX4_whole_54 : decode cX4_whole 54 = .ok (.bastore, 1) := by decide +kernel
theorem dX4_whole_55 : decode cX4_whole 55 = .ok (.iinc 2 1, 3) := by decide +kernel
theorem dX4_whole_58 : decode cX4_whole 58 = .ok (.goto (-29), 3) := by decide +kernel
theorem dX4_whole_61 : decode cX4_whole 61 = .ok (.return_, 1) := by decide +kernel
set_option maxRecDepth 20000 in
theorem ggX4_take_X4_takeNext : GoodIn wsX4_take wsX4_takeNext := goodIn_r _ [16, 9, 11, 17, 18, 19, 5, 7, 20, 6, 21, 22, 23, 15, 24, 3, 25, 26, 27, 28, 29, 8, 30, 31, 32, 33, 34, 35, 36, 37, 38, 39, 40, 41, 4, 42, 43, 44, 45, 46, 47, 48, 49, 2, 1, 50, 51, 52, 53, 54, 55, 56, 57, 58, 59, 60, 61, 62, 63, 64, 65, 66, 67, 68, 69, 70, 71, 72, 73, 74, 75, 76, 77, 78, 79, 80, 81, 82, 83, 84, 85, 86, 87, 88, 89, 90, 91, 92, 93, 94] (by decide +kernel) (by decide +kernel)
set_option maxRecDepth 20000 in
theorem gX4_take_X4_takeNext : GoodIn wsX4_take (wsV RX4 168 RX4 yX4_takeNext wsX4_takeNext) := goodIn_app (goodIn_of _ (by decide +kernel)) ggX4_take_X4_takeNext
set_option maxRecDepth 20000 in
theorem ggX4_take_X4_endReceiver : GoodIn wsX4_take wsX4_endReceiver := goodIn_r _ [24, 3, 25, 52, 53, 54, 55, 56, 57, 58, 59, 60, 61, 62, 63, 64, 65, 66, 67, 68, 69, 70, 71, 72, 73, 74, 75, 76, 77, 78, 79, 80, 81, 82, 83, 84, 85, 86, 87, 88, 89, 90, 91, 92, 93, 94] (by decide +kernel) (by decide +kernel)
set_option maxRecDepth 20000 in
theorem gX4_take_X4_endReceiver : GoodIn wsX4_take (wsV RX4 162 RX4 yX4_endReceiver wsX4_endReceiver) := goodIn_app (goodIn_of _ (by decide +kernel)) ggX4_take_X4_endReceiver
set_option maxRecDepth 20000 in
theorem ggX4_take_X4_put : GoodIn wsX4_take wsX4_put := goodIn_r _ [29, 8, 30, 5, 31, 52, 53, 54, 55, 56, 57, 58, 59, 60, 61, 62, 63, 64, 65, 66, 67, 68, 69, 70, 71, 72, 73, 74, 75, 76, 77, 78, 79, 80, 81, 82, 83, 84, 85, 86, 87, 88, 89, 90, 91, 92, 93, 94] (by decide +kernel) (by decide +kernel)
set_option maxRecDepth 20000 in
theorem gX4_take_X4_put : GoodIn wsX4_take (wsV RX4 171 RX4 yX4_put wsX4_put) := goodIn_app (goodIn_of _ (by decide +kernel)) ggX4_take_X4_put
set_option maxRecDepth 20000 in
theorem ggX4_take_X4_whole : GoodIn wsX4_take wsX4_whole := goodIn_r _ [35, 3, 25, 7, 36, 37, 30, 52, 53, 54, 55, 56, 57, 58, 59, 60, 61, 62, 63, 64, 65, 66, 67, 68, 69, 70, 71, 72, 73, 74, 75, 76, 77, 78, 79, 80, 81, 82, 83, 84, 85, 86, 87, 88, 89, 90, 91, 92, 93, 94] (by decide +kernel) (by decide +kernel)
set_option maxRecDepth 20000 in
theorem gX4_take_X4_whole : GoodIn wsX4_take (wsV RX4 174 RX4 yX4_whole wsX4_whole) := goodIn_app (goodIn_of _ (by decide +kernel)) ggX4_take_X4_whole
set_option maxRecDepth 20000 in
theorem ggX4_take_X4_make : GoodIn wsX4_take wsX4_make := goodIn_r _ [48, 49, 2, 1, 9, 8, 50, 51, 18, 52, 53, 54, 55, 56, 57, 58, 59, 60, 61, 62, 63, 64, 65, 66, 67, 68, 69, 70, 71, 72, 73, 74, 75, 76, 77, 78, 79, 80, 81, 82, 83, 84, 85, 86, 87, 88, 89, 90, 91, 92, 93, 94] (by decide +kernel) (by decide +kernel)
set_option maxRecDepth 20000 in
theorem gX4_take_X4_make : GoodIn wsX4_take (wsV RX4 141 RX4 yX4_make wsX4_make) := goodIn_app (goodIn_of _ (by decide +kernel)) ggX4_take_X4_make
set_option maxRecDepth 20000 in
theorem ggX4_take_X4_answer : GoodIn wsX4_take wsX4_answer := goodIn_r _ [41, 4, 42, 43, 44, 17, 18, 19, 6, 20, 45, 46, 47, 15, 48, 49, 2, 1, 9, 8, 50, 51, 21, 22, 23, 24, 3, 25, 52, 53, 54, 55, 56, 57, 58, 59, 60, 61, 62, 63, 64, 65, 66, 67, 68, 69, 70, 71, 72, 73, 74, 75, 76, 77, 78, 79, 80, 81, 82, 83, 84, 85, 86, 87, 88, 89, 90, 91, 92, 93, 94] (by decide +kernel) (by decide +kernel)
set_option maxRecDepth 20000 in
theorem gX4_take_X4_answer : GoodIn wsX4_take (wsV RX4 178 RX4 yX4_answer wsX4_answer) := goodIn_app (goodIn_of _ (by decide +kernel)) ggX4_take_X4_answer
theorem dX4_take_0 : decode cX4_take 0 = .ok (.aload_n 0, 1) := by decide +kernel
theorem dX4_take_1 : decode cX4_take 1 = .ok (.getfield 84, 3) := by decide +kernel
theorem dX4_take_4 : decode cX4_take 4 = .ok (.iload_n 1, 1) := by decide +kernel
theorem dX4_take_5 : decode cX4_take 5 = .ok (.iaload, 1) := by decide +kernel
theorem dX4_take_6 : decode cX4_take 6 = .ok (.iconst 4, 1) := by decide +kernel
theorem dX4_take_7 : decode cX4_take 7 = .ok (.irem, 1) := by decide +kernel
theorem dX4_take_8 : decode cX4_take 8 = .ok (.istore_n 2, 1) := by decide +kernel
theorem dX4_take_9 : decode cX4_take 9 = .ok (.aload_n 0, 1) := by decide +kernel
theorem dX4_take_10 : decode cX4_take 10 = .ok (.getfield 81, 3) := by decide +kernel
theorem dX4_take_13 : decode cX4_take 13 = .ok (.iload_n 1, 1) := by decide +kernel
theorem dX4_take_14 : decode cX4_take 14 = .ok (.iaload, 1) := by decide +kernel
theorem dX4_take_15 : decode cX4_take 15 = .ok (.iconst 2, 1) := by decide +kernel
theorem dX4_take_16 : decode cX4_take 16 = .ok (.if_icmp .ne 41, 3) := by decide +kernel
theorem dX4_take_19 : decode cX4_take 19 = .ok (.aload_n 0, 1) := by decide +kernel
theorem dX4_take_20 : decode cX4_take 20 = .ok (.getfield 50, 3) := by decide +kernel
theorem dX4_take_23 : decode cX4_take 23 = .ok (.iload_n 2, 1) := by decide +kernel
theorem dX4_take_24 : decode cX4_take 24 = .ok (.iaload, 1) := by decide +kernel
theorem dX4_take_25 : decode cX4_take 25 = .ok (.iconst 1, 1) := by decide +kernel
theorem dX4_take_26 : decode cX4_take 26 = .ok (.if_icmp .ne 24, 3) := by decide +kernel
theorem dX4_take_29 : decode cX4_take 29 = .ok (.aload_n 0, 1) := by decide +kernel
theorem dX4_take_30 : decode cX4_take 30 = .ok (.getfield 53, 3) := by decide +kernel
theorem dX4_take_33 : decode cX4_take 33 = .ok (.iload_n 2, 1) := by decide +kernel
theorem dX4_take_34 : decode cX4_take 34 = .ok (.iaload, 1) := by decide +kernel
theorem dX4_take_35 : decode cX4_take 35 = .ok (.aload_n 0, 1) := by decide +kernel
theorem dX4_take_36 : decode cX4_take 36 = .ok (.getfield 84, 3) := by decide +kernel
theorem dX4_take_39 : decode cX4_take 39 = .ok (.iload_n 1, 1) := by decide +kernel
theorem dX4_take_40 : decode cX4_take 40 = .ok (.iaload, 1) := by decide +kernel
theorem dX4_take_41 : decode cX4_take 41 = .ok (.if_icmp .ne 9, 3) := by decide +kernel
theorem dX4_take_44 : decode cX4_take 44 = .ok (.aload_n 0, 1) := by decide +kernel
theorem dX4_take_45 : decode cX4_take 45 = .ok (.iload_n 2, 1) := by decide +kernel
theorem dX4_take_46 : decode cX4_take 46 = .ok (.iload_n 1, 1) := by decide +kernel
theorem dX4_take_47 : decode cX4_take 47 = .ok (.invokevirtual 168, 3) := by decide +kernel
theorem dX4_take_50 : decode cX4_take 50 = .ok (.aload_n 0, 1) := by decide +kernel
theorem dX4_take_51 : decode cX4_take 51 = .ok (.getfield 50, 3) := by decide +kernel
theorem dX4_take_54 : decode cX4_take 54 = .ok (.iload_n 2, 1) := by decide +kernel
theorem dX4_take_55 : decode cX4_take 55 = .ok (.iaload, 1) := by decide +kernel
theorem dX4_take_56 : decode cX4_take 56 = .ok (.ireturn, 1) := by decide +kernel
theorem dX4_take_57 : decode cX4_take 57 = .ok (.aload_n 0, 1) := by decide +kernel
theorem dX4_take_58 : decode cX4_take 58 = .ok (.getfield 50, 3) := by decide +kernel
theorem dX4_take_61 : decode cX4_take 61 = .ok (.iload_n 2, 1) := by decide +kernel
theorem dX4_take_62 : decode cX4_take 62 = .ok (.iaload, 1) := by decide +kernel
theorem dX4_take_63 : decode cX4_take 63 = .ok (.iconst 1, 1) := by decide +kernel
theorem dX4_take_64 : decode cX4_take 64 = .ok (.if_icmp .ne 10, 3) := by decide +kernel
theorem dX4_take_67 : decode cX4_take 67 = .ok (.aload_n 0, 1) := by decide +kernel
theorem dX4_take_68 : decode cX4_take 68 = .ok (.iload_n 2, 1) := by decide +kernel
theorem dX4_take_69 : decode cX4_take 69 = .ok (.bipush 6, 2) := by decide +kernel
theorem dX4_take_71 : decode cX4_take 71 = .ok (.invokevirtual 162, 3) := by decide +kernel
theorem dX4_take_74 : decode cX4_take 74 = .ok (.aload_n 0, 1) := by decide +kernel
theorem dX4_take_75 : decode cX4_take 75 = .ok (.getfield 53, 3) := by decide +kernel
theorem dX4_take_78 : decode cX4_take 78 = .ok (.iload_n 2, 1) := by decide +kernel
theorem dX4_take_79 : decode cX4_take 79 = .ok (.aload_n 0, 1) := by decide +kernel
theorem dX4_take_80 : decode cX4_take 80 = .ok (.getfield 84, 3) := by decide +kernel
theorem dX4_take_83 : decode cX4_take 83 = .ok (.iload_n 1, 1) := by decide +kernel
theorem dX4_take_84 : decode cX4_take 84 = .ok (.iaload, 1) := by decide +kernel
theorem dX4_take_85 : decode cX4_take 85 = .ok (.iastore, 1) := by decide +kernel
theorem dX4_take_86 : decode cX4_take 86 = .ok (.aload_n 0, 1) := by decide +kernel
theorem dX4_take_87 : decode cX4_take 87 = .ok (.getfield 59, 3) := by decide +kernel
theorem dX4_take_90 : decode cX4_take 90 = .ok (.iload_n 2, 1) := by decide +kernel
theorem dX4_take_91 : decode cX4_take 91 = .ok (.iconst 0, 1) := by decide +kernel
theorem dX4_take_92 : decode cX4_take 92 = .ok (.iastore, 1) := by decide +kernel
theorem dX4_take_93 : decode cX4_take 93 = .ok (.aload_n 0, 1) := by decide +kernel
theorem dX4_take_94 : decode cX4_take 94 = .ok (.getfield 65, 3) := by decide +kernel
theorem dX4_take_97 : decode cX4_take 97 = .ok (.iload_n 2, 1) := by decide +kernel
theorem dX4_take_98 : decode cX4_take 98 = .ok (.iconst 0, 1) := by decide +kernel
theorem dX4_take_99 : decode cX4_take 99 = .ok (.iastore, 1) := by decide +kernel
theorem dX4_take_100 : decode cX4_take 100 = .ok (.aload_n 0, 1) := by decide +kernel
theorem dX4_take_101 : decode cX4_take 101 = .ok (.getfield 56, 3) := by decide +kernel
theorem dX4_take_104 : decode cX4_take 104 = .ok (.iload_n 2, 1) := by decide +kernel
theorem dX4_take_105 : decode cX4_take 105 = .ok (.aload_n 0, 1) := by decide +kernel
theorem dX4_take_106 : decode cX4_take 106 = .ok (.getfield 81, 3) := by decide +kernel
theorem dX4_take_109 : decode cX4_take 109 = .ok (.iload_n 1, 1) := by decide +kernel
theorem dX4_take_110 : decode cX4_take 110 = .ok (.iaload, 1) := by decide +kernel
theorem dX4_take_111 : decode cX4_take 111 = .ok (.ifCond .ne 12, 3) := by decide +kernel
theorem dX4_take_114 : decode cX4_take 114 = .ok (.aload_n 0, 1) := by decide +kernel
theorem dX4_take_115 : decode cX4_take 115 = .ok (.getfield 90, 3) := by decide +kernel
theorem dX4_take_118 : decode cX4_take 118 = .ok (.iload_n 1, 1) := by decide +kernel
theorem dX4_take_119 : decode cX4_take 119 = .ok (.iaload, 1) := by decide +kernel
theorem dX4_take_120 : decode cX4_take 120 = .ok (.goto 9, 3) := by decide +kernel
theorem dX4_take_123 : decode cX4_take 123 = .ok (.aload_n 0, 1) := by decide +kernel
theorem dX4_take_124 : decode cX4_take 124 = .ok (.getfield 87, 3) := by decide +kernel
theorem dX4_take_127 : decode cX4_take 127 = .ok (.iload_n 1, 1) := by decide +kernel
theorem dX4_take_128 : decode cX4_take 128 = .ok (.iaload, 1) := by decide +kernel
theorem dX4_take_129 : decode cX4_take 129 = .ok (.iastore, 1) := by decide +kernel
theorem dX4_take_130 : decode cX4_take 130 = .ok (.aload_n 0, 1) := by decide +kernel
theorem dX4_take_131 : decode cX4_take 131 = .ok (.getfield 81, 3) := by decide +kernel
theorem dX4_take_134 : decode cX4_take 134 = .ok (.iload_n 1, 1) := by decide +kernel
theorem dX4_take_135 : decode cX4_take 135 = .ok (.iaload, 1) := by decide +kernel
theorem dX4_take_136 : decode cX4_take 136 = .ok (.ifCond .ne 17, 3) := by decide +kernel
theorem dX4_take_139 : decode cX4_take 139 = .ok (.aload_n 0, 1) := by decide +kernel
theorem dX4_take_140 : decode cX4_take 140 = .ok (.iload_n 2, 1) := by decide +kernel
theorem dX4_take_141 : decode cX4_take 141 = .ok (.iload_n 1, 1) := by decide +kernel
theorem dX4_take_142 : decode cX4_take 142 = .ok (.invokevirtual 171, 3) := by decide +kernel
theorem dX4_take_145 : decode cX4_take 145 = .ok (.aload_n 0, 1) := by decide +kernel
theorem dX4_take_146 : decode cX4_take 146 = .ok (.iload_n 2, 1) := by decide +kernel
theorem dX4_take_147 : decode cX4_take 147 = .ok (.invokevirtual 174, 3) := by decide +kernel
theorem dX4_take_150 : decode cX4_take 150 = .ok (.goto 72, 3) := by decide +kernel
theorem dX4_take_153 : decode cX4_take 153 = .ok (.aload_n 0, 1) := by decide +kernel
theorem dX4_take_154 : decode cX4_take 154 = .ok (.getfield 87, 3) := by decide +kernel
theorem dX4_take_157 : decode cX4_take 157 = .ok (.iload_n 1, 1) := by decide +kernel
theorem dX4_take_158 : decode cX4_take 158 = .ok (.iaload, 1) := by decide +kernel
theorem dX4_take_159 : decode cX4_take 159 = .ok (.aload_n 0, 1) := by decide +kernel
theorem dX4_take_160 : decode cX4_take 160 = .ok (.getfield 117, 3) := by decide +kernel
theorem dX4_take_163 : decode cX4_take 163 = .ok (.if_icmp .le 34, 3) := by decide +kernel
theorem dX4_take_166 : decode cX4_take 166 = .ok (.aload_n 0, 1) := by decide +kernel
theorem dX4_take_167 : decode cX4_take 167 = .ok (.iload_n 2, 1) := by decide +kernel
theorem dX4_take_168 : decode cX4_take 168 = .ok (.aload_n 0, 1) := by decide +kernel
theorem dX4_take_169 : decode cX4_take 169 = .ok (.iconst 3, 1) := by decide +kernel
theorem dX4_take_170 : decode cX4_take 170 = .ok (.aload_n 0, 1) := by decide +kernel
theorem dX4_take_171 : decode cX4_take 171 = .ok (.getfield 84, 3) := by decide +kernel
theorem dX4_take_174 : decode cX4_take 174 = .ok (.iload_n 1, 1) := by decide +kernel
theorem dX4_take_175 : decode cX4_take 175 = .ok (.iaload, 1) := by decide +kernel
theorem dX4_take_176 : decode cX4_take 176 = .ok (.iconst 2, 1) := by decide +kernel
theorem dX4_take_177 : decode cX4_take 177 = .ok (.iconst 0, 1) := by decide +kernel
theorem dX4_take_178 : decode cX4_take 178 = .ok (.iconst 0, 1) := by decide +kernel
theorem dX4_take_179 : decode cX4_take 179 = .ok (.invokevirtual 141, 3) := by decide +kernel
theorem dX4_take_182 : decode cX4_take 182 = .ok (.ifCond .le 7, 3) := by decide +kernel
theorem dX4_take_185 : decode cX4_take 185 = .ok (.iconst 4, 1) := by decide +kernel
theorem dX4_take_186 : decode cX4_take 186 = .ok (.goto 5, 3) := by decide +kernel
theorem dX4_take_189 : decode cX4_take 189 = .ok (.bipush 7, 2) := by decide +kernel
theorem dX4_take_191 : decode cX4_take 191 = .ok (.invokevirtual 162, 3) := by decide +kernel
theorem dX4_take_194 : decode cX4_take 194 = .ok (.goto 28, 3) := by decide +kernel
theorem dX4_take_197 : decode cX4_take 197 = .ok (.aload_n 0, 1) := by decide +kernel
theorem dX4_take_198 : decode cX4_take 198 = .ok (.getfield 50, 3) := by decide +kernel
theorem dX4_take_201 : decode cX4_take 201 = .ok (.iload_n 2, 1) := by decide +kernel
theorem dX4_take_202 : decode cX4_take 202 = .ok (.iconst 1, 1) := by decide +kernel
theorem dX4_take_203 : decode cX4_take 203 = .ok (.iastore, 1) := by decide +kernel
theorem dX4_take_204 : decode cX4_take 204 = .ok (.aload_n 0, 1) := by decide +kernel
theorem dX4_take_205 : decode cX4_take 205 = .ok (.getfield 62, 3) := by decide +kernel
theorem dX4_take_208 : decode cX4_take 208 = .ok (.iload_n 2, 1) := by decide +kernel
theorem dX4_take_209 : decode cX4_take 209 = .ok (.iconst 1, 1) := by decide +kernel
theorem dX4_take_210 : decode cX4_take 210 = .ok (.iastore, 1) := by decide +kernel
theorem dX4_take_211 : decode cX4_take 211 = .ok (.aload_n 0, 1) := by decide +kernel
theorem dX4_take_212 : decode cX4_take 212 = .ok (.iload_n 2, 1) := by decide +kernel
theorem dX4_take_213 : decode cX4_take 213 = .ok (.iload_n 1, 1) := by decide +kernel
theorem dX4_take_214 : decode cX4_take 214 = .ok (.invokevirtual 171, 3) := by decide +kernel
theorem dX4_take_217 : decode cX4_take 217 = .ok (.aload_n 0, 1) := by decide +kernel
theorem dX4_take_218 : decode cX4_take 218 = .ok (.iload_n 2, 1) := by decide +kernel
theorem dX4_take_219 : decode cX4_take 219 = .ok (.invokevirtual 178, 3) := by decide +kernel
theorem dX4_take_222 : decode cX4_take 222 = .ok (.aload_n 0, 1) := by decide +kernel
theorem dX4_take_223 : decode cX4_take 223 = .ok (.getfield 50, 3) := by decide +kernel
theorem dX4_take_226 : decode cX4_take 226 = .ok (.iload_n 2, 1) := by decide +kernel
theorem dX4_take_227 : decode cX4_take 227 = .ok (.iaload, 1) := by decide +kernel
theorem dX4_take_228 : decode cX4_take 228 = .ok (.ireturn, 1) := by decide +kernel
set_option maxRecDepth 20000 in
theorem ggX4_takeNext_X4_endReceiver : GoodIn wsX4_takeNext wsX4_endReceiver := goodIn_r _ [14, 15, 16, 47, 48, 49, 50, 51, 52, 53, 54, 55, 56, 57, 58, 59, 60, 61, 62, 63, 64, 65, 66, 67, 68, 69, 70, 71, 72, 73, 74, 75, 76, 77, 78, 79, 80, 81, 82, 83, 84, 85, 86, 87, 88, 89] (by decide +kernel) (by decide +kernel)
set_option maxRecDepth 20000 in
theorem gX4_takeNext_X4_endReceiver : GoodIn wsX4_takeNext (wsV RX4 162 RX4 yX4_endReceiver wsX4_endReceiver) := goodIn_app (goodIn_of _ (by decide +kernel)) ggX4_takeNext_X4_endReceiver
set_option maxRecDepth 20000 in
theorem ggX4_takeNext_X4_put : GoodIn wsX4_takeNext wsX4_put := goodIn_r _ [20, 21, 22, 6, 23, 47, 48, 49, 50, 51, 52, 53, 54, 55, 56, 57, 58, 59, 60, 61, 62, 63, 64, 65, 66, 67, 68, 69, 70, 71, 72, 73, 74, 75, 76, 77, 78, 79, 80, 81, 82, 83, 84, 85, 86, 87, 88, 89] (by decide +kernel) (by decide +kernel)
set_option maxRecDepth 20000 in
theorem gX4_takeNext_X4_put : GoodIn wsX4_takeNext (wsV RX4 171 RX4 yX4_put wsX4_put) := goodIn_app (goodIn_of _ (by decide +kernel)) ggX4_takeNext_X4_put
set_option maxRecDepth 20000 in
theorem ggX4_takeNext_X4_whole : GoodIn wsX4_takeNext wsX4_whole := goodIn_r _ [27, 15, 16, 7, 28, 29, 22, 47, 48, 49, 50, 51, 52, 53, 54, 55, 56, 57, 58, 59, 60, 61, 62, 63, 64, 65, 66, 67, 68, 69, 70, 71, 72, 73, 74, 75, 76, 77, 78, 79, 80, 81, 82, 83, 84, 85, 86, 87, 88, 89] (by decide +kernel) (by decide +kernel)
set_option maxRecDepth 20000 in
theorem gX4_takeNext_X4_whole : GoodIn wsX4_takeNext (wsV RX4 174 RX4 yX4_whole wsX4_whole) := goodIn_app (goodIn_of _ (by decide +kernel)) ggX4_takeNext_X4_whole
set_option maxRecDepth 20000 in
theorem ggX4_takeNext_X4_answer : GoodIn wsX4_takeNext wsX4_answer := goodIn_r _ [33, 34, 35, 36, 37, 3, 4, 5, 9, 8, 38, 39, 40, 13, 41, 42, 43, 44, 1, 21, 45, 46, 10, 11, 12, 14, 15, 16, 47, 48, 49, 50, 51, 52, 53, 54, 55, 56, 57, 58, 59, 60, 61, 62, 63, 64, 65, 66, 67, 68, 69, 70, 71, 72, 73, 74, 75, 76, 77, 78, 79, 80, 81, 82, 83, 84, 85, 86, 87, 88, 89] (by decide +kernel) (by decide +kernel)
set_option maxRecDepth 20000 in
theorem gX4_takeNext_X4_answer : GoodIn wsX4_takeNext (wsV RX4 178 RX4 yX4_answer wsX4_answer) := goodIn_app (goodIn_of _ (by decide +kernel)) ggX4_takeNext_X4_answer
theorem dX4_takeNext_0 : decode cX4_takeNext 0 = .ok (.aload_n 0, 1) := by decide +kernel
theorem dX4_takeNext_1 : decode cX4_takeNext 1 = .ok (.getfield 87, 3) := by decide +kernel
theorem dX4_takeNext_4 : decode cX4_takeNext 4 = .ok (.iload_n 2, 1) := by decide +kernel
theorem dX4_takeNext_5 : decode cX4_takeNext 5 = .ok (.iaload, 1) := by decide +kernel
theorem dX4_takeNext_6 : decode cX4_takeNext 6 = .ok (.aload_n 0, 1) := by decide +kernel
theorem dX4_takeNext_7 : decode cX4_takeNext 7 = .ok (.getfield 62, 3) := by decide +kernel
theorem dX4_takeNext_10 : decode cX4_takeNext 10 = .ok (.iload_n 1, 1) := by decide +kernel
theorem dX4_takeNext_11 : decode cX4_takeNext 11 = .ok (.iaload, 1) := by decide +kernel
theorem dX4_takeNext_12 : decode cX4_takeNext 12 = .ok (.if_icmp .eq 10, 3) := by decide +kernel
theorem dX4_takeNext_15 : decode cX4_takeNext 15 = .ok (.aload_n 0, 1) := by decide +kernel
theorem dX4_takeNext_16 : decode cX4_takeNext 16 = .ok (.iload_n 1, 1) := by decide +kernel
theorem dX4_takeNext_17 : decode cX4_takeNext 17 = .ok (.iconst 3, 1) := by decide +kernel
theorem dX4_takeNext_18 : decode cX4_takeNext 18 = .ok (.invokevirtual 162, 3) := by decide +kernel
theorem dX4_takeNext_21 : decode cX4_takeNext 21 = .ok (.return_, 1) := by decide +kernel
theorem dX4_takeNext_22 : decode cX4_takeNext 22 = .ok (.aload_n 0, 1) := by decide +kernel
theorem dX4_takeNext_23 : decode cX4_takeNext 23 = .ok (.getfield 62, 3) := by decide +kernel
theorem dX4_takeNext_26 : decode cX4_takeNext 26 = .ok (.iload_n 1, 1) := by decide +kernel
theorem dX4_takeNext_27 : decode cX4_takeNext 27 = .ok (.aload_n 0, 1) := by decide +kernel
theorem dX4_takeNext_28 : decode cX4_takeNext 28 = .ok (.getfield 62, 3) := by decide +kernel
theorem dX4_takeNext_31 : decode cX4_takeNext 31 = .ok (.iload_n 1, 1) := by decide +kernel
theorem dX4_takeNext_32 : decode cX4_takeNext 32 = .ok (.iaload, 1) := by decide +kernel
theorem dX4_takeNext_33 : decode cX4_takeNext 33 = .ok (.iconst 1, 1) := by decide +kernel
theorem dX4_takeNext_34 : decode cX4_takeNext 34 = .ok (.iadd, 1) := by decide +kernel
theorem dX4_takeNext_35 : decode cX4_takeNext 35 = .ok (.bipush 16, 2) := by decide +kernel
theorem dX4_takeNext_37 : decode cX4_takeNext 37 = .ok (.irem, 1) := by decide +kernel
theorem dX4_takeNext_38 : decode cX4_takeNext 38 = .ok (.iastore, 1) := by decide +kernel
theorem dX4_takeNext_39 : decode cX4_takeNext 39 = .ok (.aload_n 0, 1) := by decide +kernel
theorem dX4_takeNext_40 : decode cX4_takeNext 40 = .ok (.getfield 71, 3) := by decide +kernel
theorem dX4_takeNext_43 : decode cX4_takeNext 43 = .ok (.iload_n 1, 1) := by decide +kernel
theorem dX4_takeNext_44 : decode cX4_takeNext 44 = .ok (.aload_n 0, 1) := by decide +kernel
theorem dX4_takeNext_45 : decode cX4_takeNext 45 = .ok (.getfield 137, 3) := by decide +kernel
theorem dX4_takeNext_48 : decode cX4_takeNext 48 = .ok (.lastore, 1) := by decide +kernel
theorem dX4_takeNext_49 : decode cX4_takeNext 49 = .ok (.aload_n 0, 1) := by decide +kernel
theorem dX4_takeNext_50 : decode cX4_takeNext 50 = .ok (.getfield 74, 3) := by decide +kernel
theorem dX4_takeNext_53 : decode cX4_takeNext 53 = .ok (.iload_n 1, 1) := by decide +kernel
theorem dX4_takeNext_54 : decode cX4_takeNext 54 = .ok (.iconst 0, 1) := by decide +kernel
theorem dX4_takeNext_55 : decode cX4_takeNext 55 = .ok (.bastore, 1) := by decide +kernel
theorem dX4_takeNext_56 : decode cX4_takeNext 56 = .ok (.aload_n 0, 1) := by decide +kernel
theorem dX4_takeNext_57 : decode cX4_takeNext 57 = .ok (.iload_n 1, 1) := by decide +kernel
theorem dX4_takeNext_58 : decode cX4_takeNext 58 = .ok (.iload_n 2, 1) := by decide +kernel
theorem dX4_takeNext_59 : decode cX4_takeNext 59 = .ok (.invokevirtual 171, 3) := by decide +kernel
theorem dX4_takeNext_62 : decode cX4_takeNext 62 = .ok (.aload_n 0, 1) := by decide +kernel
theorem dX4_takeNext_63 : decode cX4_takeNext 63 = .ok (.getfield 59, 3) := by decide +kernel
theorem dX4_takeNext_66 : decode cX4_takeNext 66 = .ok (.iload_n 1, 1) := by decide +kernel
theorem dX4_takeNext_67 : decode cX4_takeNext 67 = .ok (.iaload, 1) := by decide +kernel
theorem dX4_takeNext_68 : decode cX4_takeNext 68 = .ok (.aload_n 0, 1) := by decide +kernel
theorem dX4_takeNext_69 : decode cX4_takeNext 69 = .ok (.getfield 56, 3) := by decide +kernel
theorem dX4_takeNext_72 : decode cX4_takeNext 72 = .ok (.iload_n 1, 1) := by decide +kernel
theorem dX4_takeNext_73 : decode cX4_takeNext 73 = .ok (.iaload, 1) := by decide +kernel
theorem dX4_takeNext_74 : decode cX4_takeNext 74 = .ok (.if_icmp .ne 9, 3) := by decide +kernel
theorem dX4_takeNext_77 : decode cX4_takeNext 77 = .ok (.aload_n 0, 1) := by decide +kernel
theorem dX4_takeNext_78 : decode cX4_takeNext 78 = .ok (.iload_n 1, 1) := by decide +kernel
theorem dX4_takeNext_79 : decode cX4_takeNext 79 = .ok (.invokevirtual 174, 3) := by decide +kernel
theorem dX4_takeNext_82 : decode cX4_takeNext 82 = .ok (.return_, 1) := by decide +kernel
theorem dX4_takeNext_83 : decode cX4_takeNext 83 = .ok (.aload_n 0, 1) := by decide +kernel
theorem dX4_takeNext_84 : decode cX4_takeNext 84 = .ok (.getfield 68, 3) := by decide +kernel
theorem dX4_takeNext_87 : decode cX4_takeNext 87 = .ok (.iload_n 1, 1) := by decide +kernel
theorem dX4_takeNext_88 : decode cX4_takeNext 88 = .ok (.dup2, 1) := by decide +kernel
theorem dX4_takeNext_89 : decode cX4_takeNext 89 = .ok (.iaload, 1) := by decide +kernel
theorem dX4_takeNext_90 : decode cX4_takeNext 90 = .ok (.iconst 1, 1) := by decide +kernel
theorem dX4_takeNext_91 : decode cX4_takeNext 91 = .ok (.isub, 1) := by decide +kernel
theorem dX4_takeNext_92 : decode cX4_takeNext 92 = .ok (.iastore, 1) := by decide +kernel
theorem dX4_takeNext_93 : decode cX4_takeNext 93 = .ok (.aload_n 0, 1) := by decide +kernel
theorem dX4_takeNext_94 : decode cX4_takeNext 94 = .ok (.getfield 65, 3) := by decide +kernel
theorem dX4_takeNext_97 : decode cX4_takeNext 97 = .ok (.iload_n 1, 1) := by decide +kernel
theorem dX4_takeNext_98 : decode cX4_takeNext 98 = .ok (.iaload, 1) := by decide +kernel
theorem dX4_takeNext_99 : decode cX4_takeNext 99 = .ok (.ifCond .le 17, 3) := by decide +kernel
theorem dX4_takeNext_102 : decode cX4_takeNext 102 = .ok (.aload_n 0, 1) := by decide +kernel
theorem dX4_takeNext_103 : decode cX4_takeNext 103 = .ok (.getfield 68, 3) := by decide +kernel
theorem dX4_takeNext_106 : decode cX4_takeNext 106 = .ok (.iload_n 1, 1) := by decide +kernel
theorem dX4_takeNext_107 : decode cX4_takeNext 107 = .ok (.iaload, 1) := by decide +kernel
theorem dX4_takeNext_108 : decode cX4_takeNext 108 = .ok (.ifCond .ne 8, 3) := by decide +kernel
theorem dX4_takeNext_111 : decode cX4_takeNext 111 = .ok (.aload_n 0, 1) := by decide +kernel
theorem dX4_takeNext_112 : decode cX4_takeNext 112 = .ok (.iload_n 1, 1) := by decide +kernel
theorem dX4_takeNext_113 : decode cX4_takeNext 113 = .ok (.invokevirtual 178, 3) := by decide +kernel
theorem dX4_takeNext_116 : decode cX4_takeNext 116 = .ok (.return_, 1) := by decide +kernel
theorem dX4_senderDue_0 : decode cX4_senderDue 0 = .ok (.aload_n 0, 1) := by decide +kernel
theorem dX4_senderDue_1 : decode cX4_senderDue 1 = .ok (.getfield 22, 3) := by decide +kernel
theorem dX4_senderDue_4 : decode cX4_senderDue 4 = .ok (.iload_n 1, 1) := by decide +kernel
theorem dX4_senderDue_5 : decode cX4_senderDue 5 = .ok (.iaload, 1) := by decide +kernel
theorem dX4_senderDue_6 : decode cX4_senderDue 6 = .ok (.iconst 2, 1) := by decide +kernel
theorem dX4_senderDue_7 : decode cX4_senderDue 7 = .ok (.if_icmp .ne 17, 3) := by decide +kernel
theorem dX4_senderDue_10 : decode cX4_senderDue 10 = .ok (.aload_n 0, 1) := by decide +kernel
theorem dX4_senderDue_11 : decode cX4_senderDue 11 = .ok (.getfield 47, 3) := by decide +kernel
theorem dX4_senderDue_14 : decode cX4_senderDue 14 = .ok (.iload_n 1, 1) := by decide +kernel
theorem dX4_senderDue_15 : decode cX4_senderDue 15 = .ok (.laload, 1) := by decide +kernel
theorem dX4_senderDue_16 : decode cX4_senderDue 16 = .ok (.aload_n 0, 1) := by decide +kernel
theorem dX4_senderDue_17 : decode cX4_senderDue 17 = .ok (.getfield 137, 3) := by decide +kernel
theorem dX4_senderDue_20 : decode cX4_senderDue 20 = .ok (.lcmp, 1) := by decide +kernel
theorem dX4_senderDue_21 : decode cX4_senderDue 21 = .ok (.ifCond .eq 31, 3) := by decide +kernel
theorem dX4_senderDue_24 : decode cX4_senderDue 24 = .ok (.aload_n 0, 1) := by decide +kernel
theorem dX4_senderDue_25 : decode cX4_senderDue 25 = .ok (.getfield 22, 3) := by decide +kernel
theorem dX4_senderDue_28 : decode cX4_senderDue 28 = .ok (.iload_n 1, 1) := by decide +kernel
theorem dX4_senderDue_29 : decode cX4_senderDue 29 = .ok (.iaload, 1) := by decide +kernel
theorem dX4_senderDue_30 : decode cX4_senderDue 30 = .ok (.iconst 1, 1) := by decide +kernel
theorem dX4_senderDue_31 : decode cX4_senderDue 31 = .ok (.if_icmp .ne 25, 3) := by decide +kernel
theorem dX4_senderDue_34 : decode cX4_senderDue 34 = .ok (.aload_n 0, 1) := by decide +kernel
theorem dX4_senderDue_35 : decode cX4_senderDue 35 = .ok (.getfield 137, 3) := by decide +kernel
theorem dX4_senderDue_38 : decode cX4_senderDue 38 = .ok (.aload_n 0, 1) := by decide +kernel
theorem dX4_senderDue_39 : decode cX4_senderDue 39 = .ok (.getfield 43, 3) := by decide +kernel
theorem dX4_senderDue_42 : decode cX4_senderDue 42 = .ok (.iload_n 1, 1) := by decide +kernel
theorem dX4_senderDue_43 : decode cX4_senderDue 43 = .ok (.laload, 1) := by decide +kernel
theorem dX4_senderDue_44 : decode cX4_senderDue 44 = .ok (.lsub, 1) := by decide +kernel
theorem dX4_senderDue_45 : decode cX4_senderDue 45 = .ok (.ldc2_w 181, 3) := by decide +kernel
theorem dX4_senderDue_48 : decode cX4_senderDue 48 = .ok (.lcmp, 1) := by decide +kernel
theorem dX4_senderDue_49 : decode cX4_senderDue 49 = .ok (.ifCond .ne 7, 3) := by decide +kernel
theorem dX4_senderDue_52 : decode cX4_senderDue 52 = .ok (.iconst 1, 1) := by decide +kernel
theorem dX4_senderDue_53 : decode cX4_senderDue 53 = .ok (.goto 4, 3) := by decide +kernel
theorem dX4_senderDue_56 : decode cX4_senderDue 56 = .ok (.iconst 0, 1) := by decide +kernel
theorem dX4_senderDue_57 : decode cX4_senderDue 57 = .ok (.ireturn, 1) := by decide +kernel
set_option maxRecDepth 20000 in
theorem ggX4_moment_X4_senderDue : GoodIn wsX4_moment wsX4_senderDue := goodIn_r _ [13, 2, 14, 5, 15, 8, 66, 67, 68, 69, 70, 71, 72, 73, 74, 75, 76, 77, 78, 79, 80, 81, 82, 83, 84, 85, 86, 87, 88, 89, 90, 91, 92, 93, 94, 95, 96, 97, 98, 99, 100, 101, 102, 103, 104, 105, 106, 107, 108] (by decide +kernel) (by decide +kernel)
set_option maxRecDepth 20000 in
theorem gX4_moment_X4_senderDue : GoodIn wsX4_moment (wsV RX4 183 RX4 yX4_senderDue wsX4_senderDue) := goodIn_app (goodIn_of _ (by decide +kernel)) ggX4_moment_X4_senderDue
set_option maxRecDepth 20000 in
theorem ggX4_moment_X4_endSender : GoodIn wsX4_moment wsX4_endSender := goodIn_r _ [19, 2, 20, 66, 67, 68, 69, 70, 71, 72, 73, 74, 75, 76, 77, 78, 79, 80, 81, 82, 83, 84, 85, 86, 87, 88, 89, 90, 91, 92, 93, 94, 95, 96, 97, 98, 99, 100, 101, 102, 103, 104, 105, 106, 107, 108] (by decide +kernel) (by decide +kernel)
set_option maxRecDepth 20000 in
theorem gX4_moment_X4_endSender : GoodIn wsX4_moment (wsV RX4 149 RX4 yX4_endSender wsX4_endSender) := goodIn_app (goodIn_of _ (by decide +kernel)) ggX4_moment_X4_endSender
set_option maxRecDepth 20000 in
theorem ggX4_moment_X4_sendNext : GoodIn wsX4_moment wsX4_sendNext := goodIn_r _ [24, 25, 26, 14, 5, 27, 2, 28, 29, 15, 30, 31, 32, 12, 33, 34, 35, 36, 37, 38, 39, 40, 41, 42, 43, 44, 45, 16, 17, 18, 19, 20, 46, 47, 48, 49, 50, 51, 66, 67, 68, 69, 70, 71, 72, 73, 74, 75, 76, 77, 78, 79, 80, 81, 82, 83, 84, 85, 86, 87, 88, 89, 90, 91, 92, 93, 94, 95, 96, 97, 98, 99, 100, 101, 102, 103, 104, 105, 106, 107, 108] (by decide +kernel) (by decide +kernel)
set_option maxRecDepth 20000 in
theorem gX4_moment_X4_sendNext : GoodIn wsX4_moment (wsV RX4 187 RX4 yX4_sendNext wsX4_sendNext) := goodIn_app (goodIn_of _ (by decide +kernel)) ggX4_moment_X4_sendNext
set_option maxRecDepth 20000 in
theorem ggX4_moment_X4_answer : GoodIn wsX4_moment wsX4_answer := goodIn_r _ [55, 56, 57, 58, 59, 6, 5, 4, 60, 61, 35, 36, 37, 12, 38, 39, 40, 41, 42, 43, 44, 45, 62, 63, 64, 65, 3, 20, 66, 67, 68, 69, 70, 71, 72, 73, 74, 75, 76, 77, 78, 79, 80, 81, 82, 83, 84, 85, 86, 87, 88, 89, 90, 91, 92, 93, 94, 95, 96, 97, 98, 99, 100, 101, 102, 103, 104, 105, 106, 107, 108] (by decide +kernel) (by decide +kernel)
set_option maxRecDepth 20000 in
theorem gX4_moment_X4_answer : GoodIn wsX4_moment (wsV RX4 178 RX4 yX4_answer wsX4_answer) := goodIn_app (goodIn_of _ (by decide +kernel)) ggX4_moment_X4_answer
set_option maxRecDepth 20000 in
theorem ggX4_moment_X4_endReceiver : GoodIn wsX4_moment wsX4_endReceiver := goodIn_r _ [65, 3, 20, 66, 67, 68, 69, 70, 71, 72, 73, 74, 75, 76, 77, 78, 79, 80, 81, 82, 83, 84, 85, 86, 87, 88, 89, 90, 91, 92, 93, 94, 95, 96, 97, 98, 99, 100, 101, 102, 103, 104, 105, 106, 107, 108] (by decide +kernel) (by decide +kernel)
set_option maxRecDepth 20000 in
theorem gX4_moment_X4_endReceiver : GoodIn wsX4_moment (wsV RX4 162 RX4 yX4_endReceiver wsX4_endReceiver) := goodIn_app (goodIn_of _ (by decide +kernel)) ggX4_moment_X4_endReceiver
theorem dX4_moment_0 : decode cX4_moment 0 = .ok (.iconst 1, 1) := by decide +kernel
theorem dX4_moment_1 : decode cX4_moment 1 = .ok (.istore_n 1, 1) := by decide +kernel
theorem dX4_moment_2 : decode cX4_moment 2 = .ok (.iload_n 1, 1) := by decide +kernel
theorem dX4_moment_3 : decode cX4_moment 3 = .ok (.aload_n 0, 1) := by decide +kernel
theorem dX4_moment_4 : decode cX4_moment 4 = .ok (.getfield 123, 3) := by decide +kernel
theorem dX4_moment_7 : decode cX4_moment 7 = .ok (.if_icmp .gt 44, 3) := by decide +kernel
theorem dX4_moment_10 : decode cX4_moment 10 = .ok (.aload_n 0, 1) := by decide +kernel
theorem dX4_moment_11 : decode cX4_moment 11 = .ok (.iload_n 1, 1) := by decide +kernel
theorem dX4_moment_12 : decode cX4_moment 12 = .ok (.invokevirtual 183, 3) := by decide +kernel
theorem dX4_moment_15 : decode cX4_moment 15 = .ok (.ifCond .eq 30, 3) := by decide +kernel
theorem dX4_moment_18 : decode cX4_moment 18 = .ok (.aload_n 0, 1) := by decide +kernel
theorem dX4_moment_19 : decode cX4_moment 19 = .ok (.getfield 22, 3) := by decide +kernel
theorem dX4_moment_22 : decode cX4_moment 22 = .ok (.iload_n 1, 1) := by decide +kernel
theorem dX4_moment_23 : decode cX4_moment 23 = .ok (.iaload, 1) := by decide +kernel
theorem dX4_moment_24 : decode cX4_moment 24 = .ok (.iconst 1, 1) := by decide +kernel
theorem dX4_moment_25 : decode cX4_moment 25 = .ok (.if_icmp .ne 12, 3) := by decide +kernel
theorem dX4_moment_28 : decode cX4_moment 28 = .ok (.aload_n 0, 1) := by decide +kernel
theorem dX4_moment_29 : decode cX4_moment 29 = .ok (.iload_n 1, 1) := by decide +kernel
theorem dX4_moment_30 : decode cX4_moment 30 = .ok (.iconst 1, 1) := by decide +kernel
theorem dX4_moment_31 : decode cX4_moment 31 = .ok (.invokevirtual 149, 3) := by decide +kernel
theorem dX4_moment_34 : decode cX4_moment 34 = .ok (.goto (-24), 3) := by decide +kernel
theorem dX4_moment_37 : decode cX4_moment 37 = .ok (.aload_n 0, 1) := by decide +kernel
theorem dX4_moment_38 : decode cX4_moment 38 = .ok (.iload_n 1, 1) := by decide +kernel
theorem dX4_moment_39 : decode cX4_moment 39 = .ok (.invokevirtual 187, 3) := by decide +kernel
theorem dX4_moment_42 : decode cX4_moment 42 = .ok (.goto (-32), 3) := by decide +kernel
theorem dX4_moment_45 : decode cX4_moment 45 = .ok (.iinc 1 1, 3) := by decide +kernel
theorem dX4_moment_48 : decode cX4_moment 48 = .ok (.goto (-46), 3) := by decide +kernel
theorem dX4_moment_51 : decode cX4_moment 51 = .ok (.iconst 1, 1) := by decide +kernel
theorem dX4_moment_52 : decode cX4_moment 52 = .ok (.istore_n 1, 1) := by decide +kernel
theorem dX4_moment_53 : decode cX4_moment 53 = .ok (.iload_n 1, 1) := by decide +kernel
theorem dX4_moment_54 : decode cX4_moment 54 = .ok (.iconst 5, 1) := by decide +kernel
theorem dX4_moment_55 : decode cX4_moment 55 = .ok (.if_icmp .ge 89, 3) := by decide +kernel
theorem dX4_moment_58 : decode cX4_moment 58 = .ok (.iload_n 1, 1) := by decide +kernel
theorem dX4_moment_59 : decode cX4_moment 59 = .ok (.iconst 4, 1) := by decide +kernel
theorem dX4_moment_60 : decode cX4_moment 60 = .ok (.irem, 1) := by decide +kernel
theorem dX4_moment_61 : decode cX4_moment 61 = .ok (.istore_n 2, 1) := by decide +kernel
theorem dX4_moment_62 : decode cX4_moment 62 = .ok (.aload_n 0, 1) := by decide +kernel
theorem dX4_moment_63 : decode cX4_moment 63 = .ok (.getfield 50, 3) := by decide +kernel
theorem dX4_moment_66 : decode cX4_moment 66 = .ok (.iload_n 2, 1) := by decide +kernel
theorem dX4_moment_67 : decode cX4_moment 67 = .ok (.iaload, 1) := by decide +kernel
theorem dX4_moment_68 : decode cX4_moment 68 = .ok (.iconst 1, 1) := by decide +kernel
theorem dX4_moment_69 : decode cX4_moment 69 = .ok (.if_icmp .ne 35, 3) := by decide +kernel
theorem dX4_moment_72 : decode cX4_moment 72 = .ok (.aload_n 0, 1) := by decide +kernel
theorem dX4_moment_73 : decode cX4_moment 73 = .ok (.getfield 74, 3) := by decide +kernel
theorem dX4_moment_76 : decode cX4_moment 76 = .ok (.iload_n 2, 1) := by decide +kernel
theorem dX4_moment_77 : decode cX4_moment 77 = .ok (.baload, 1) := by decide +kernel
theorem dX4_moment_78 : decode cX4_moment 78 = .ok (.ifCond .eq 26, 3) := by decide +kernel
theorem dX4_moment_81 : decode cX4_moment 81 = .ok (.aload_n 0, 1) := by decide +kernel
theorem dX4_moment_82 : decode cX4_moment 82 = .ok (.getfield 137, 3) := by decide +kernel
theorem dX4_moment_85 : decode cX4_moment 85 = .ok (.aload_n 0, 1) := by decide +kernel
theorem dX4_moment_86 : decode cX4_moment 86 = .ok (.getfield 71, 3) := by decide +kernel
theorem dX4_moment_89 : decode cX4_moment 89 = .ok (.iload_n 2, 1) := by decide +kernel
theorem dX4_moment_90 : decode cX4_moment 90 = .ok (.laload, 1) := by decide +kernel
theorem dX4_moment_91 : decode cX4_moment 91 = .ok (.lsub, 1) := by decide +kernel
theorem dX4_moment_92 : decode cX4_moment 92 = .ok (.ldc2_w 190, 3) := by decide +kernel
theorem dX4_moment_95 : decode cX4_moment 95 = .ok (.lcmp, 1) := by decide +kernel
theorem dX4_moment_96 : decode cX4_moment 96 = .ok (.ifCond .ne 8, 3) := by decide +kernel
theorem dX4_moment_99 : decode cX4_moment 99 = .ok (.aload_n 0, 1) := by decide +kernel
theorem dX4_moment_100 : decode cX4_moment 100 = .ok (.iload_n 2, 1) := by decide +kernel
theorem dX4_moment_101 : decode cX4_moment 101 = .ok (.invokevirtual 178, 3) := by decide +kernel
theorem dX4_moment_104 : decode cX4_moment 104 = .ok (.aload_n 0, 1) := by decide +kernel
theorem dX4_moment_105 : decode cX4_moment 105 = .ok (.getfield 50, 3) := by decide +kernel
theorem dX4_moment_108 : decode cX4_moment 108 = .ok (.iload_n 2, 1) := by decide +kernel
theorem dX4_moment_109 : decode cX4_moment 109 = .ok (.iaload, 1) := by decide +kernel
theorem dX4_moment_110 : decode cX4_moment 110 = .ok (.iconst 1, 1) := by decide +kernel
theorem dX4_moment_111 : decode cX4_moment 111 = .ok (.if_icmp .ne 27, 3) := by decide +kernel
theorem dX4_moment_114 : decode cX4_moment 114 = .ok (.aload_n 0, 1) := by decide +kernel
theorem dX4_moment_115 : decode cX4_moment 115 = .ok (.getfield 137, 3) := by decide +kernel
theorem dX4_moment_118 : decode cX4_moment 118 = .ok (.aload_n 0, 1) := by decide +kernel
theorem dX4_moment_119 : decode cX4_moment 119 = .ok (.getfield 71, 3) := by decide +kernel
theorem dX4_moment_122 : decode cX4_moment 122 = .ok (.iload_n 2, 1) := by decide +kernel
theorem dX4_moment_123 : decode cX4_moment 123 = .ok (.laload, 1) := by decide +kernel
theorem dX4_moment_124 : decode cX4_moment 124 = .ok (.lsub, 1) := by decide +kernel
theorem dX4_moment_125 : decode cX4_moment 125 = .ok (.ldc2_w 181, 3) := by decide +kernel
theorem dX4_moment_128 : decode cX4_moment 128 = .ok (.lcmp, 1) := by decide +kernel
theorem dX4_moment_129 : decode cX4_moment 129 = .ok (.ifCond .ne 9, 3) := by decide +kernel
theorem dX4_moment_132 : decode cX4_moment 132 = .ok (.aload_n 0, 1) := by decide +kernel
theorem dX4_moment_133 : decode cX4_moment 133 = .ok (.iload_n 2, 1) := by decide +kernel
theorem dX4_moment_134 : decode cX4_moment 134 = .ok (.iconst 2, 1) := by decide +kernel
theorem dX4_moment_135 : decode cX4_moment 135 = .ok (.invokevirtual 162, 3) := by decide +kernel
theorem dX4_moment_138 : decode cX4_moment 138 = .ok (.iinc 1 1, 3) := by decide +kernel
theorem dX4_moment_141 : decode cX4_moment 141 = .ok (.goto (-88), 3) := by decide +kernel
theorem dX4_moment_144 : decode cX4_moment 144 = .ok (.return_, 1) := by decide +kernel
theorem dX4_sum_0 : decode cX4_sum 0 = .ok (.iconst 0, 1) := by decide +kernel
theorem dX4_sum_1 : decode cX4_sum 1 = .ok (.istore_n 1, 1) := by decide +kernel
theorem dX4_sum_2 : decode cX4_sum 2 = .ok (.iconst 1, 1) := by decide +kernel
theorem dX4_sum_3 : decode cX4_sum 3 = .ok (.istore_n 2, 1) := by decide +kernel
theorem dX4_sum_4 : decode cX4_sum 4 = .ok (.iload_n 2, 1) := by decide +kernel
theorem dX4_sum_5 : decode cX4_sum 5 = .ok (.bipush 8, 2) := by decide +kernel
theorem dX4_sum_7 : decode cX4_sum 7 = .ok (.if_icmp .ge 18, 3) := by decide +kernel
theorem dX4_sum_10 : decode cX4_sum 10 = .ok (.iload_n 1, 1) := by decide +kernel
theorem dX4_sum_11 : decode cX4_sum 11 = .ok (.aload_n 0, 1) := by decide +kernel
theorem dX4_sum_12 : decode cX4_sum 12 = .ok (.getfield 113, 3) := by decide +kernel
theorem dX4_sum_15 : decode cX4_sum 15 = .ok (.iload_n 2, 1) := by decide +kernel
theorem dX4_sum_16 : decode cX4_sum 16 = .ok (.iaload, 1) := by decide +kernel
theorem dX4_sum_17 : decode cX4_sum 17 = .ok (.iadd, 1) := by decide +kernel
theorem dX4_sum_18 : decode cX4_sum 18 = .ok (.istore_n 1, 1) := by decide +kernel
theorem dX4_sum_19 : decode cX4_sum 19 = .ok (.iinc 2 1, 3) := by decide +kernel
theorem dX4_sum_22 : decode cX4_sum 22 = .ok (.goto (-18), 3) := by decide +kernel
theorem dX4_sum_25 : decode cX4_sum 25 = .ok (.iload_n 1, 1) := by decide +kernel
theorem dX4_sum_26 : decode cX4_sum 26 = .ok (.ireturn, 1) := by decide +kernel
set_option maxRecDepth 20000 in
theorem ggX4_tick_X4_sum : GoodIn wsX4_tick wsX4_sum := goodIn_r _ [10, 11, 81, 82, 83, 84, 85, 86, 87, 88, 89, 90, 91, 92, 93, 94, 95, 96, 97, 98, 99, 100, 101, 102, 103, 104, 105, 106, 107, 108, 109, 110, 111, 112, 113, 114, 115, 116, 117, 118, 119, 120, 121, 122, 123] (by decide +kernel) (by decide +kernel)
set_option maxRecDepth 20000 in
theorem gX4_tick_X4_sum : GoodIn wsX4_tick (wsV RX4 194 RX4 yX4_sum wsX4_sum) := goodIn_app (goodIn_of _ (by decide +kernel)) ggX4_tick_X4_sum
set_option maxRecDepth 20000 in
theorem ggX4_tick_X4_start : GoodIn wsX4_tick wsX4_start := goodIn_r _ [15, 5, 16, 17, 2, 18, 19, 20, 21, 9, 22, 23, 24, 25, 26, 27, 28, 29, 30, 31, 32, 33, 34, 35, 36, 37, 38, 39, 40, 41, 42, 43, 44, 11, 81, 82, 83, 84, 85, 86, 87, 88, 89, 90, 91, 92, 93, 94, 95, 96, 97, 98, 99, 100, 101, 102, 103, 104, 105, 106, 107, 108, 109, 110, 111, 112, 113, 114, 115, 116, 117, 118, 119, 120, 121, 122, 123] (by decide +kernel) (by decide +kernel)
set_option maxRecDepth 20000 in
theorem gX4_tick_X4_start : GoodIn wsX4_tick (wsV RX4 198 RX4 yX4_start wsX4_start) := goodIn_app (goodIn_of _ (by decide +kernel)) ggX4_tick_X4_start
set_option maxRecDepth 20000 in
theorem ggX4_tick_X4_moment : GoodIn wsX4_tick wsX4_moment := goodIn_r _ [48, 4, 18, 49, 50, 2, 51, 52, 53, 54, 55, 56, 9, 57, 58, 17, 41, 42, 43, 44, 11, 59, 60, 61, 62, 16, 63, 64, 65, 66, 19, 20, 21, 22, 23, 24, 25, 26, 27, 28, 29, 30, 31, 32, 33, 34, 35, 36, 37, 38, 39, 40, 67, 68, 69, 70, 71, 72, 73, 74, 75, 76, 77, 78, 79, 80, 81, 82, 83, 84, 85, 86, 87, 88, 89, 90, 91, 92, 93, 94, 95, 96, 97, 98, 99, 100, 101, 102, 103, 104, 105, 106, 107, 108, 109, 110, 111, 112, 113, 114, 115, 116, 117, 118, 119, 120, 121, 122, 123] (by decide +kernel) (by decide +kernel)
set_option maxRecDepth 20000 in
theorem gX4_tick_X4_moment : GoodIn wsX4_tick (wsV RX4 201 RX4 yX4_moment wsX4_moment) := goodIn_app (goodIn_of _ (by decide +kernel)) ggX4_tick_X4_moment
theorem dX4_tick_0 : decode cX4_tick 0 = .ok (.aload_n 0, 1) := by decide +kernel
theorem dX4_tick_1 : decode cX4_tick 1 = .ok (.iconst 0, 1) := by decide +kernel
theorem dX4_tick_2 : decode cX4_tick 2 = .ok (.putfield 120, 3) := by decide +kernel
theorem dX4_tick_5 : decode cX4_tick 5 = .ok (.lload_n 1, 1) := by decide +kernel
theorem dX4_tick_6 : decode cX4_tick 6 = .ok (.aload_n 0, 1) := by decide +kernel
theorem dX4_tick_7 : decode cX4_tick 7 = .ok (.getfield 137, 3) := by decide +kernel
theorem dX4_tick_10 : decode cX4_tick 10 = .ok (.lcmp, 1) := by decide +kernel
theorem dX4_tick_11 : decode cX4_tick 11 = .ok (.ifCond .lt 16, 3) := by decide +kernel
theorem dX4_tick_14 : decode cX4_tick 14 = .ok (.lload_n 1, 1) := by decide +kernel
theorem dX4_tick_15 : decode cX4_tick 15 = .ok (.aload_n 0, 1) := by decide +kernel
theorem dX4_tick_16 : decode cX4_tick 16 = .ok (.getfield 137, 3) := by decide +kernel
theorem dX4_tick_19 : decode cX4_tick 19 = .ok (.lsub, 1) := by decide +kernel
theorem dX4_tick_20 : decode cX4_tick 20 = .ok (.ldc2_w 192, 3) := by decide +kernel
theorem dX4_tick_23 : decode cX4_tick 23 = .ok (.lcmp, 1) := by decide +kernel
theorem dX4_tick_24 : decode cX4_tick 24 = .ok (.ifCond .le 6, 3) := by decide +kernel
theorem dX4_tick_27 : decode cX4_tick 27 = .ok (.bipush (-2), 2) := by decide +kernel
theorem dX4_tick_29 : decode cX4_tick 29 = .ok (.ireturn, 1) := by decide +kernel
theorem dX4_tick_30 : decode cX4_tick 30 = .ok (.aload_n 0, 1) := by decide +kernel
theorem dX4_tick_31 : decode cX4_tick 31 = .ok (.invokevirtual 194, 3) := by decide +kernel
theorem dX4_tick_34 : decode cX4_tick 34 = .ok (.istore_n 3, 1) := by decide +kernel
theorem dX4_tick_35 : decode cX4_tick 35 = .ok (.iconst 1, 1) := by decide +kernel
theorem dX4_tick_36 : decode cX4_tick 36 = .ok (.istore 4, 2) := by decide +kernel
theorem dX4_tick_38 : decode cX4_tick 38 = .ok (.iload 4, 2) := by decide +kernel
theorem dX4_tick_40 : decode cX4_tick 40 = .ok (.aload_n 0, 1) := by decide +kernel
theorem dX4_tick_41 : decode cX4_tick 41 = .ok (.getfield 123, 3) := by decide +kernel
theorem dX4_tick_44 : decode cX4_tick 44 = .ok (.if_icmp .gt 25, 3) := by decide +kernel
theorem dX4_tick_47 : decode cX4_tick 47 = .ok (.aload_n 0, 1) := by decide +kernel
theorem dX4_tick_48 : decode cX4_tick 48 = .ok (.getfield 18, 3) := by decide +kernel
theorem dX4_tick_51 : decode cX4_tick 51 = .ok (.iload 4, 2) := by decide +kernel
theorem dX4_tick_53 : decode cX4_tick 53 = .ok (.baload, 1) := by decide +kernel
theorem dX4_tick_54 : decode cX4_tick 54 = .ok (.ifCond .ne 9, 3) := by decide +kernel
theorem dX4_tick_57 : decode cX4_tick 57 = .ok (.aload_n 0, 1) := by decide +kernel
theorem dX4_tick_58 : decode cX4_tick 58 = .ok (.iload 4, 2) := by decide +kernel
theorem dX4_tick_60 : decode cX4_tick 60 = .ok (.invokevirtual 198, 3) := by decide +kernel
theorem dX4_tick_63 : decode cX4_tick 63 = .ok (.iinc 4 1, 3) := by decide +kernel
theorem dX4_tick_66 : decode cX4_tick 66 = .ok (.goto (-28), 3) := by decide +kernel
theorem dX4_tick_69 : decode cX4_tick 69 = .ok (.aload_n 0, 1) := by decide +kernel
theorem dX4_tick_70 : decode cX4_tick 70 = .ok (.invokevirtual 201, 3) := by decide +kernel
theorem dX4_tick_73 : decode cX4_tick 73 = .ok (.aload_n 0, 1) := by decide +kernel
theorem dX4_tick_74 : decode cX4_tick 74 = .ok (.getfield 137, 3) := by decide +kernel
theorem dX4_tick_77 : decode cX4_tick 77 = .ok (.lload_n 1, 1) := by decide +kernel
theorem dX4_tick_78 : decode cX4_tick 78 = .ok (.lcmp, 1) := by decide +kernel
theorem dX4_tick_79 : decode cX4_tick 79 = .ok (.ifCond .ge 20, 3) := by decide +kernel
theorem dX4_tick_82 : decode cX4_tick 82 = .ok (.aload_n 0, 1) := by decide +kernel
theorem dX4_tick_83 : decode cX4_tick 83 = .ok (.dup, 1) := by decide +kernel
theorem dX4_tick_84 : decode cX4_tick 84 = .ok (.getfield 137, 3) := by decide +kernel
theorem dX4_tick_87 : decode cX4_tick 87 = .ok (.lconst 1, 1) := by decide +kernel
theorem dX4_tick_88 : decode cX4_tick 88 = .ok (.ladd, 1) := by decide +kernel
theorem dX4_tick_89 : decode cX4_tick 89 = .ok (.putfield 137, 3) := by decide +kernel
theorem dX4_tick_92 : decode cX4_tick 92 = .ok (.aload_n 0, 1) := by decide +kernel
theorem dX4_tick_93 : decode cX4_tick 93 = .ok (.invokevirtual 201, 3) := by decide +kernel
theorem dX4_tick_96 : decode cX4_tick 96 = .ok (.goto (-23), 3) := by decide +kernel
theorem dX4_tick_99 : decode cX4_tick 99 = .ok (.aload_n 0, 1) := by decide +kernel
theorem dX4_tick_100 : decode cX4_tick 100 = .ok (.invokevirtual 194, 3) := by decide +kernel
theorem dX4_tick_103 : decode cX4_tick 103 = .ok (.iload_n 3, 1) := by decide +kernel
theorem dX4_tick_104 : decode cX4_tick 104 = .ok (.isub, 1) := by decide +kernel
theorem dX4_tick_105 : decode cX4_tick 105 = .ok (.ireturn, 1) := by decide +kernel
set_option maxRecDepth 20000 in
theorem ggX4_receive_X4_takeFlow : GoodIn wsX4_receive wsX4_takeFlow := goodIn_r _ [9, 10, 11, 12, 13, 14, 15, 16, 17, 18, 19, 20, 21, 22, 23, 24, 25, 8, 26, 27, 74, 75, 76, 77, 78, 79, 80, 81, 82, 83, 84, 85, 86, 87, 88, 89, 90, 91, 92, 93, 94, 95, 96, 97, 98, 99, 100, 101, 102, 103, 104, 105, 106, 107, 108, 109, 110, 111, 112, 113, 114, 115, 116] (by decide +kernel) (by decide +kernel)
set_option maxRecDepth 20000 in
theorem gX4_receive_X4_takeFlow : GoodIn wsX4_receive (wsV RX4 204 RX4 yX4_takeFlow wsX4_takeFlow) := goodIn_app (goodIn_of _ (by decide +kernel)) ggX4_receive_X4_takeFlow
set_option maxRecDepth 20000 in
theorem ggX4_receive_X4_take : GoodIn wsX4_receive wsX4_take := goodIn_r _ [31, 10, 4, 32, 33, 34, 35, 36, 15, 13, 37, 38, 39, 40, 41, 8, 42, 43, 19, 44, 45, 46, 47, 48, 49, 27, 50, 51, 52, 53, 54, 55, 56, 57, 58, 59, 60, 61, 62, 63, 64, 65, 66, 67, 68, 69, 70, 71, 72, 2, 12, 73, 74, 75, 76, 77, 78, 79, 80, 81, 82, 83, 84, 85, 86, 87, 88, 89, 90, 91, 92, 93, 94, 95, 96, 97, 98, 99, 100, 101, 102, 103, 104, 105, 106, 107, 108, 109, 110, 111, 112, 113, 114, 115, 116] (by decide +kernel) (by decide +kernel)
set_option maxRecDepth 20000 in
theorem gX4_receive_X4_take : GoodIn wsX4_receive (wsV RX4 207 RX4 yX4_take wsX4_take) := goodIn_app (goodIn_of _ (by decide +kernel)) ggX4_receive_X4_take
theorem dX4_receive_0 : decode cX4_receive 0 = .ok (.aload_n 0, 1) := by decide +kernel
theorem dX4_receive_1 : decode cX4_receive 1 = .ok (.iconst 0, 1) := by decide +kernel
theorem dX4_receive_2 : decode cX4_receive 2 = .ok (.putfield 120, 3) := by decide +kernel
theorem dX4_receive_5 : decode cX4_receive 5 = .ok (.iload_n 1, 1) := by decide +kernel
theorem dX4_receive_6 : decode cX4_receive 6 = .ok (.iconst 1, 1) := by decide +kernel
theorem dX4_receive_7 : decode cX4_receive 7 = .ok (.if_icmp .lt 11, 3) := by decide +kernel
theorem dX4_receive_10 : decode cX4_receive 10 = .ok (.iload_n 1, 1) := by decide +kernel
theorem dX4_receive_11 : decode cX4_receive 11 = .ok (.aload_n 0, 1) := by decide +kernel
theorem dX4_receive_12 : decode cX4_receive 12 = .ok (.getfield 134, 3) := by decide +kernel
theorem dX4_receive_15 : decode cX4_receive 15 = .ok (.if_icmp .le 5, 3) := by decide +kernel
theorem dX4_receive_18 : decode cX4_receive 18 = .ok (.iconst (-1), 1) := by decide +kernel
theorem dX4_receive_19 : decode cX4_receive 19 = .ok (.ireturn, 1) := by decide +kernel
theorem dX4_receive_20 : decode cX4_receive 20 = .ok (.aload_n 0, 1) := by decide +kernel
theorem dX4_receive_21 : decode cX4_receive 21 = .ok (.getfield 99, 3) := by decide +kernel
theorem dX4_receive_24 : decode cX4_receive 24 = .ok (.iload_n 1, 1) := by decide +kernel
theorem dX4_receive_25 : decode cX4_receive 25 = .ok (.baload, 1) := by decide +kernel
theorem dX4_receive_26 : decode cX4_receive 26 = .ok (.ifCond .eq 6, 3) := by decide +kernel
theorem dX4_receive_29 : decode cX4_receive 29 = .ok (.bipush (-3), 2) := by decide +kernel
theorem dX4_receive_31 : decode cX4_receive 31 = .ok (.ireturn, 1) := by decide +kernel
theorem dX4_receive_32 : decode cX4_receive 32 = .ok (.aload_n 0, 1) := by decide +kernel
theorem dX4_receive_33 : decode cX4_receive 33 = .ok (.getfield 99, 3) := by decide +kernel
theorem dX4_receive_36 : decode cX4_receive 36 = .ok (.iload_n 1, 1) := by decide +kernel
theorem dX4_receive_37 : decode cX4_receive 37 = .ok (.iconst 1, 1) := by decide +kernel
theorem dX4_receive_38 : decode cX4_receive 38 = .ok (.bastore, 1) := by decide +kernel
theorem dX4_receive_39 : decode cX4_receive 39 = .ok (.aload_n 0, 1) := by decide +kernel
theorem dX4_receive_40 : decode cX4_receive 40 = .ok (.getfield 81, 3) := by decide +kernel
theorem dX4_receive_43 : decode cX4_receive 43 = .ok (.iload_n 1, 1) := by decide +kernel
theorem dX4_receive_44 : decode cX4_receive 44 = .ok (.iaload, 1) := by decide +kernel
theorem dX4_receive_45 : decode cX4_receive 45 = .ok (.iconst 3, 1) := by decide +kernel
theorem dX4_receive_46 : decode cX4_receive 46 = .ok (.if_icmp .ne 11, 3) := by decide +kernel
theorem dX4_receive_49 : decode cX4_receive 49 = .ok (.aload_n 0, 1) := by decide +kernel
theorem dX4_receive_50 : decode cX4_receive 50 = .ok (.iload_n 1, 1) := by decide +kernel
theorem dX4_receive_51 : decode cX4_receive 51 = .ok (.invokevirtual 204, 3) := by decide +kernel
theorem dX4_receive_54 : decode cX4_receive 54 = .ok (.goto 8, 3) := by decide +kernel
theorem dX4_receive_57 : decode cX4_receive 57 = .ok (.aload_n 0, 1) := by decide +kernel
theorem dX4_receive_58 : decode cX4_receive 58 = .ok (.iload_n 1, 1) := by decide +kernel
theorem dX4_receive_59 : decode cX4_receive 59 = .ok (.invokevirtual 207, 3) := by decide +kernel
theorem dX4_receive_62 : decode cX4_receive 62 = .ok (.ireturn, 1) := by decide +kernel
theorem dX4_lose_0 : decode cX4_lose 0 = .ok (.aload_n 0, 1) := by decide +kernel
theorem dX4_lose_1 : decode cX4_lose 1 = .ok (.iconst 0, 1) := by decide +kernel
theorem dX4_lose_2 : decode cX4_lose 2 = .ok (.putfield 120, 3) := by decide +kernel
theorem dX4_lose_5 : decode cX4_lose 5 = .ok (.iload_n 1, 1) := by decide +kernel
theorem dX4_lose_6 : decode cX4_lose 6 = .ok (.iconst 1, 1) := by decide +kernel
theorem dX4_lose_7 : decode cX4_lose 7 = .ok (.if_icmp .lt 24, 3) := by decide +kernel
theorem dX4_lose_10 : decode cX4_lose 10 = .ok (.iload_n 1, 1) := by decide +kernel
theorem dX4_lose_11 : decode cX4_lose 11 = .ok (.aload_n 0, 1) := by decide +kernel
theorem dX4_lose_12 : decode cX4_lose 12 = .ok (.getfield 134, 3) := by decide +kernel
theorem dX4_lose_15 : decode cX4_lose 15 = .ok (.if_icmp .gt 16, 3) := by decide +kernel
theorem dX4_lose_18 : decode cX4_lose 18 = .ok (.aload_n 0, 1) := by decide +kernel
theorem dX4_lose_19 : decode cX4_lose 19 = .ok (.getfield 99, 3) := by decide +kernel
theorem dX4_lose_22 : decode cX4_lose 22 = .ok (.iload_n 1, 1) := by decide +kernel
theorem dX4_lose_23 : decode cX4_lose 23 = .ok (.baload, 1) := by decide +kernel
theorem dX4_lose_24 : decode cX4_lose 24 = .ok (.ifCond .ne 7, 3) := by decide +kernel
theorem dX4_lose_27 : decode cX4_lose 27 = .ok (.iconst 1, 1) := by decide +kernel
theorem dX4_lose_28 : decode cX4_lose 28 = .ok (.goto 4, 3) := by decide +kernel
theorem dX4_lose_31 : decode cX4_lose 31 = .ok (.iconst 0, 1) := by decide +kernel
theorem dX4_lose_32 : decode cX4_lose 32 = .ok (.istore_n 2, 1) := by decide +kernel
theorem dX4_lose_33 : decode cX4_lose 33 = .ok (.iload_n 2, 1) := by decide +kernel
theorem dX4_lose_34 : decode cX4_lose 34 = .ok (.ifCond .eq 10, 3) := by decide +kernel
theorem dX4_lose_37 : decode cX4_lose 37 = .ok (.aload_n 0, 1) := by decide +kernel
theorem dX4_lose_38 : decode cX4_lose 38 = .ok (.getfield 99, 3) := by decide +kernel
theorem dX4_lose_41 : decode cX4_lose 41 = .ok (.iload_n 1, 1) := by decide +kernel
theorem dX4_lose_42 : decode cX4_lose 42 = .ok (.iconst 1, 1) := by decide +kernel
theorem dX4_lose_43 : decode cX4_lose 43 = .ok (.bastore, 1) := by decide +kernel
theorem dX4_lose_44 : decode cX4_lose 44 = .ok (.iload_n 2, 1) := by decide +kernel
theorem dX4_lose_45 : decode cX4_lose 45 = .ok (.ireturn, 1) := by decide +kernel
theorem dX4_flow_0 : decode cX4_flow 0 = .ok (.aload_n 0, 1) := by decide +kernel
theorem dX4_flow_1 : decode cX4_flow 1 = .ok (.iconst 0, 1) := by decide +kernel
theorem dX4_flow_2 : decode cX4_flow 2 = .ok (.putfield 120, 3) := by decide +kernel
theorem dX4_flow_5 : decode cX4_flow 5 = .ok (.iload_n 1, 1) := by decide +kernel
theorem dX4_flow_6 : decode cX4_flow 6 = .ok (.ifCond .lt 30, 3) := by decide +kernel
theorem dX4_flow_9 : decode cX4_flow 9 = .ok (.iload_n 1, 1) := by decide +kernel
theorem dX4_flow_10 : decode cX4_flow 10 = .ok (.sipush 255, 3) := by decide +kernel
theorem dX4_flow_13 : decode cX4_flow 13 = .ok (.if_icmp .gt 23, 3) := by decide +kernel
theorem dX4_flow_16 : decode cX4_flow 16 = .ok (.iload_n 2, 1) := by decide +kernel
theorem dX4_flow_17 : decode cX4_flow 17 = .ok (.ifCond .lt 19, 3) := by decide +kernel
theorem dX4_flow_20 : decode cX4_flow 20 = .ok (.iload_n 2, 1) := by decide +kernel
theorem dX4_flow_21 : decode cX4_flow 21 = .ok (.sipush 255, 3) := by decide +kernel
theorem dX4_flow_24 : decode cX4_flow 24 = .ok (.if_icmp .gt 12, 3) := by decide +kernel
theorem dX4_flow_27 : decode cX4_flow 27 = .ok (.iload_n 3, 1) := by decide +kernel
theorem dX4_flow_28 : decode cX4_flow 28 = .ok (.ifCond .lt 8, 3) := by decide +kernel
theorem dX4_flow_31 : decode cX4_flow 31 = .ok (.iload_n 3, 1) := by decide +kernel
theorem dX4_flow_32 : decode cX4_flow 32 = .ok (.iconst 2, 1) := by decide +kernel
theorem dX4_flow_33 : decode cX4_flow 33 = .ok (.if_icmp .le 6, 3) := by decide +kernel
theorem dX4_flow_36 : decode cX4_flow 36 = .ok (.bipush (-2), 2) := by decide +kernel
theorem dX4_flow_38 : decode cX4_flow 38 = .ok (.ireturn, 1) := by decide +kernel
theorem dX4_flow_39 : decode cX4_flow 39 = .ok (.aload_n 0, 1) := by decide +kernel
theorem dX4_flow_40 : decode cX4_flow 40 = .ok (.iload_n 1, 1) := by decide +kernel
theorem dX4_flow_41 : decode cX4_flow 41 = .ok (.putfield 156, 3) := by decide +kernel
theorem dX4_flow_44 : decode cX4_flow 44 = .ok (.aload_n 0, 1) := by decide +kernel
theorem dX4_flow_45 : decode cX4_flow 45 = .ok (.iload_n 2, 1) := by decide +kernel
theorem dX4_flow_46 : decode cX4_flow 46 = .ok (.putfield 159, 3) := by decide +kernel
theorem dX4_flow_49 : decode cX4_flow 49 = .ok (.aload_n 0, 1) := by decide +kernel
theorem dX4_flow_50 : decode cX4_flow 50 = .ok (.iload_n 3, 1) := by decide +kernel
theorem dX4_flow_51 : decode cX4_flow 51 = .ok (.putfield 153, 3) := by decide +kernel
theorem dX4_flow_54 : decode cX4_flow 54 = .ok (.iconst 1, 1) := by decide +kernel
theorem dX4_flow_55 : decode cX4_flow 55 = .ok (.ireturn, 1) := by decide +kernel
theorem dX4_frame_0 : decode cX4_frame 0 = .ok (.aload_n 0, 1) := by decide +kernel
theorem dX4_frame_1 : decode cX4_frame 1 = .ok (.iconst 0, 1) := by decide +kernel
theorem dX4_frame_2 : decode cX4_frame 2 = .ok (.putfield 120, 3) := by decide +kernel
theorem dX4_frame_5 : decode cX4_frame 5 = .ok (.iload_n 1, 1) := by decide +kernel
theorem dX4_frame_6 : decode cX4_frame 6 = .ok (.ifCond .ne 12, 3) := by decide +kernel
theorem dX4_frame_9 : decode cX4_frame 9 = .ok (.iload_n 2, 1) := by decide +kernel
theorem dX4_frame_10 : decode cX4_frame 10 = .ok (.ifCond .ne 8, 3) := by decide +kernel
theorem dX4_frame_13 : decode cX4_frame 13 = .ok (.aload_n 0, 1) := by decide +kernel
theorem dX4_frame_14 : decode cX4_frame 14 = .ok (.getfield 134, 3) := by decide +kernel
theorem dX4_frame_17 : decode cX4_frame 17 = .ok (.ireturn, 1) := by decide +kernel
theorem dX4_frame_18 : decode cX4_frame 18 = .ok (.iload_n 1, 1) := by decide +kernel
theorem dX4_frame_19 : decode cX4_frame 19 = .ok (.iconst 1, 1) := by decide +kernel
theorem dX4_frame_20 : decode cX4_frame 20 = .ok (.if_icmp .lt 11, 3) := by decide +kernel
theorem dX4_frame_23 : decode cX4_frame 23 = .ok (.iload_n 1, 1) := by decide +kernel
theorem dX4_frame_24 : decode cX4_frame 24 = .ok (.aload_n 0, 1) := by decide +kernel
theorem dX4_frame_25 : decode cX4_frame 25 = .ok (.getfield 134, 3) := by decide +kernel
theorem dX4_frame_28 : decode cX4_frame 28 = .ok (.if_icmp .le 5, 3) := by decide +kernel
theorem dX4_frame_31 : decode cX4_frame 31 = .ok (.iconst (-1), 1) := by decide +kernel
theorem dX4_frame_32 : decode cX4_frame 32 = .ok (.ireturn, 1) := by decide +kernel
theorem dX4_frame_33 : decode cX4_frame 33 = .ok (.iload_n 2, 1) := by decide +kernel
theorem dX4_frame_34 : decode cX4_frame 34 = .ok (.bipush 8, 2) := by decide +kernel
theorem dX4_frame_36 : decode cX4_frame 36 = .ok (.if_icmp .lt 55, 3) := by decide +kernel
theorem dX4_frame_39 : decode cX4_frame 39 = .ok (.iload_n 2, 1) := by decide +kernel
theorem dX4_frame_40 : decode cX4_frame 40 = .ok (.bipush 15, 2) := by decide +kernel
theorem dX4_frame_42 : decode cX4_frame 42 = .ok (.if_icmp .ge 49, 3) := by decide +kernel
theorem dX4_frame_45 : decode cX4_frame 45 = .ok (.aload_n 0, 1) := by decide +kernel
theorem dX4_frame_46 : decode cX4_frame 46 = .ok (.getfield 81, 3) := by decide +kernel
theorem dX4_frame_49 : decode cX4_frame 49 = .ok (.iload_n 1, 1) := by decide +kernel
theorem dX4_frame_50 : decode cX4_frame 50 = .ok (.iaload, 1) := by decide +kernel
theorem dX4_frame_51 : decode cX4_frame 51 = .ok (.iconst 3, 1) := by decide +kernel
theorem dX4_frame_52 : decode cX4_frame 52 = .ok (.if_icmp .ge 37, 3) := by decide +kernel
theorem dX4_frame_55 : decode cX4_frame 55 = .ok (.iload_n 2, 1) := by decide +kernel
theorem dX4_frame_56 : decode cX4_frame 56 = .ok (.bipush 8, 2) := by decide +kernel
theorem dX4_frame_58 : decode cX4_frame 58 = .ok (.isub, 1) := by decide +kernel
theorem dX4_frame_59 : decode cX4_frame 59 = .ok (.aload_n 0, 1) := by decide +kernel
theorem dX4_frame_60 : decode cX4_frame 60 = .ok (.getfield 90, 3) := by decide +kernel
theorem dX4_frame_63 : decode cX4_frame 63 = .ok (.iload_n 1, 1) := by decide +kernel
theorem dX4_frame_64 : decode cX4_frame 64 = .ok (.iaload, 1) := by decide +kernel
theorem dX4_frame_65 : decode cX4_frame 65 = .ok (.if_icmp .ge 24, 3) := by decide +kernel
theorem dX4_frame_68 : decode cX4_frame 68 = .ok (.aload_n 0, 1) := by decide +kernel
theorem dX4_frame_69 : decode cX4_frame 69 = .ok (.getfield 103, 3) := by decide +kernel
theorem dX4_frame_72 : decode cX4_frame 72 = .ok (.bipush 7, 2) := by decide +kernel
theorem dX4_frame_74 : decode cX4_frame 74 = .ok (.iload_n 1, 1) := by decide +kernel
theorem dX4_frame_75 : decode cX4_frame 75 = .ok (.imul, 1) := by decide +kernel
theorem dX4_frame_76 : decode cX4_frame 76 = .ok (.iload_n 2, 1) := by decide +kernel
theorem dX4_frame_77 : decode cX4_frame 77 = .ok (.iadd, 1) := by decide +kernel
theorem dX4_frame_78 : decode cX4_frame 78 = .ok (.bipush 8, 2) := by decide +kernel
theorem dX4_frame_80 : decode cX4_frame 80 = .ok (.isub, 1) := by decide +kernel
theorem dX4_frame_81 : decode cX4_frame 81 = .ok (.baload, 1) := by decide +kernel
theorem dX4_frame_82 : decode cX4_frame 82 = .ok (.sipush 255, 3) := by decide +kernel
theorem dX4_frame_85 : decode cX4_frame 85 = .ok (.iand, 1) := by decide +kernel
theorem dX4_frame_86 : decode cX4_frame 86 = .ok (.goto 4, 3) := by decide +kernel
theorem dX4_frame_89 : decode cX4_frame 89 = .ok (.iconst 0, 1) := by decide +kernel
theorem dX4_frame_90 : decode cX4_frame 90 = .ok (.ireturn, 1) := by decide +kernel
theorem dX4_frame_91 : decode cX4_frame 91 = .ok (.iload_n 2, 1) := by decide +kernel
theorem dX4_frame_92 : decode cX4_frame 92 = .ok (.ifCond .ne 10, 3) := by decide +kernel
theorem dX4_frame_95 : decode cX4_frame 95 = .ok (.aload_n 0, 1) := by decide +kernel
theorem dX4_frame_96 : decode cX4_frame 96 = .ok (.getfield 81, 3) := by decide +kernel
theorem dX4_frame_99 : decode cX4_frame 99 = .ok (.iload_n 1, 1) := by decide +kernel
theorem dX4_frame_100 : decode cX4_frame 100 = .ok (.iaload, 1) := by decide +kernel
theorem dX4_frame_101 : decode cX4_frame 101 = .ok (.ireturn, 1) := by decide +kernel
theorem dX4_frame_102 : decode cX4_frame 102 = .ok (.iload_n 2, 1) := by decide +kernel
theorem dX4_frame_103 : decode cX4_frame 103 = .ok (.iconst 1, 1) := by decide +kernel
theorem dX4_frame_104 : decode cX4_frame 104 = .ok (.if_icmp .ne 10, 3) := by decide +kernel
theorem dX4_frame_107 : decode cX4_frame 107 = .ok (.aload_n 0, 1) := by decide +kernel
theorem dX4_frame_108 : decode cX4_frame 108 = .ok (.getfield 84, 3) := by decide +kernel
theorem dX4_frame_111 : decode cX4_frame 111 = .ok (.iload_n 1, 1) := by decide +kernel
theorem dX4_frame_112 : decode cX4_frame 112 = .ok (.iaload, 1) := by decide +kernel
theorem dX4_frame_113 : decode cX4_frame 113 = .ok (.ireturn, 1) := by decide +kernel
theorem dX4_frame_114 : decode cX4_frame 114 = .ok (.iload_n 2, 1) := by decide +kernel
theorem dX4_frame_115 : decode cX4_frame 115 = .ok (.iconst 2, 1) := by decide +kernel
theorem dX4_frame_116 : decode cX4_frame 116 = .ok (.if_icmp .ne 10, 3) := by decide +kernel
theorem dX4_frame_119 : decode cX4_frame 119 = .ok (.aload_n 0, 1) := by decide +kernel
theorem dX4_frame_120 : decode cX4_frame 120 = .ok (.getfield 87, 3) := by decide +kernel
theorem dX4_frame_123 : decode cX4_frame 123 = .ok (.iload_n 1, 1) := by decide +kernel
theorem dX4_frame_124 : decode cX4_frame 124 = .ok (.iaload, 1) := by decide +kernel
theorem dX4_frame_125 : decode cX4_frame 125 = .ok (.ireturn, 1) := by decide +kernel
theorem dX4_frame_126 : decode cX4_frame 126 = .ok (.iload_n 2, 1) := by decide +kernel
theorem dX4_frame_127 : decode cX4_frame 127 = .ok (.iconst 3, 1) := by decide +kernel
theorem dX4_frame_128 : decode cX4_frame 128 = .ok (.if_icmp .ne 10, 3) := by decide +kernel
theorem dX4_frame_131 : decode cX4_frame 131 = .ok (.aload_n 0, 1) := by decide +kernel
theorem dX4_frame_132 : decode cX4_frame 132 = .ok (.getfield 90, 3) := by decide +kernel
theorem dX4_frame_135 : decode cX4_frame 135 = .ok (.iload_n 1, 1) := by decide +kernel
theorem dX4_frame_136 : decode cX4_frame 136 = .ok (.iaload, 1) := by decide +kernel
theorem dX4_frame_137 : decode cX4_frame 137 = .ok (.ireturn, 1) := by decide +kernel
theorem dX4_frame_138 : decode cX4_frame 138 = .ok (.iload_n 2, 1) := by decide +kernel
theorem dX4_frame_139 : decode cX4_frame 139 = .ok (.iconst 4, 1) := by decide +kernel
theorem dX4_frame_140 : decode cX4_frame 140 = .ok (.if_icmp .ne 11, 3) := by decide +kernel
theorem dX4_frame_143 : decode cX4_frame 143 = .ok (.aload_n 0, 1) := by decide +kernel
theorem dX4_frame_144 : decode cX4_frame 144 = .ok (.getfield 96, 3) := by decide +kernel
theorem dX4_frame_147 : decode cX4_frame 147 = .ok (.iload_n 1, 1) := by decide +kernel
theorem dX4_frame_148 : decode cX4_frame 148 = .ok (.laload, 1) := by decide +kernel
theorem dX4_frame_149 : decode cX4_frame 149 = .ok (.l2i, 1) := by decide +kernel
theorem dX4_frame_150 : decode cX4_frame 150 = .ok (.ireturn, 1) := by decide +kernel
theorem dX4_frame_151 : decode cX4_frame 151 = .ok (.iload_n 2, 1) := by decide +kernel
theorem dX4_frame_152 : decode cX4_frame 152 = .ok (.iconst 5, 1) := by decide +kernel
theorem dX4_frame_153 : decode cX4_frame 153 = .ok (.if_icmp .ne 12, 3) := by decide +kernel
theorem dX4_frame_156 : decode cX4_frame 156 = .ok (.aload_n 0, 1) := by decide +kernel
theorem dX4_frame_157 : decode cX4_frame 157 = .ok (.getfield 93, 3) := by decide +kernel
theorem dX4_frame_160 : decode cX4_frame 160 = .ok (.iload_n 1, 1) := by decide +kernel
theorem dX4_frame_161 : decode cX4_frame 161 = .ok (.iaload, 1) := by decide +kernel
theorem dX4_frame_162 : decode cX4_frame 162 = .ok (.goto 5, 3) := by decide +kernel
theorem dX4_frame_165 : decode cX4_frame 165 = .ok (.bipush (-2), 2) := by decide +kernel
theorem dX4_frame_167 : decode cX4_frame 167 = .ok (.ireturn, 1) := by decide +kernel
theorem dX4_got_0 : decode cX4_got 0 = .ok (.aload_n 0, 1) := by decide +kernel
theorem dX4_got_1 : decode cX4_got 1 = .ok (.iload_n 1, 1) := by decide +kernel
theorem dX4_got_2 : decode cX4_got 2 = .ok (.ifCond .lt 11, 3) := by decide +kernel
theorem dX4_got_5 : decode cX4_got 5 = .ok (.iload_n 1, 1) := by decide +kernel
theorem dX4_got_6 : decode cX4_got 6 = .ok (.aload_n 0, 1) := by decide +kernel
theorem dX4_got_7 : decode cX4_got 7 = .ok (.getfield 165, 3) := by decide +kernel
theorem dX4_got_10 : decode cX4_got 10 = .ok (.if_icmp .lt 7, 3) := by decide +kernel
theorem dX4_got_13 : decode cX4_got 13 = .ok (.iconst 1, 1) := by decide +kernel
theorem dX4_got_14 : decode cX4_got 14 = .ok (.goto 4, 3) := by decide +kernel
theorem dX4_got_17 : decode cX4_got 17 = .ok (.iconst 0, 1) := by decide +kernel
theorem dX4_got_18 : decode cX4_got 18 = .ok (.putfield 120, 3) := by decide +kernel
theorem dX4_got_21 : decode cX4_got 21 = .ok (.aload_n 0, 1) := by decide +kernel
theorem dX4_got_22 : decode cX4_got 22 = .ok (.getfield 120, 3) := by decide +kernel
theorem dX4_got_25 : decode cX4_got 25 = .ok (.ifCond .le 7, 3) := by decide +kernel
theorem dX4_got_28 : decode cX4_got 28 = .ok (.iconst 0, 1) := by decide +kernel
theorem dX4_got_29 : decode cX4_got 29 = .ok (.goto 9, 3) := by decide +kernel
theorem dX4_got_32 : decode cX4_got 32 = .ok (.aload_n 0, 1) := by decide +kernel
theorem dX4_got_33 : decode cX4_got 33 = .ok (.getfield 110, 3) := by decide +kernel
theorem dX4_got_36 : decode cX4_got 36 = .ok (.iload_n 1, 1) := by decide +kernel
theorem dX4_got_37 : decode cX4_got 37 = .ok (.baload, 1) := by decide +kernel
theorem dX4_got_38 : decode cX4_got 38 = .ok (.ireturn, 1) := by decide +kernel
theorem dX4_length_0 : decode cX4_length 0 = .ok (.aload_n 0, 1) := by decide +kernel
theorem dX4_length_1 : decode cX4_length 1 = .ok (.iconst 0, 1) := by decide +kernel
theorem dX4_length_2 : decode cX4_length 2 = .ok (.putfield 120, 3) := by decide +kernel
theorem dX4_length_5 : decode cX4_length 5 = .ok (.aload_n 0, 1) := by decide +kernel
theorem dX4_length_6 : decode cX4_length 6 = .ok (.getfield 165, 3) := by decide +kernel
theorem dX4_length_9 : decode cX4_length 9 = .ok (.ireturn, 1) := by decide +kernel
theorem dX4_ended_0 : decode cX4_ended 0 = .ok (.aload_n 0, 1) := by decide +kernel
theorem dX4_ended_1 : decode cX4_ended 1 = .ok (.iconst 0, 1) := by decide +kernel
theorem dX4_ended_2 : decode cX4_ended 2 = .ok (.putfield 120, 3) := by decide +kernel
theorem dX4_ended_5 : decode cX4_ended 5 = .ok (.iload_n 1, 1) := by decide +kernel
theorem dX4_ended_6 : decode cX4_ended 6 = .ok (.ifCond .lt 9, 3) := by decide +kernel
theorem dX4_ended_9 : decode cX4_ended 9 = .ok (.iload_n 1, 1) := by decide +kernel
theorem dX4_ended_10 : decode cX4_ended 10 = .ok (.bipush 7, 2) := by decide +kernel
theorem dX4_ended_12 : decode cX4_ended 12 = .ok (.if_icmp .le 8, 3) := by decide +kernel
theorem dX4_ended_15 : decode cX4_ended 15 = .ok (.bipush (-2), 2) := by decide +kernel
theorem dX4_ended_17 : decode cX4_ended 17 = .ok (.goto 9, 3) := by decide +kernel
theorem dX4_ended_20 : decode cX4_ended 20 = .ok (.aload_n 0, 1) := by decide +kernel
theorem dX4_ended_21 : decode cX4_ended 21 = .ok (.getfield 113, 3) := by decide +kernel
theorem dX4_ended_24 : decode cX4_ended 24 = .ok (.iload_n 1, 1) := by decide +kernel
theorem dX4_ended_25 : decode cX4_ended 25 = .ok (.iaload, 1) := by decide +kernel
theorem dX4_ended_26 : decode cX4_ended 26 = .ok (.ireturn, 1) := by decide +kernel
theorem dX4_wait2_0 : decode cX4_wait2 0 = .ok (.aload_n 0, 1) := by decide +kernel
theorem dX4_wait2_1 : decode cX4_wait2 1 = .ok (.iconst 0, 1) := by decide +kernel
theorem dX4_wait2_2 : decode cX4_wait2 2 = .ok (.putfield 120, 3) := by decide +kernel
theorem dX4_wait2_5 : decode cX4_wait2 5 = .ok (.iload_n 1, 1) := by decide +kernel
theorem dX4_wait2_6 : decode cX4_wait2 6 = .ok (.ifCond .lt 9, 3) := by decide +kernel
theorem dX4_wait2_9 : decode cX4_wait2 9 = .ok (.iload_n 1, 1) := by decide +kernel
theorem dX4_wait2_10 : decode cX4_wait2 10 = .ok (.bipush 100, 2) := by decide +kernel
theorem dX4_wait2_12 : decode cX4_wait2 12 = .ok (.if_icmp .le 6, 3) := by decide +kernel
theorem dX4_wait2_15 : decode cX4_wait2 15 = .ok (.bipush (-2), 2) := by decide +kernel
theorem dX4_wait2_17 : decode cX4_wait2 17 = .ok (.ireturn, 1) := by decide +kernel
theorem dX4_wait2_18 : decode cX4_wait2 18 = .ok (.aload_n 0, 1) := by decide +kernel
theorem dX4_wait2_19 : decode cX4_wait2 19 = .ok (.getfield 106, 3) := by decide +kernel
theorem dX4_wait2_22 : decode cX4_wait2 22 = .ok (.istore_n 2, 1) := by decide +kernel
theorem dX4_wait2_23 : decode cX4_wait2 23 = .ok (.aload_n 0, 1) := by decide +kernel
theorem dX4_wait2_24 : decode cX4_wait2 24 = .ok (.iload_n 1, 1) := by decide +kernel
theorem dX4_wait2_25 : decode cX4_wait2 25 = .ok (.putfield 106, 3) := by decide +kernel
theorem dX4_wait2_28 : decode cX4_wait2 28 = .ok (.iload_n 2, 1) := by decide +kernel
theorem dX4_wait2_29 : decode cX4_wait2 29 = .ok (.ireturn, 1) := by decide +kernel
theorem dX4_functional_0 : decode cX4_functional 0 = .ok (.aload_n 0, 1) := by decide +kernel
theorem dX4_functional_1 : decode cX4_functional 1 = .ok (.iconst 0, 1) := by decide +kernel
theorem dX4_functional_2 : decode cX4_functional 2 = .ok (.putfield 120, 3) := by decide +kernel
theorem dX4_functional_5 : decode cX4_functional 5 = .ok (.aload_n 0, 1) := by decide +kernel
theorem dX4_functional_6 : decode cX4_functional 6 = .ok (.iload_n 1, 1) := by decide +kernel
theorem dX4_functional_7 : decode cX4_functional 7 = .ok (.putfield 126, 3) := by decide +kernel
theorem dX4_functional_10 : decode cX4_functional 10 = .ok (.aload_n 0, 1) := by decide +kernel
theorem dX4_functional_11 : decode cX4_functional 11 = .ok (.getfield 123, 3) := by decide +kernel
theorem dX4_functional_14 : decode cX4_functional 14 = .ok (.ireturn, 1) := by decide +kernel
