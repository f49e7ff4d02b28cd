theorem dX9_check_35 : decode cX9_check 35 = .ok (.iload_n 3, 1) := by decide +kernel
theorem dX9_check_36 : decode cX9_check 36 = .ok (.iconst 1, 1) := by decide +kernel
theorem dX9_check_37 : decode cX9_check 37 = .ok (.iand, 1) := by decide +kernel
theorem dX9_check_38 : decode cX9_check 38 = .ok (.iconst 1, 1) := by decide +kernel
theorem dX9_check_39 : decode cX9_check 39 = .ok (.if_icmp .ne 12, 3) := by decide +kernel
theorem dX9_check_42 : decode cX9_check 42 = .ok (.iload_n 3, 1) := by decide +kernel
theorem dX9_check_43 : decode cX9_check 43 = .ok (.iconst 1, 1) := by decide +kernel
theorem dX9_check_44 : decode cX9_check 44 = .ok (.iushr, 1) := by decide +kernel
theorem dX9_check_45 : decode cX9_check 45 = .ok (.ldc 73, 2) := by decide +kernel
theorem dX9_check_47 : decode cX9_check 47 = .ok (.ixor, 1) := by decide +kernel
theorem dX9_check_48 : decode cX9_check 48 = .ok (.goto 6, 3) := by decide +kernel
theorem dX9_check_51 : decode cX9_check 51 = .ok (.iload_n 3, 1) := by decide +kernel
theorem dX9_check_52 : decode cX9_check 52 = .ok (.iconst 1, 1) := by decide +kernel
theorem dX9_check_53 : decode cX9_check 53 = .ok (.iushr, 1) := by decide +kernel
theorem dX9_check_54 : decode cX9_check 54 = .ok (.istore_n 3, 1) := by decide +kernel
theorem dX9_check_55 : decode cX9_check 55 = .ok (.iinc 5 1, 3) := by decide +kernel
theorem dX9_check_58 : decode cX9_check 58 = .ok (.goto (-30), 3) := by decide +kernel
theorem dX9_check_61 : decode cX9_check 61 = .ok (.iinc 4 1, 3) := by decide +kernel
theorem dX9_check_64 : decode cX9_check 64 = .ok (.goto (-59), 3) := by decide +kernel
theorem dX9_check_67 : decode cX9_check 67 = .ok (.iload_n 3, 1) := by decide +kernel
theorem dX9_check_68 : decode cX9_check 68 = .ok (.iconst (-1), 1) := by decide +kernel
theorem dX9_check_69 : decode cX9_check 69 = .ok (.ixor, 1) := by decide +kernel
theorem dX9_check_70 : decode cX9_check 70 = .ok (.ireturn, 1) := by decide +kernel
set_option maxRecDepth 20000 in
theorem ggX9_files_X9_check : GoodIn wsX9_files wsX9_check := goodIn_r _ [7, 2, 8, 13, 14, 15, 16, 17, 18, 19, 20, 21, 22, 23, 24, 25, 26, 27, 28, 29, 30, 31, 32, 33, 34, 35, 36, 37, 38, 39, 40, 41, 42, 43, 44, 45, 46, 47, 48, 49, 50, 51] (by decide +kernel) (by decide +kernel)
set_option maxRecDepth 20000 in
theorem gX9_files_X9_check : GoodIn wsX9_files (wsV RX9 74 RX9 yX9_check wsX9_check) := goodIn_app (goodIn_of _ (by decide +kernel)) ggX9_files_X9_check
set_option maxRecDepth 20000 in
theorem ggX9_files_X9_imageWord : GoodIn wsX9_files wsX9_imageWord := goodIn_r _ [12, 2, 13, 14, 15, 16, 17, 18, 19, 20, 21, 22, 23, 24, 25, 26, 27, 28, 29, 30, 31, 32, 33, 34, 35, 36, 37, 38, 39, 40, 41, 42, 43, 44, 45, 46, 47, 48, 49, 50, 51] (by decide +kernel) (by decide +kernel)
set_option maxRecDepth 20000 in
theorem gX9_files_X9_imageWord : GoodIn wsX9_files (wsV RX9 78 RX9 yX9_imageWord wsX9_imageWord) := goodIn_app (goodIn_of _ (by decide +kernel)) ggX9_files_X9_imageWord
theorem dX9_files_0 : decode cX9_files 0 = .ok (.aload_n 0, 1) := by decide +kernel
theorem dX9_files_1 : decode cX9_files 1 = .ok (.getfield 54, 3) := by decide +kernel
theorem dX9_files_4 : decode cX9_files 4 = .ok (.bipush 12, 2) := by decide +kernel
theorem dX9_files_6 : decode cX9_files 6 = .ok (.if_icmp .lt 67, 3) := by decide +kernel
theorem dX9_files_9 : decode cX9_files 9 = .ok (.aload_n 0, 1) := by decide +kernel
theorem dX9_files_10 : decode cX9_files 10 = .ok (.getfield 15, 3) := by decide +kernel
theorem dX9_files_13 : decode cX9_files 13 = .ok (.iconst 0, 1) := by decide +kernel
theorem dX9_files_14 : decode cX9_files 14 = .ok (.baload, 1) := by decide +kernel
theorem dX9_files_15 : decode cX9_files 15 = .ok (.bipush 83, 2) := by decide +kernel
theorem dX9_files_17 : decode cX9_files 17 = .ok (.if_icmp .ne 56, 3) := by decide +kernel
theorem dX9_files_20 : decode cX9_files 20 = .ok (.aload_n 0, 1) := by decide +kernel
theorem dX9_files_21 : decode cX9_files 21 = .ok (.getfield 15, 3) := by decide +kernel
theorem dX9_files_24 : decode cX9_files 24 = .ok (.iconst 1, 1) := by decide +kernel
theorem dX9_files_25 : decode cX9_files 25 = .ok (.baload, 1) := by decide +kernel
theorem dX9_files_26 : decode cX9_files 26 = .ok (.bipush 84, 2) := by decide +kernel
theorem dX9_files_28 : decode cX9_files 28 = .ok (.if_icmp .ne 45, 3) := by decide +kernel
theorem dX9_files_31 : decode cX9_files 31 = .ok (.aload_n 0, 1) := by decide +kernel
theorem dX9_files_32 : decode cX9_files 32 = .ok (.getfield 15, 3) := by decide +kernel
theorem dX9_files_35 : decode cX9_files 35 = .ok (.iconst 2, 1) := by decide +kernel
theorem dX9_files_36 : decode cX9_files 36 = .ok (.baload, 1) := by decide +kernel
theorem dX9_files_37 : decode cX9_files 37 = .ok (.bipush 79, 2) := by decide +kernel
theorem dX9_files_39 : decode cX9_files 39 = .ok (.if_icmp .ne 34, 3) := by decide +kernel
theorem dX9_files_42 : decode cX9_files 42 = .ok (.aload_n 0, 1) := by decide +kernel
theorem dX9_files_43 : decode cX9_files 43 = .ok (.getfield 15, 3) := by decide +kernel
theorem dX9_files_46 : decode cX9_files 46 = .ok (.iconst 3, 1) := by decide +kernel
theorem dX9_files_47 : decode cX9_files 47 = .ok (.baload, 1) := by decide +kernel
theorem dX9_files_48 : decode cX9_files 48 = .ok (.bipush 82, 2) := by decide +kernel
theorem dX9_files_50 : decode cX9_files 50 = .ok (.if_icmp .ne 23, 3) := by decide +kernel
theorem dX9_files_53 : decode cX9_files 53 = .ok (.aload_n 0, 1) := by decide +kernel
theorem dX9_files_54 : decode cX9_files 54 = .ok (.getfield 15, 3) := by decide +kernel
theorem dX9_files_57 : decode cX9_files 57 = .ok (.bipush 6, 2) := by decide +kernel
theorem dX9_files_59 : decode cX9_files 59 = .ok (.baload, 1) := by decide +kernel
theorem dX9_files_60 : decode cX9_files 60 = .ok (.ifCond .ne 13, 3) := by decide +kernel
theorem dX9_files_63 : decode cX9_files 63 = .ok (.aload_n 0, 1) := by decide +kernel
theorem dX9_files_64 : decode cX9_files 64 = .ok (.getfield 15, 3) := by decide +kernel
theorem dX9_files_67 : decode cX9_files 67 = .ok (.bipush 7, 2) := by decide +kernel
theorem dX9_files_69 : decode cX9_files 69 = .ok (.baload, 1) := by decide +kernel
theorem dX9_files_70 : decode cX9_files 70 = .ok (.ifCond .eq 5, 3) := by decide +kernel
theorem dX9_files_73 : decode cX9_files 73 = .ok (.iconst (-1), 1) := by decide +kernel
theorem dX9_files_74 : decode cX9_files 74 = .ok (.ireturn, 1) := by decide +kernel
theorem dX9_files_75 : decode cX9_files 75 = .ok (.aload_n 0, 1) := by decide +kernel
theorem dX9_files_76 : decode cX9_files 76 = .ok (.getfield 15, 3) := by decide +kernel
theorem dX9_files_79 : decode cX9_files 79 = .ok (.iconst 4, 1) := by decide +kernel
theorem dX9_files_80 : decode cX9_files 80 = .ok (.baload, 1) := by decide +kernel
theorem dX9_files_81 : decode cX9_files 81 = .ok (.sipush 255, 3) := by decide +kernel
theorem dX9_files_84 : decode cX9_files 84 = .ok (.iand, 1) := by decide +kernel
theorem dX9_files_85 : decode cX9_files 85 = .ok (.bipush 8, 2) := by decide +kernel
theorem dX9_files_87 : decode cX9_files 87 = .ok (.ishl, 1) := by decide +kernel
theorem dX9_files_88 : decode cX9_files 88 = .ok (.aload_n 0, 1) := by decide +kernel
theorem dX9_files_89 : decode cX9_files 89 = .ok (.getfield 15, 3) := by decide +kernel
theorem dX9_files_92 : decode cX9_files 92 = .ok (.iconst 5, 1) := by decide +kernel
theorem dX9_files_93 : decode cX9_files 93 = .ok (.baload, 1) := by decide +kernel
theorem dX9_files_94 : decode cX9_files 94 = .ok (.sipush 255, 3) := by decide +kernel
theorem dX9_files_97 : decode cX9_files 97 = .ok (.iand, 1) := by decide +kernel
theorem dX9_files_98 : decode cX9_files 98 = .ok (.ior, 1) := by decide +kernel
theorem dX9_files_99 : decode cX9_files 99 = .ok (.istore_n 1, 1) := by decide +kernel
theorem dX9_files_100 : decode cX9_files 100 = .ok (.iload_n 1, 1) := by decide +kernel
theorem dX9_files_101 : decode cX9_files 101 = .ok (.bipush 64, 2) := by decide +kernel
theorem dX9_files_103 : decode cX9_files 103 = .ok (.if_icmp .gt 44, 3) := by decide +kernel
theorem dX9_files_106 : decode cX9_files 106 = .ok (.aload_n 0, 1) := by decide +kernel
theorem dX9_files_107 : decode cX9_files 107 = .ok (.getfield 54, 3) := by decide +kernel
theorem dX9_files_110 : decode cX9_files 110 = .ok (.bipush 12, 2) := by decide +kernel
theorem dX9_files_112 : decode cX9_files 112 = .ok (.bipush 64, 2) := by decide +kernel
theorem dX9_files_114 : decode cX9_files 114 = .ok (.iload_n 1, 1) := by decide +kernel
theorem dX9_files_115 : decode cX9_files 115 = .ok (.imul, 1) := by decide +kernel
theorem dX9_files_116 : decode cX9_files 116 = .ok (.iadd, 1) := by decide +kernel
theorem dX9_files_117 : decode cX9_files 117 = .ok (.if_icmp .lt 30, 3) := by decide +kernel
theorem dX9_files_120 : decode cX9_files 120 = .ok (.aload_n 0, 1) := by decide +kernel
theorem dX9_files_121 : decode cX9_files 121 = .ok (.iconst 0, 1) := by decide +kernel
theorem dX9_files_122 : decode cX9_files 122 = .ok (.bipush 8, 2) := by decide +kernel
theorem dX9_files_124 : decode cX9_files 124 = .ok (.bipush 64, 2) := by decide +kernel
theorem dX9_files_126 : decode cX9_files 126 = .ok (.iload_n 1, 1) := by decide +kernel
theorem dX9_files_127 : decode cX9_files 127 = .ok (.imul, 1) := by decide +kernel
theorem dX9_files_128 : decode cX9_files 128 = .ok (.iadd, 1) := by decide +kernel
theorem dX9_files_129 : decode cX9_files 129 = .ok (.invokevirtual 74, 3) := by decide +kernel
theorem dX9_files_132 : decode cX9_files 132 = .ok (.aload_n 0, 1) := by decide +kernel
theorem dX9_files_133 : decode cX9_files 133 = .ok (.bipush 8, 2) := by decide +kernel
theorem dX9_files_135 : decode cX9_files 135 = .ok (.bipush 64, 2) := by decide +kernel
theorem dX9_files_137 : decode cX9_files 137 = .ok (.iload_n 1, 1) := by decide +kernel
theorem dX9_files_138 : decode cX9_files 138 = .ok (.imul, 1) := by decide +kernel
theorem dX9_files_139 : decode cX9_files 139 = .ok (.iadd, 1) := by decide +kernel
theorem dX9_files_140 : decode cX9_files 140 = .ok (.invokevirtual 78, 3) := by decide +kernel
theorem dX9_files_143 : decode cX9_files 143 = .ok (.l2i, 1) := by decide +kernel
theorem dX9_files_144 : decode cX9_files 144 = .ok (.if_icmp .eq 5, 3) := by decide +kernel
theorem dX9_files_147 : decode cX9_files 147 = .ok (.iconst (-1), 1) := by decide +kernel
theorem dX9_files_148 : decode cX9_files 148 = .ok (.ireturn, 1) := by decide +kernel
theorem dX9_files_149 : decode cX9_files 149 = .ok (.iconst 0, 1) := by decide +kernel
theorem dX9_files_150 : decode cX9_files 150 = .ok (.istore_n 2, 1) := by decide +kernel
theorem dX9_files_151 : decode cX9_files 151 = .ok (.iload_n 2, 1) := by decide +kernel
theorem dX9_files_152 : decode cX9_files 152 = .ok (.iload_n 1, 1) := by decide +kernel
theorem dX9_files_153 : decode cX9_files 153 = .ok (.if_icmp .ge 250, 3) := by decide +kernel
theorem dX9_files_156 : decode cX9_files 156 = .ok (.bipush 8, 2) := by decide +kernel
theorem dX9_files_158 : decode cX9_files 158 = .ok (.bipush 64, 2) := by decide +kernel
theorem dX9_files_160 : decode cX9_files 160 = .ok (.iload_n 2, 1) := by decide +kernel
theorem dX9_files_161 : decode cX9_files 161 = .ok (.imul, 1) := by decide +kernel
theorem dX9_files_162 : decode cX9_files 162 = .ok (.iadd, 1) := by decide +kernel
theorem dX9_files_163 : decode cX9_files 163 = .ok (.istore_n 3, 1) := by decide +kernel
theorem dX9_files_164 : decode cX9_files 164 = .ok (.iconst 0, 1) := by decide +kernel
theorem dX9_files_165 : decode cX9_files 165 = .ok (.istore 4, 2) := by decide +kernel
theorem dX9_files_167 : decode cX9_files 167 = .ok (.iload 4, 2) := by decide +kernel
theorem dX9_files_169 : decode cX9_files 169 = .ok (.bipush 48, 2) := by decide +kernel
theorem dX9_files_171 : decode cX9_files 171 = .ok (.if_icmp .ge 21, 3) := by decide +kernel
theorem dX9_files_174 : decode cX9_files 174 = .ok (.aload_n 0, 1) := by decide +kernel
theorem dX9_files_175 : decode cX9_files 175 = .ok (.getfield 15, 3) := by decide +kernel
theorem dX9_files_178 : decode cX9_files 178 = .ok (.iload_n 3, 1) := by decide +kernel
theorem dX9_files_179 : decode cX9_files 179 = .ok (.iload 4, 2) := by decide +kernel
theorem dX9_files_181 : decode cX9_files 181 = .ok (.iadd, 1) := by decide +kernel
theorem dX9_files_182 : decode cX9_files 182 = .ok (.baload, 1) := by decide +kernel
theorem dX9_files_183 : decode cX9_files 183 = .ok (.ifCond .eq 9, 3) := by decide +kernel
theorem dX9_files_186 : decode cX9_files 186 = .ok (.iinc 4 1, 3) := by decide +kernel
theorem dX9_files_189 : decode cX9_files 189 = .ok (.goto (-22), 3) := by decide +kernel
theorem dX9_files_192 : decode cX9_files 192 = .ok (.iload 4, 2) := by decide +kernel
theorem dX9_files_194 : decode cX9_files 194 = .ok (.ifCond .eq 21, 3) := by decide +kernel
theorem dX9_files_197 : decode cX9_files 197 = .ok (.iload 4, 2) := by decide +kernel
theorem dX9_files_199 : decode cX9_files 199 = .ok (.bipush 48, 2) := by decide +kernel
theorem dX9_files_201 : decode cX9_files 201 = .ok (.if_icmp .eq 14, 3) := by decide +kernel
theorem dX9_files_204 : decode cX9_files 204 = .ok (.aload_n 0, 1) := by decide +kernel
theorem dX9_files_205 : decode cX9_files 205 = .ok (.getfield 15, 3) := by decide +kernel
theorem dX9_files_208 : decode cX9_files 208 = .ok (.iload_n 3, 1) := by decide +kernel
theorem dX9_files_209 : decode cX9_files 209 = .ok (.baload, 1) := by decide +kernel
theorem dX9_files_210 : decode cX9_files 210 = .ok (.bipush 47, 2) := by decide +kernel
theorem dX9_files_212 : decode cX9_files 212 = .ok (.if_icmp .eq 5, 3) := by decide +kernel
theorem dX9_files_215 : decode cX9_files 215 = .ok (.iconst (-1), 1) := by decide +kernel
theorem dX9_files_216 : decode cX9_files 216 = .ok (.ireturn, 1) := by decide +kernel
theorem dX9_files_217 : decode cX9_files 217 = .ok (.iconst 0, 1) := by decide +kernel
theorem dX9_files_218 : decode cX9_files 218 = .ok (.istore 5, 2) := by decide +kernel
theorem dX9_files_220 : decode cX9_files 220 = .ok (.iload 5, 2) := by decide +kernel
theorem dX9_files_222 : decode cX9_files 222 = .ok (.bipush 48, 2) := by decide +kernel
theorem dX9_files_224 : decode cX9_files 224 = .ok (.if_icmp .ge 51, 3) := by decide +kernel
theorem dX9_files_227 : decode cX9_files 227 = .ok (.aload_n 0, 1) := by decide +kernel
theorem dX9_files_228 : decode cX9_files 228 = .ok (.getfield 15, 3) := by decide +kernel
theorem dX9_files_231 : decode cX9_files 231 = .ok (.iload_n 3, 1) := by decide +kernel
theorem dX9_files_232 : decode cX9_files 232 = .ok (.iload 5, 2) := by decide +kernel
theorem dX9_files_234 : decode cX9_files 234 = .ok (.iadd, 1) := by decide +kernel
theorem dX9_files_235 : decode cX9_files 235 = .ok (.baload, 1) := by decide +kernel
theorem dX9_files_236 : decode cX9_files 236 = .ok (.istore 6, 2) := by decide +kernel
theorem dX9_files_238 : decode cX9_files 238 = .ok (.iload 5, 2) := by decide +kernel
theorem dX9_files_240 : decode cX9_files 240 = .ok (.iload 4, 2) := by decide +kernel
theorem dX9_files_242 : decode cX9_files 242 = .ok (.if_icmp .ge 20, 3) := by decide +kernel
theorem dX9_files_245 : decode cX9_files 245 = .ok (.iload 6, 2) := by decide +kernel
theorem dX9_files_247 : decode cX9_files 247 = .ok (.bipush 33, 2) := by decide +kernel
theorem dX9_files_249 : decode cX9_files 249 = .ok (.if_icmp .lt 18, 3) := by decide +kernel
theorem dX9_files_252 : decode cX9_files 252 = .ok (.iload 6, 2) := by decide +kernel
theorem dX9_files_254 : decode cX9_files 254 = .ok (.bipush 126, 2) := by decide +kernel
theorem dX9_files_256 : decode cX9_files 256 = .ok (.if_icmp .le 13, 3) := by decide +kernel
theorem dX9_files_259 : decode cX9_files 259 = .ok (.goto 8, 3) := by decide +kernel
theorem dX9_files_262 : decode cX9_files 262 = .ok (.iload 6, 2) := by decide +kernel
theorem dX9_files_264 : decode cX9_files 264 = .ok (.ifCond .eq 5, 3) := by decide +kernel
theorem dX9_files_267 : decode cX9_files 267 = .ok (.iconst (-1), 1) := by decide +kernel
theorem dX9_files_268 : decode cX9_files 268 = .ok (.ireturn, 1) := by decide +kernel
theorem dX9_files_269 : decode cX9_files 269 = .ok (.iinc 5 1, 3) := by decide +kernel
theorem dX9_files_272 : decode cX9_files 272 = .ok (.goto (-52), 3) := by decide +kernel
theorem dX9_files_275 : decode cX9_files 275 = .ok (.aload_n 0, 1) := by decide +kernel
theorem dX9_files_276 : decode cX9_files 276 = .ok (.iload_n 3, 1) := by decide +kernel
theorem dX9_files_277 : decode cX9_files 277 = .ok (.bipush 48, 2) := by decide +kernel
theorem dX9_files_279 : decode cX9_files 279 = .ok (.iadd, 1) := by decide +kernel
theorem dX9_files_280 : decode cX9_files 280 = .ok (.invokevirtual 78, 3) := by decide +kernel
theorem dX9_files_283 : decode cX9_files 283 = .ok (.aload_n 0, 1) := by decide +kernel
theorem dX9_files_284 : decode cX9_files 284 = .ok (.iload_n 3, 1) := by decide +kernel
theorem dX9_files_285 : decode cX9_files 285 = .ok (.bipush 52, 2) := by decide +kernel
theorem dX9_files_287 : decode cX9_files 287 = .ok (.iadd, 1) := by decide +kernel
theorem dX9_files_288 : decode cX9_files 288 = .ok (.invokevirtual 78, 3) := by decide +kernel
theorem dX9_files_291 : decode cX9_files 291 = .ok (.ladd, 1) := by decide +kernel
theorem dX9_files_292 : decode cX9_files 292 = .ok (.aload_n 0, 1) := by decide +kernel
theorem dX9_files_293 : decode cX9_files 293 = .ok (.getfield 54, 3) := by decide +kernel
theorem dX9_files_296 : decode cX9_files 296 = .ok (.i2l, 1) := by decide +kernel
theorem dX9_files_297 : decode cX9_files 297 = .ok (.lcmp, 1) := by decide +kernel
theorem dX9_files_298 : decode cX9_files 298 = .ok (.ifCond .gt 16, 3) := by decide +kernel
theorem dX9_files_301 : decode cX9_files 301 = .ok (.aload_n 0, 1) := by decide +kernel
theorem dX9_files_302 : decode cX9_files 302 = .ok (.iload_n 3, 1) := by decide +kernel
theorem dX9_files_303 : decode cX9_files 303 = .ok (.bipush 60, 2) := by decide +kernel
theorem dX9_files_305 : decode cX9_files 305 = .ok (.iadd, 1) := by decide +kernel
theorem dX9_files_306 : decode cX9_files 306 = .ok (.invokevirtual 78, 3) := by decide +kernel
theorem dX9_files_309 : decode cX9_files 309 = .ok (.lconst 0, 1) := by decide +kernel
theorem dX9_files_310 : decode cX9_files 310 = .ok (.lcmp, 1) := by decide +kernel
theorem dX9_files_311 : decode cX9_files 311 = .ok (.ifCond .eq 5, 3) := by decide +kernel
theorem dX9_files_314 : decode cX9_files 314 = .ok (.iconst (-1), 1) := by decide +kernel
theorem dX9_files_315 : decode cX9_files 315 = .ok (.ireturn, 1) := by decide +kernel
theorem dX9_files_316 : decode cX9_files 316 = .ok (.iconst 0, 1) := by decide +kernel
theorem dX9_files_317 : decode cX9_files 317 = .ok (.istore 5, 2) := by decide +kernel
theorem dX9_files_319 : decode cX9_files 319 = .ok (.iload 5, 2) := by decide +kernel
theorem dX9_files_321 : decode cX9_files 321 = .ok (.iload_n 2, 1) := by decide +kernel
theorem dX9_files_322 : decode cX9_files 322 = .ok (.if_icmp .ge 75, 3) := by decide +kernel
theorem dX9_files_325 : decode cX9_files 325 = .ok (.iconst 1, 1) := by decide +kernel
theorem dX9_files_326 : decode cX9_files 326 = .ok (.istore 6, 2) := by decide +kernel
theorem dX9_files_328 : decode cX9_files 328 = .ok (.iconst 0, 1) := by decide +kernel
theorem dX9_files_329 : decode cX9_files 329 = .ok (.istore 7, 2) := by decide +kernel
theorem dX9_files_331 : decode cX9_files 331 = .ok (.iload 7, 2) := by decide +kernel
theorem dX9_files_333 : decode cX9_files 333 = .ok (.bipush 48, 2) := by decide +kernel
theorem dX9_files_335 : decode cX9_files 335 = .ok (.if_icmp .ge 49, 3) := by decide +kernel
theorem dX9_files_338 : decode cX9_files 338 = .ok (.iload 6, 2) := by decide +kernel
theorem dX9_files_340 : decode cX9_files 340 = .ok (.ifCond .eq 35, 3) := by decide +kernel
theorem dX9_files_343 : decode cX9_files 343 = .ok (.aload_n 0, 1) := by decide +kernel
theorem dX9_files_344 : decode cX9_files 344 = .ok (.getfield 15, 3) := by decide +kernel
theorem dX9_files_347 : decode cX9_files 347 = .ok (.iload_n 3, 1) := by decide +kernel
theorem dX9_files_348 : decode cX9_files 348 = .ok (.iload 7, 2) := by decide +kernel
theorem dX9_files_350 : decode cX9_files 350 = .ok (.iadd, 1) := by decide +kernel
theorem dX9_files_351 : decode cX9_files 351 = .ok (.baload, 1) := by decide +kernel
theorem dX9_files_352 : decode cX9_files 352 = .ok (.aload_n 0, 1) := by decide +kernel
theorem dX9_files_353 : decode cX9_files 353 = .ok (.getfield 15, 3) := by decide +kernel
theorem dX9_files_356 : decode cX9_files 356 = .ok (.bipush 8, 2) := by decide +kernel
theorem dX9_files_358 : decode cX9_files 358 = .ok (.bipush 64, 2) := by decide +kernel
theorem dX9_files_360 : decode cX9_files 360 = .ok (.iload 5, 2) := by decide +kernel
theorem dX9_files_362 : decode cX9_files 362 = .ok (.imul, 1) := by decide +kernel
theorem dX9_files_363 : decode cX9_files 363 = .ok (.iadd, 1) := by decide +kernel
theorem dX9_files_364 : decode cX9_files 364 = .ok (.iload 7, 2) := by decide +kernel
theorem dX9_files_366 : decode cX9_files 366 = .ok (.iadd, 1) := by decide +kernel
theorem dX9_files_367 : decode cX9_files 367 = .ok (.baload, 1) := by decide +kernel
theorem dX9_files_368 : decode cX9_files 368 = .ok (.if_icmp .ne 7, 3) := by decide +kernel
theorem dX9_files_371 : decode cX9_files 371 = .ok (.iconst 1, 1) := by decide +kernel
theorem dX9_files_372 : decode cX9_files 372 = .ok (.goto 4, 3) := by decide +kernel
theorem dX9_files_375 : decode cX9_files 375 = .ok (.iconst 0, 1) := by decide +kernel
theorem dX9_files_376 : decode cX9_files 376 = .ok (.istore 6, 2) := by decide +kernel
theorem dX9_files_378 : decode cX9_files 378 = .ok (.iinc 7 1, 3) := by decide +kernel
theorem dX9_files_381 : decode cX9_files 381 = .ok (.goto (-50), 3) := by decide +kernel
theorem dX9_files_384 : decode cX9_files 384 = .ok (.iload 6, 2) := by decide +kernel
theorem dX9_files_386 : decode cX9_files 386 = .ok (.ifCond .eq 5, 3) := by decide +kernel
theorem dX9_files_389 : decode cX9_files 389 = .ok (.iconst (-1), 1) := by decide +kernel
theorem dX9_files_390 : decode cX9_files 390 = .ok (.ireturn, 1) := by decide +kernel
theorem dX9_files_391 : decode cX9_files 391 = .ok (.iinc 5 1, 3) := by decide +kernel
theorem dX9_files_394 : decode cX9_files 394 = .ok (.goto (-75), 3) := by decide +kernel
theorem dX9_files_397 : decode cX9_files 397 = .ok (.iinc 2 1, 3) := by decide +kernel
theorem dX9_files_400 : decode cX9_files 400 = .ok (.goto (-249), 3) := by decide +kernel
theorem dX9_files_403 : decode cX9_files 403 = .ok (.iload_n 1, 1) := by decide +kernel
theorem dX9_files_404 : decode cX9_files 404 = .ok (.ireturn, 1) := by decide +kernel
set_option maxRecDepth 20000 in
theorem ggX9_open_X9_files : GoodIn wsX9_open wsX9_files := goodIn_r _ [12, 13, 4, 14, 15, 16, 11, 17, 18, 19, 20, 21, 22, 23, 24, 25, 26, 27, 28, 29, 30, 31, 32, 33, 34, 35, 36, 37, 38, 39, 40, 41, 42, 43, 44, 45, 46, 47, 48, 49, 50, 51, 52, 53, 54, 55, 56, 57, 58, 59, 60, 61] (by decide +kernel) (by decide +kernel)
set_option maxRecDepth 20000 in
theorem gX9_open_X9_files : GoodIn wsX9_open (wsV RX9 82 RX9 yX9_files wsX9_files) := goodIn_app (goodIn_of _ (by decide +kernel)) ggX9_open_X9_files
set_option maxRecDepth 20000 in
theorem ggX9_open_X9_imageWord : GoodIn wsX9_open wsX9_imageWord := goodIn_r _ [22, 4, 23, 24, 25, 26, 27, 28, 29, 30, 31, 32, 33, 34, 35, 36, 37, 38, 39, 40, 41, 42, 43, 44, 45, 46, 47, 48, 49, 50, 51, 52, 53, 54, 55, 56, 57, 58, 59, 60, 61] (by decide +kernel) (by decide +kernel)
set_option maxRecDepth 20000 in
theorem gX9_open_X9_imageWord : GoodIn wsX9_open (wsV RX9 78 RX9 yX9_imageWord wsX9_imageWord) := goodIn_app (goodIn_of _ (by decide +kernel)) ggX9_open_X9_imageWord
theorem dX9_open_0 : decode cX9_open 0 = .ok (.aload_n 0, 1) := by decide +kernel
theorem dX9_open_1 : decode cX9_open 1 = .ok (.invokevirtual 82, 3) := by decide +kernel
theorem dX9_open_4 : decode cX9_open 4 = .ok (.istore_n 1, 1) := by decide +kernel
theorem dX9_open_5 : decode cX9_open 5 = .ok (.iload_n 1, 1) := by decide +kernel
theorem dX9_open_6 : decode cX9_open 6 = .ok (.ifCond .ge 5, 3) := by decide +kernel
theorem dX9_open_9 : decode cX9_open 9 = .ok (.iconst (-1), 1) := by decide +kernel
theorem dX9_open_10 : decode cX9_open 10 = .ok (.ireturn, 1) := by decide +kernel
theorem dX9_open_11 : decode cX9_open 11 = .ok (.aload_n 0, 1) := by decide +kernel
theorem dX9_open_12 : decode cX9_open 12 = .ok (.iconst 1, 1) := by decide +kernel
theorem dX9_open_13 : decode cX9_open 13 = .ok (.putfield 57, 3) := by decide +kernel
theorem dX9_open_16 : decode cX9_open 16 = .ok (.aload_n 0, 1) := by decide +kernel
theorem dX9_open_17 : decode cX9_open 17 = .ok (.iload_n 1, 1) := by decide +kernel
theorem dX9_open_18 : decode cX9_open 18 = .ok (.putfield 86, 3) := by decide +kernel
theorem dX9_open_21 : decode cX9_open 21 = .ok (.iconst 0, 1) := by decide +kernel
theorem dX9_open_22 : decode cX9_open 22 = .ok (.istore_n 2, 1) := by decide +kernel
theorem dX9_open_23 : decode cX9_open 23 = .ok (.iload_n 2, 1) := by decide +kernel
theorem dX9_open_24 : decode cX9_open 24 = .ok (.iload_n 1, 1) := by decide +kernel
theorem dX9_open_25 : decode cX9_open 25 = .ok (.if_icmp .ge 111, 3) := by decide +kernel
theorem dX9_open_28 : decode cX9_open 28 = .ok (.iconst 0, 1) := by decide +kernel
theorem dX9_open_29 : decode cX9_open 29 = .ok (.istore_n 3, 1) := by decide +kernel
theorem dX9_open_30 : decode cX9_open 30 = .ok (.iload_n 3, 1) := by decide +kernel
theorem dX9_open_31 : decode cX9_open 31 = .ok (.bipush 48, 2) := by decide +kernel
theorem dX9_open_33 : decode cX9_open 33 = .ok (.if_icmp .ge 34, 3) := by decide +kernel
theorem dX9_open_36 : decode cX9_open 36 = .ok (.aload_n 0, 1) := by decide +kernel
theorem dX9_open_37 : decode cX9_open 37 = .ok (.getfield 18, 3) := by decide +kernel
theorem dX9_open_40 : decode cX9_open 40 = .ok (.bipush 48, 2) := by decide +kernel
theorem dX9_open_42 : decode cX9_open 42 = .ok (.iload_n 2, 1) := by decide +kernel
theorem dX9_open_43 : decode cX9_open 43 = .ok (.imul, 1) := by decide +kernel
theorem dX9_open_44 : decode cX9_open 44 = .ok (.iload_n 3, 1) := by decide +kernel
theorem dX9_open_45 : decode cX9_open 45 = .ok (.iadd, 1) := by decide +kernel
theorem dX9_open_46 : decode cX9_open 46 = .ok (.aload_n 0, 1) := by decide +kernel
theorem dX9_open_47 : decode cX9_open 47 = .ok (.getfield 15, 3) := by decide +kernel
theorem dX9_open_50 : decode cX9_open 50 = .ok (.bipush 8, 2) := by decide +kernel
theorem dX9_open_52 : decode cX9_open 52 = .ok (.bipush 64, 2) := by decide +kernel
theorem dX9_open_54 : decode cX9_open 54 = .ok (.iload_n 2, 1) := by decide +kernel
theorem dX9_open_55 : decode cX9_open 55 = .ok (.imul, 1) := by decide +kernel
theorem dX9_open_56 : decode cX9_open 56 = .ok (.iadd, 1) := by decide +kernel
theorem dX9_open_57 : decode cX9_open 57 = .ok (.iload_n 3, 1) := by decide +kernel
theorem dX9_open_58 : decode cX9_open 58 = .ok (.iadd, 1) := by decide +kernel
theorem dX9_open_59 : decode cX9_open 59 = .ok (.baload, 1) := by decide +kernel
theorem dX9_open_60 : decode cX9_open 60 = .ok (.bastore, 1) := by decide +kernel
theorem dX9_open_61 : decode cX9_open 61 = .ok (.iinc 3 1, 3) := by decide +kernel
theorem dX9_open_64 : decode cX9_open 64 = .ok (.goto (-34), 3) := by decide +kernel
theorem dX9_open_67 : decode cX9_open 67 = .ok (.aload_n 0, 1) := by decide +kernel
theorem dX9_open_68 : decode cX9_open 68 = .ok (.getfield 21, 3) := by decide +kernel
theorem dX9_open_71 : decode cX9_open 71 = .ok (.iload_n 2, 1) := by decide +kernel
theorem dX9_open_72 : decode cX9_open 72 = .ok (.aload_n 0, 1) := by decide +kernel
theorem dX9_open_73 : decode cX9_open 73 = .ok (.bipush 8, 2) := by decide +kernel
theorem dX9_open_75 : decode cX9_open 75 = .ok (.bipush 64, 2) := by decide +kernel
theorem dX9_open_77 : decode cX9_open 77 = .ok (.iload_n 2, 1) := by decide +kernel
theorem dX9_open_78 : decode cX9_open 78 = .ok (.imul, 1) := by decide +kernel
theorem dX9_open_79 : decode cX9_open 79 = .ok (.iadd, 1) := by decide +kernel
theorem dX9_open_80 : decode cX9_open 80 = .ok (.bipush 48, 2) := by decide +kernel
theorem dX9_open_82 : decode cX9_open 82 = .ok (.iadd, 1) := by decide +kernel
theorem dX9_open_83 : decode cX9_open 83 = .ok (.invokevirtual 78, 3) := by decide +kernel
theorem dX9_open_86 : decode cX9_open 86 = .ok (.l2i, 1) := by decide +kernel
theorem dX9_open_87 : decode cX9_open 87 = .ok (.iastore, 1) := by decide +kernel
theorem dX9_open_88 : decode cX9_open 88 = .ok (.aload_n 0, 1) := by decide +kernel
theorem dX9_open_89 : decode cX9_open 89 = .ok (.getfield 25, 3) := by decide +kernel
theorem dX9_open_92 : decode cX9_open 92 = .ok (.iload_n 2, 1) := by decide +kernel
theorem dX9_open_93 : decode cX9_open 93 = .ok (.aload_n 0, 1) := by decide +kernel
theorem dX9_open_94 : decode cX9_open 94 = .ok (.bipush 8, 2) := by decide +kernel
theorem dX9_open_96 : decode cX9_open 96 = .ok (.bipush 64, 2) := by decide +kernel
theorem dX9_open_98 : decode cX9_open 98 = .ok (.iload_n 2, 1) := by decide +kernel
theorem dX9_open_99 : decode cX9_open 99 = .ok (.imul, 1) := by decide +kernel
theorem dX9_open_100 : decode cX9_open 100 = .ok (.iadd, 1) := by decide +kernel
theorem dX9_open_101 : decode cX9_open 101 = .ok (.bipush 52, 2) := by decide +kernel
theorem dX9_open_103 : decode cX9_open 103 = .ok (.iadd, 1) := by decide +kernel
theorem dX9_open_104 : decode cX9_open 104 = .ok (.invokevirtual 78, 3) := by decide +kernel
theorem dX9_open_107 : decode cX9_open 107 = .ok (.l2i, 1) := by decide +kernel
theorem dX9_open_108 : decode cX9_open 108 = .ok (.iastore, 1) := by decide +kernel
theorem dX9_open_109 : decode cX9_open 109 = .ok (.aload_n 0, 1) := by decide +kernel
theorem dX9_open_110 : decode cX9_open 110 = .ok (.getfield 28, 3) := by decide +kernel
theorem dX9_open_113 : decode cX9_open 113 = .ok (.iload_n 2, 1) := by decide +kernel
theorem dX9_open_114 : decode cX9_open 114 = .ok (.aload_n 0, 1) := by decide +kernel
theorem dX9_open_115 : decode cX9_open 115 = .ok (.bipush 8, 2) := by decide +kernel
theorem dX9_open_117 : decode cX9_open 117 = .ok (.bipush 64, 2) := by decide +kernel
theorem dX9_open_119 : decode cX9_open 119 = .ok (.iload_n 2, 1) := by decide +kernel
theorem dX9_open_120 : decode cX9_open 120 = .ok (.imul, 1) := by decide +kernel
theorem dX9_open_121 : decode cX9_open 121 = .ok (.iadd, 1) := by decide +kernel
theorem dX9_open_122 : decode cX9_open 122 = .ok (.bipush 56, 2) := by decide +kernel
theorem dX9_open_124 : decode cX9_open 124 = .ok (.iadd, 1) := by decide +kernel
theorem dX9_open_125 : decode cX9_open 125 = .ok (.invokevirtual 78, 3) := by decide +kernel
theorem dX9_open_128 : decode cX9_open 128 = .ok (.l2i, 1) := by decide +kernel
theorem dX9_open_129 : decode cX9_open 129 = .ok (.iastore, 1) := by decide +kernel
theorem dX9_open_130 : decode cX9_open 130 = .ok (.iinc 2 1, 3) := by decide +kernel
theorem dX9_open_133 : decode cX9_open 133 = .ok (.goto (-110), 3) := by decide +kernel
theorem dX9_open_136 : decode cX9_open 136 = .ok (.iload_n 1, 1) := by decide +kernel
theorem dX9_open_137 : decode cX9_open 137 = .ok (.ireturn, 1) := by decide +kernel
theorem dX9_come_0 : decode cX9_come 0 = .ok (.aload_n 0, 1) := by decide +kernel
theorem dX9_come_1 : decode cX9_come 1 = .ok (.getfield 57, 3) := by decide +kernel
theorem dX9_come_4 : decode cX9_come 4 = .ok (.ifCond .eq 18, 3) := by decide +kernel
theorem dX9_come_7 : decode cX9_come 7 = .ok (.aload_n 0, 1) := by decide +kernel
theorem dX9_come_8 : decode cX9_come 8 = .ok (.getfield 61, 3) := by decide +kernel
theorem dX9_come_11 : decode cX9_come 11 = .ok (.aload_n 0, 1) := by decide +kernel
theorem dX9_come_12 : decode cX9_come 12 = .ok (.getfield 46, 3) := by decide +kernel
theorem dX9_come_15 : decode cX9_come 15 = .ok (.iadd, 1) := by decide +kernel
theorem dX9_come_16 : decode cX9_come 16 = .ok (.sipush 4096, 3) := by decide +kernel
theorem dX9_come_19 : decode cX9_come 19 = .ok (.if_icmp .le 5, 3) := by decide +kernel
theorem dX9_come_22 : decode cX9_come 22 = .ok (.iconst (-1), 1) := by decide +kernel
theorem dX9_come_23 : decode cX9_come 23 = .ok (.ireturn, 1) := by decide +kernel
theorem dX9_come_24 : decode cX9_come 24 = .ok (.iconst 0, 1) := by decide +kernel
theorem dX9_come_25 : decode cX9_come 25 = .ok (.istore_n 1, 1) := by decide +kernel
theorem dX9_come_26 : decode cX9_come 26 = .ok (.iload_n 1, 1) := by decide +kernel
theorem dX9_come_27 : decode cX9_come 27 = .ok (.aload_n 0, 1) := by decide +kernel
theorem dX9_come_28 : decode cX9_come 28 = .ok (.getfield 46, 3) := by decide +kernel
theorem dX9_come_31 : decode cX9_come 31 = .ok (.if_icmp .ge 26, 3) := by decide +kernel
theorem dX9_come_34 : decode cX9_come 34 = .ok (.aload_n 0, 1) := by decide +kernel
theorem dX9_come_35 : decode cX9_come 35 = .ok (.getfield 31, 3) := by decide +kernel
theorem dX9_come_38 : decode cX9_come 38 = .ok (.aload_n 0, 1) := by decide +kernel
theorem dX9_come_39 : decode cX9_come 39 = .ok (.getfield 61, 3) := by decide +kernel
theorem dX9_come_42 : decode cX9_come 42 = .ok (.iload_n 1, 1) := by decide +kernel
theorem dX9_come_43 : decode cX9_come 43 = .ok (.iadd, 1) := by decide +kernel
theorem dX9_come_44 : decode cX9_come 44 = .ok (.aload_n 0, 1) := by decide +kernel
theorem dX9_come_45 : decode cX9_come 45 = .ok (.getfield 10, 3) := by decide +kernel
theorem dX9_come_48 : decode cX9_come 48 = .ok (.iload_n 1, 1) := by decide +kernel
theorem dX9_come_49 : decode cX9_come 49 = .ok (.baload, 1) := by decide +kernel
theorem dX9_come_50 : decode cX9_come 50 = .ok (.bastore, 1) := by decide +kernel
theorem dX9_come_51 : decode cX9_come 51 = .ok (.iinc 1 1, 3) := by decide +kernel
theorem dX9_come_54 : decode cX9_come 54 = .ok (.goto (-28), 3) := by decide +kernel
theorem dX9_come_57 : decode cX9_come 57 = .ok (.aload_n 0, 1) := by decide +kernel
theorem dX9_come_58 : decode cX9_come 58 = .ok (.aload_n 0, 1) := by decide +kernel
theorem dX9_come_59 : decode cX9_come 59 = .ok (.getfield 61, 3) := by decide +kernel
theorem dX9_come_62 : decode cX9_come 62 = .ok (.aload_n 0, 1) := by decide +kernel
theorem dX9_come_63 : decode cX9_come 63 = .ok (.getfield 46, 3) := by decide +kernel
theorem dX9_come_66 : decode cX9_come 66 = .ok (.iadd, 1) := by decide +kernel
theorem dX9_come_67 : decode cX9_come 67 = .ok (.putfield 61, 3) := by decide +kernel
theorem dX9_come_70 : decode cX9_come 70 = .ok (.aload_n 0, 1) := by decide +kernel
theorem dX9_come_71 : decode cX9_come 71 = .ok (.iconst 0, 1) := by decide +kernel
theorem dX9_come_72 : decode cX9_come 72 = .ok (.putfield 46, 3) := by decide +kernel
theorem dX9_come_75 : decode cX9_come 75 = .ok (.aload_n 0, 1) := by decide +kernel
theorem dX9_come_76 : decode cX9_come 76 = .ok (.getfield 61, 3) := by decide +kernel
theorem dX9_come_79 : decode cX9_come 79 = .ok (.ireturn, 1) := by decide +kernel
theorem dX9_drop_0 : decode cX9_drop 0 = .ok (.iload_n 1, 1) := by decide +kernel
theorem dX9_drop_1 : decode cX9_drop 1 = .ok (.istore_n 2, 1) := by decide +kernel
theorem dX9_drop_2 : decode cX9_drop 2 = .ok (.iload_n 2, 1) := by decide +kernel
theorem dX9_drop_3 : decode cX9_drop 3 = .ok (.aload_n 0, 1) := by decide +kernel
theorem dX9_drop_4 : decode cX9_drop 4 = .ok (.getfield 61, 3) := by decide +kernel
theorem dX9_drop_7 : decode cX9_drop 7 = .ok (.if_icmp .ge 23, 3) := by decide +kernel
theorem dX9_drop_10 : decode cX9_drop 10 = .ok (.aload_n 0, 1) := by decide +kernel
theorem dX9_drop_11 : decode cX9_drop 11 = .ok (.getfield 31, 3) := by decide +kernel
theorem dX9_drop_14 : decode cX9_drop 14 = .ok (.iload_n 2, 1) := by decide +kernel
theorem dX9_drop_15 : decode cX9_drop 15 = .ok (.iload_n 1, 1) := by decide +kernel
theorem dX9_drop_16 : decode cX9_drop 16 = .ok (.isub, 1) := by decide +kernel
theorem dX9_drop_17 : decode cX9_drop 17 = .ok (.aload_n 0, 1) := by decide +kernel
theorem dX9_drop_18 : decode cX9_drop 18 = .ok (.getfield 31, 3) := by decide +kernel
theorem dX9_drop_21 : decode cX9_drop 21 = .ok (.iload_n 2, 1) := by decide +kernel
theorem dX9_drop_22 : decode cX9_drop 22 = .ok (.baload, 1) := by decide +kernel
theorem dX9_drop_23 : decode cX9_drop 23 = .ok (.bastore, 1) := by decide +kernel
theorem dX9_drop_24 : decode cX9_drop 24 = .ok (.iinc 2 1, 3) := by decide +kernel
theorem dX9_drop_27 : decode cX9_drop 27 = .ok (.goto (-25), 3) := by decide +kernel
theorem dX9_drop_30 : decode cX9_drop 30 = .ok (.aload_n 0, 1) := by decide +kernel
theorem dX9_drop_31 : decode cX9_drop 31 = .ok (.aload_n 0, 1) := by decide +kernel
theorem dX9_drop_32 : decode cX9_drop 32 = .ok (.getfield 61, 3) := by decide +kernel
theorem dX9_drop_35 : decode cX9_drop 35 = .ok (.iload_n 1, 1) := by decide +kernel
theorem dX9_drop_36 : decode cX9_drop 36 = .ok (.isub, 1) := by decide +kernel
theorem dX9_drop_37 : decode cX9_drop 37 = .ok (.putfield 61, 3) := by decide +kernel
theorem dX9_drop_40 : decode cX9_drop 40 = .ok (.return_, 1) := by decide +kernel
theorem dX9_byteAt_0 : decode cX9_byteAt 0 = .ok (.iload_n 1, 1) := by decide +kernel
theorem dX9_byteAt_1 : decode cX9_byteAt 1 = .ok (.aload_n 0, 1) := by decide +kernel
theorem dX9_byteAt_2 : decode cX9_byteAt 2 = .ok (.getfield 61, 3) := by decide +kernel
theorem dX9_byteAt_5 : decode cX9_byteAt 5 = .ok (.if_icmp .ge 16, 3) := by decide +kernel
theorem dX9_byteAt_8 : decode cX9_byteAt 8 = .ok (.aload_n 0, 1) := by decide +kernel
theorem dX9_byteAt_9 : decode cX9_byteAt 9 = .ok (.getfield 31, 3) := by decide +kernel
theorem dX9_byteAt_12 : decode cX9_byteAt 12 = .ok (.iload_n 1, 1) := by decide +kernel
theorem dX9_byteAt_13 : decode cX9_byteAt 13 = .ok (.baload, 1) := by decide +kernel
theorem dX9_byteAt_14 : decode cX9_byteAt 14 = .ok (.sipush 255, 3) := by decide +kernel
theorem dX9_byteAt_17 : decode cX9_byteAt 17 = .ok (.iand, 1) := by decide +kernel
theorem dX9_byteAt_18 : decode cX9_byteAt 18 = .ok (.goto 4, 3) := by decide +kernel
theorem dX9_byteAt_21 : decode cX9_byteAt 21 = .ok (.iconst (-1), 1) := by decide +kernel
theorem dX9_byteAt_22 : decode cX9_byteAt 22 = .ok (.ireturn, 1) := by decide +kernel
set_option maxRecDepth 20000 in
theorem ggX9_look_X9_drop : GoodIn wsX9_look wsX9_drop := goodIn_r _ [14, 3, 15, 214, 215, 216, 217, 218, 219, 220, 221, 222, 223, 224, 225, 226, 227, 228, 229, 230, 231, 232, 233, 234, 235, 236, 237, 238, 239, 240, 241, 242, 243, 244, 245, 246, 247, 248, 249, 250, 251, 252] (by decide +kernel) (by decide +kernel)
set_option maxRecDepth 20000 in
theorem gX9_look_X9_drop : GoodIn wsX9_look (wsV RX9 94 RX9 yX9_drop wsX9_drop) := goodIn_app (goodIn_of _ (by decide +kernel)) ggX9_look_X9_drop
set_option maxRecDepth 20000 in
theorem ggX9_look_X9_byteAt : GoodIn wsX9_look wsX9_byteAt := goodIn_r _ [19, 3, 15, 214, 215, 216, 217, 218, 219, 220, 221, 222, 223, 224, 225, 226, 227, 228, 229, 230, 231, 232, 233, 234, 235, 236, 237, 238, 239, 240, 241, 242, 243, 244, 245, 246, 247, 248, 249, 250, 251, 252] (by decide +kernel) (by decide +kernel)
set_option maxRecDepth 20000 in
theorem gX9_look_X9_byteAt : GoodIn wsX9_look (wsV RX9 97 RX9 yX9_byteAt wsX9_byteAt) := goodIn_app (goodIn_of _ (by decide +kernel)) ggX9_look_X9_byteAt
set_option maxRecDepth 20000 in
theorem ggX9_look_X9_headBytes : GoodIn wsX9_look wsX9_headBytes := goodIn_r _ [23, 3, 16, 17, 18, 13, 19, 15, 214, 215, 216, 217, 218, 219, 220, 221, 222, 223, 224, 225, 226, 227, 228, 229, 230, 231, 232, 233, 234, 235, 236, 237, 238, 239, 240, 241, 242, 243, 244, 245, 246, 247, 248, 249, 250, 251, 252] (by decide +kernel) (by decide +kernel)
set_option maxRecDepth 20000 in
theorem gX9_look_X9_headBytes : GoodIn wsX9_look (wsV RX9 101 RX9 yX9_headBytes wsX9_headBytes) := goodIn_app (goodIn_of _ (by decide +kernel)) ggX9_look_X9_headBytes
set_option maxRecDepth 20000 in
theorem ggX9_look_X9_found : GoodIn wsX9_look wsX9_found := goodIn_r _ [27, 28, 29, 15, 9, 8, 30, 31, 32, 33, 34, 35, 36, 37, 38, 39, 40, 2, 10, 11, 12, 13, 14, 3, 41, 42, 43, 44, 45, 46, 47, 48, 49, 50, 51, 52, 53, 54, 55, 56, 57, 58, 59, 60, 61, 62, 63, 64, 65, 66, 67, 68, 69, 70, 71, 72, 73, 74, 75, 76, 77, 78, 79, 80, 81, 82, 83, 84, 85, 86, 87, 88, 89, 90, 91, 92, 93, 94, 95, 96, 97, 98, 99, 100, 101, 102, 103, 104, 105, 106, 107, 108, 109, 110, 111, 112, 113, 114, 115, 116, 117, 118, 119, 120, 121, 122, 123, 124, 125, 126, 127, 128, 129, 130, 131, 132, 133, 134, 135, 136, 137, 138, 139, 140, 141, 142, 143, 144, 145, 146, 147, 148, 149, 150, 151, 152, 153, 154, 155, 156, 157, 158, 159, 160, 161, 162, 163, 164, 165, 166, 167, 168, 169, 170, 171, 172, 173, 174, 175, 176, 177, 178, 179, 180, 181, 182, 183, 184, 185, 186, 187, 188, 189, 190, 191, 192, 193, 194, 195, 196, 197, 198, 199, 200, 201, 202, 203, 204, 205, 206, 207, 208, 209, 210, 211, 212, 213, 214, 215, 216, 217, 218, 219, 220, 221, 222, 223, 224, 225, 226, 227, 228, 229, 230, 231, 232, 233, 234, 235, 236, 237, 238, 239, 240, 241, 242, 243, 244, 245, 246, 247, 248, 249, 250, 251, 252] rfl (by decide +kernel)
set_option maxRecDepth 20000 in
theorem gX9_look_X9_found : GoodIn wsX9_look (wsV RX9 104 RX9 yX9_found wsX9_found) := goodIn_app (goodIn_of _ (by decide +kernel)) ggX9_look_X9_found
set_option maxRecDepth 20000 in
theorem ggX9_look_X9_make : GoodIn wsX9_look wsX9_make := goodIn_r _ [182, 183, 9, 149, 150, 8, 184, 185, 170, 148, 186, 187, 188, 13, 189, 64, 65, 66, 67, 68, 69, 70, 71, 72, 73, 74, 75, 76, 77, 78, 79, 80, 81, 82, 83, 84, 85, 86, 87, 88, 89, 90, 91, 92, 93, 94, 95, 96, 97, 98, 99, 100, 101, 102, 103, 104, 105, 106, 107, 108, 109, 110, 111, 112, 190, 191, 192, 193, 194, 195, 196, 197, 198, 199, 200, 201, 202, 203, 204, 205, 206, 207, 208, 209, 210, 211, 212, 213, 165, 176, 177, 178, 214, 215, 216, 217, 218, 219, 220, 221, 222, 223, 224, 225, 226, 227, 228, 229, 230, 231, 232, 233, 234, 235, 236, 237, 238, 239, 240, 241, 242, 243, 244, 245, 246, 247, 248, 249, 250, 251, 252] rfl (by decide +kernel)
set_option maxRecDepth 20000 in
theorem gX9_look_X9_make : GoodIn wsX9_look (wsV RX9 114 RX9 yX9_make wsX9_make) := goodIn_app (goodIn_of _ (by decide +kernel)) ggX9_look_X9_make
theorem dX9_look_0 : decode cX9_look 0 = .ok (.aload_n 0, 1) := by decide +kernel
theorem dX9_look_1 : decode cX9_look 1 = .ok (.getfield 57, 3) := by decide +kernel
theorem dX9_look_4 : decode cX9_look 4 = .ok (.ifCond .ne 5, 3) := by decide +kernel
theorem dX9_look_7 : decode cX9_look 7 = .ok (.iconst (-1), 1) := by decide +kernel
theorem dX9_look_8 : decode cX9_look 8 = .ok (.ireturn, 1) := by decide +kernel
theorem dX9_look_9 : decode cX9_look 9 = .ok (.aload_n 0, 1) := by decide +kernel
theorem dX9_look_10 : decode cX9_look 10 = .ok (.getfield 64, 3) := by decide +kernel
theorem dX9_look_13 : decode cX9_look 13 = .ok (.aload_n 0, 1) := by decide +kernel
theorem dX9_look_14 : decode cX9_look 14 = .ok (.getfield 61, 3) := by decide +kernel
theorem dX9_look_17 : decode cX9_look 17 = .ok (.invokestatic 89, 3) := by decide +kernel
theorem dX9_look_20 : decode cX9_look 20 = .ok (.istore_n 1, 1) := by decide +kernel
theorem dX9_look_21 : decode cX9_look 21 = .ok (.aload_n 0, 1) := by decide +kernel
theorem dX9_look_22 : decode cX9_look 22 = .ok (.aload_n 0, 1) := by decide +kernel
theorem dX9_look_23 : decode cX9_look 23 = .ok (.getfield 64, 3) := by decide +kernel
theorem dX9_look_26 : decode cX9_look 26 = .ok (.iload_n 1, 1) := by decide +kernel
theorem dX9_look_27 : decode cX9_look 27 = .ok (.isub, 1) := by decide +kernel
theorem dX9_look_28 : decode cX9_look 28 = .ok (.putfield 64, 3) := by decide +kernel
theorem dX9_look_31 : decode cX9_look 31 = .ok (.aload_n 0, 1) := by decide +kernel
theorem dX9_look_32 : decode cX9_look 32 = .ok (.iload_n 1, 1) := by decide +kernel
theorem dX9_look_33 : decode cX9_look 33 = .ok (.invokevirtual 94, 3) := by decide +kernel
theorem dX9_look_36 : decode cX9_look 36 = .ok (.aload_n 0, 1) := by decide +kernel
theorem dX9_look_37 : decode cX9_look 37 = .ok (.getfield 64, 3) := by decide +kernel
theorem dX9_look_40 : decode cX9_look 40 = .ok (.ifCond .ne 55, 3) := by decide +kernel
theorem dX9_look_43 : decode cX9_look 43 = .ok (.aload_n 0, 1) := by decide +kernel
theorem dX9_look_44 : decode cX9_look 44 = .ok (.iconst 0, 1) := by decide +kernel
theorem dX9_look_45 : decode cX9_look 45 = .ok (.invokevirtual 97, 3) := by decide +kernel
theorem dX9_look_48 : decode cX9_look 48 = .ok (.bipush 10, 2) := by decide +kernel
theorem dX9_look_50 : decode cX9_look 50 = .ok (.if_icmp .eq 23, 3) := by decide +kernel
theorem dX9_look_53 : decode cX9_look 53 = .ok (.aload_n 0, 1) := by decide +kernel
theorem dX9_look_54 : decode cX9_look 54 = .ok (.iconst 0, 1) := by decide +kernel
theorem dX9_look_55 : decode cX9_look 55 = .ok (.invokevirtual 97, 3) := by decide +kernel
theorem dX9_look_58 : decode cX9_look 58 = .ok (.bipush 13, 2) := by decide +kernel
theorem dX9_look_60 : decode cX9_look 60 = .ok (.if_icmp .ne 35, 3) := by decide +kernel
theorem dX9_look_63 : decode cX9_look 63 = .ok (.aload_n 0, 1) := by decide +kernel
theorem dX9_look_64 : decode cX9_look 64 = .ok (.iconst 1, 1) := by decide +kernel
theorem dX9_look_65 : decode cX9_look 65 = .ok (.invokevirtual 97, 3) := by decide +kernel
theorem dX9_look_68 : decode cX9_look 68 = .ok (.bipush 10, 2) := by decide +kernel
theorem dX9_look_70 : decode cX9_look 70 = .ok (.if_icmp .ne 25, 3) := by decide +kernel
theorem dX9_look_73 : decode cX9_look 73 = .ok (.aload_n 0, 1) := by decide +kernel
theorem dX9_look_74 : decode cX9_look 74 = .ok (.aload_n 0, 1) := by decide +kernel
theorem dX9_look_75 : decode cX9_look 75 = .ok (.iconst 0, 1) := by decide +kernel
theorem dX9_look_76 : decode cX9_look 76 = .ok (.invokevirtual 97, 3) := by decide +kernel
theorem dX9_look_79 : decode cX9_look 79 = .ok (.bipush 10, 2) := by decide +kernel
theorem dX9_look_81 : decode cX9_look 81 = .ok (.if_icmp .ne 7, 3) := by decide +kernel
theorem dX9_look_84 : decode cX9_look 84 = .ok (.iconst 1, 1) := by decide +kernel
theorem dX9_look_85 : decode cX9_look 85 = .ok (.goto 4, 3) := by decide +kernel
theorem dX9_look_88 : decode cX9_look 88 = .ok (.iconst 2, 1) := by decide +kernel
theorem dX9_look_89 : decode cX9_look 89 = .ok (.invokevirtual 94, 3) := by decide +kernel
theorem dX9_look_92 : decode cX9_look 92 = .ok (.goto (-56), 3) := by decide +kernel
theorem dX9_look_95 : decode cX9_look 95 = .ok (.aload_n 0, 1) := by decide +kernel
theorem dX9_look_96 : decode cX9_look 96 = .ok (.getfield 64, 3) := by decide +kernel
theorem dX9_look_99 : decode cX9_look 99 = .ok (.ifCond .ne 10, 3) := by decide +kernel
theorem dX9_look_102 : decode cX9_look 102 = .ok (.aload_n 0, 1) := by decide +kernel
theorem dX9_look_103 : decode cX9_look 103 = .ok (.invokevirtual 101, 3) := by decide +kernel
theorem dX9_look_106 : decode cX9_look 106 = .ok (.goto 4, 3) := by decide +kernel
theorem dX9_look_109 : decode cX9_look 109 = .ok (.iconst 0, 1) := by decide +kernel
theorem dX9_look_110 : decode cX9_look 110 = .ok (.istore_n 2, 1) := by decide +kernel
theorem dX9_look_111 : decode cX9_look 111 = .ok (.iload_n 2, 1) := by decide +kernel
theorem dX9_look_112 : decode cX9_look 112 = .ok (.ifCond .le 17, 3) := by decide +kernel
theorem dX9_look_115 : decode cX9_look 115 = .ok (.aload_n 0, 1) := by decide +kernel
theorem dX9_look_116 : decode cX9_look 116 = .ok (.iload_n 2, 1) := by decide +kernel
theorem dX9_look_117 : decode cX9_look 117 = .ok (.invokevirtual 104, 3) := by decide +kernel
theorem dX9_look_120 : decode cX9_look 120 = .ok (.ifCond .eq 7, 3) := by decide +kernel
theorem dX9_look_123 : decode cX9_look 123 = .ok (.iconst 2, 1) := by decide +kernel
theorem dX9_look_124 : decode cX9_look 124 = .ok (.goto 4, 3) := by decide +kernel
theorem dX9_look_127 : decode cX9_look 127 = .ok (.iconst 1, 1) := by decide +kernel
theorem dX9_look_128 : decode cX9_look 128 = .ok (.ireturn, 1) := by decide +kernel
theorem dX9_look_129 : decode cX9_look 129 = .ok (.aload_n 0, 1) := by decide +kernel
theorem dX9_look_130 : decode cX9_look 130 = .ok (.getfield 61, 3) := by decide +kernel
theorem dX9_look_133 : decode cX9_look 133 = .ok (.sipush 4096, 3) := by decide +kernel
theorem dX9_look_136 : decode cX9_look 136 = .ok (.if_icmp .ge 5, 3) := by decide +kernel
theorem dX9_look_139 : decode cX9_look 139 = .ok (.iconst 0, 1) := by decide +kernel
theorem dX9_look_140 : decode cX9_look 140 = .ok (.ireturn, 1) := by decide +kernel
theorem dX9_look_141 : decode cX9_look 141 = .ok (.aload_n 0, 1) := by decide +kernel
theorem dX9_look_142 : decode cX9_look 142 = .ok (.aload_n 0, 1) := by decide +kernel
theorem dX9_look_143 : decode cX9_look 143 = .ok (.getfield 61, 3) := by decide +kernel
theorem dX9_look_146 : decode cX9_look 146 = .ok (.invokevirtual 94, 3) := by decide +kernel
theorem dX9_look_149 : decode cX9_look 149 = .ok (.aload_n 0, 1) := by decide +kernel
theorem dX9_look_150 : decode cX9_look 150 = .ok (.iconst 0, 1) := by decide +kernel
theorem dX9_look_151 : decode cX9_look 151 = .ok (.putfield 108, 3) := by decide +kernel
theorem dX9_look_154 : decode cX9_look 154 = .ok (.aload_n 0, 1) := by decide +kernel
theorem dX9_look_155 : decode cX9_look 155 = .ok (.sipush 431, 3) := by decide +kernel
theorem dX9_look_158 : decode cX9_look 158 = .ok (.putfield 111, 3) := by decide +kernel
theorem dX9_look_161 : decode cX9_look 161 = .ok (.aload_n 0, 1) := by decide +kernel
theorem dX9_look_162 : decode cX9_look 162 = .ok (.iconst (-1), 1) := by decide +kernel
theorem dX9_look_163 : decode cX9_look 163 = .ok (.iconst 1, 1) := by decide +kernel
theorem dX9_look_164 : decode cX9_look 164 = .ok (.invokevirtual 114, 3) := by decide +kernel
theorem dX9_look_167 : decode cX9_look 167 = .ok (.iconst 2, 1) := by decide +kernel
theorem dX9_look_168 : decode cX9_look 168 = .ok (.ireturn, 1) := by decide +kernel
set_option maxRecDepth 20000 in
theorem ggX9_headBytes_X9_byteAt : GoodIn wsX9_headBytes wsX9_byteAt := goodIn_r _ [6, 1, 7, 8, 9, 10, 11, 12, 13, 14, 15, 16, 17, 18, 19, 20, 21, 22, 23, 24, 25, 26, 27, 28, 29, 30, 31, 32, 33, 34, 35, 36, 37, 38, 39, 40, 41, 42, 43, 44, 45, 46] (by decide +kernel) (by decide +kernel)
set_option maxRecDepth 20000 in
theorem gX9_headBytes_X9_byteAt : GoodIn wsX9_headBytes (wsV RX9 97 RX9 yX9_byteAt wsX9_byteAt) := goodIn_app (goodIn_of _ (by decide +kernel)) ggX9_headBytes_X9_byteAt
theorem dX9_headBytes_0 : decode cX9_headBytes 0 = .ok (.iconst 0, 1) := by decide +kernel
theorem dX9_headBytes_1 : decode cX9_headBytes 1 = .ok (.istore_n 1, 1) := by decide +kernel
theorem dX9_headBytes_2 : decode cX9_headBytes 2 = .ok (.iconst 0, 1) := by decide +kernel
theorem dX9_headBytes_3 : decode cX9_headBytes 3 = .ok (.istore_n 2, 1) := by decide +kernel
theorem dX9_headBytes_4 : decode cX9_headBytes 4 = .ok (.iload_n 2, 1) := by decide +kernel
theorem dX9_headBytes_5 : decode cX9_headBytes 5 = .ok (.aload_n 0, 1) := by decide +kernel
theorem dX9_headBytes_6 : decode cX9_headBytes 6 = .ok (.getfield 61, 3) := by decide +kernel
theorem dX9_headBytes_9 : decode cX9_headBytes 9 = .ok (.if_icmp .ge 59, 3) := by decide +kernel
theorem dX9_headBytes_12 : decode cX9_headBytes 12 = .ok (.aload_n 0, 1) := by decide +kernel
theorem dX9_headBytes_13 : decode cX9_headBytes 13 = .ok (.iload_n 2, 1) := by decide +kernel
theorem dX9_headBytes_14 : decode cX9_headBytes 14 = .ok (.invokevirtual 97, 3) := by decide +kernel
theorem dX9_headBytes_17 : decode cX9_headBytes 17 = .ok (.bipush 10, 2) := by decide +kernel
theorem dX9_headBytes_19 : decode cX9_headBytes 19 = .ok (.if_icmp .ne 43, 3) := by decide +kernel
theorem dX9_headBytes_22 : decode cX9_headBytes 22 = .ok (.iload_n 2, 1) := by decide +kernel
theorem dX9_headBytes_23 : decode cX9_headBytes 23 = .ok (.iload_n 1, 1) := by decide +kernel
theorem dX9_headBytes_24 : decode cX9_headBytes 24 = .ok (.if_icmp .eq 20, 3) := by decide +kernel
theorem dX9_headBytes_27 : decode cX9_headBytes 27 = .ok (.iload_n 2, 1) := by decide +kernel
theorem dX9_headBytes_28 : decode cX9_headBytes 28 = .ok (.iload_n 1, 1) := by decide +kernel
theorem dX9_headBytes_29 : decode cX9_headBytes 29 = .ok (.iconst 1, 1) := by decide +kernel
theorem dX9_headBytes_30 : decode cX9_headBytes 30 = .ok (.iadd, 1) := by decide +kernel
theorem dX9_headBytes_31 : decode cX9_headBytes 31 = .ok (.if_icmp .ne 17, 3) := by decide +kernel
theorem dX9_headBytes_34 : decode cX9_headBytes 34 = .ok (.aload_n 0, 1) := by decide +kernel
theorem dX9_headBytes_35 : decode cX9_headBytes 35 = .ok (.iload_n 1, 1) := by decide +kernel
theorem dX9_headBytes_36 : decode cX9_headBytes 36 = .ok (.invokevirtual 97, 3) := by decide +kernel
theorem dX9_headBytes_39 : decode cX9_headBytes 39 = .ok (.bipush 13, 2) := by decide +kernel
theorem dX9_headBytes_41 : decode cX9_headBytes 41 = .ok (.if_icmp .ne 7, 3) := by decide +kernel
theorem dX9_headBytes_44 : decode cX9_headBytes 44 = .ok (.iconst 1, 1) := by decide +kernel
theorem dX9_headBytes_45 : decode cX9_headBytes 45 = .ok (.goto 4, 3) := by decide +kernel
theorem dX9_headBytes_48 : decode cX9_headBytes 48 = .ok (.iconst 0, 1) := by decide +kernel
theorem dX9_headBytes_49 : decode cX9_headBytes 49 = .ok (.istore_n 3, 1) := by decide +kernel
theorem dX9_headBytes_50 : decode cX9_headBytes 50 = .ok (.iload_n 3, 1) := by decide +kernel
theorem dX9_headBytes_51 : decode cX9_headBytes 51 = .ok (.ifCond .eq 7, 3) := by decide +kernel
theorem dX9_headBytes_54 : decode cX9_headBytes 54 = .ok (.iload_n 2, 1) := by decide +kernel
theorem dX9_headBytes_55 : decode cX9_headBytes 55 = .ok (.iconst 1, 1) := by decide +kernel
theorem dX9_headBytes_56 : decode cX9_headBytes 56 = .ok (.iadd, 1) := by decide +kernel
theorem dX9_headBytes_57 : decode cX9_headBytes 57 = .ok (.ireturn, 1) := by decide +kernel
theorem dX9_headBytes_58 : decode cX9_headBytes 58 = .ok (.iload_n 2, 1) := by decide +kernel
theorem dX9_headBytes_59 : decode cX9_headBytes 59 = .ok (.iconst 1, 1) := by decide +kernel
theorem dX9_headBytes_60 : decode cX9_headBytes 60 = .ok (.iadd, 1) := by decide +kernel
theorem dX9_headBytes_61 : decode cX9_headBytes 61 = .ok (.istore_n 1, 1) := by decide +kernel
theorem dX9_headBytes_62 : decode cX9_headBytes 62 = .ok (.iinc 2 1, 3) := by decide +kernel
theorem dX9_headBytes_65 : decode cX9_headBytes 65 = .ok (.goto (-61), 3) := by decide +kernel
theorem dX9_headBytes_68 : decode cX9_headBytes 68 = .ok (.iconst 0, 1) := by decide +kernel
theorem dX9_headBytes_69 : decode cX9_headBytes 69 = .ok (.ireturn, 1) := by decide +kernel
theorem dX9_headAt_0 : decode cX9_headAt 0 = .ok (.aload_n 0, 1) := by decide +kernel
theorem dX9_headAt_1 : decode cX9_headAt 1 = .ok (.getfield 40, 3) := by decide +kernel
theorem dX9_headAt_4 : decode cX9_headAt 4 = .ok (.iload_n 1, 1) := by decide +kernel
theorem dX9_headAt_5 : decode cX9_headAt 5 = .ok (.baload, 1) := by decide +kernel
theorem dX9_headAt_6 : decode cX9_headAt 6 = .ok (.sipush 255, 3) := by decide +kernel
theorem dX9_headAt_9 : decode cX9_headAt 9 = .ok (.iand, 1) := by decide +kernel
theorem dX9_headAt_10 : decode cX9_headAt 10 = .ok (.ireturn, 1) := by decide +kernel
set_option maxRecDepth 20000 in
theorem ggX9_found_X9_drop : GoodIn wsX9_found wsX9_drop := goodIn_r _ [22, 23, 3, 197, 198, 199, 200, 201, 202, 203, 204, 205, 206, 207, 208, 209, 210, 211, 212, 213, 214, 215, 216, 217, 218, 219, 220, 221, 222, 223, 224, 225, 226, 227, 228, 229, 230, 231, 232, 233, 234, 235] (by decide +kernel) (by decide +kernel)
set_option maxRecDepth 20000 in
theorem gX9_found_X9_drop : GoodIn wsX9_found (wsV RX9 94 RX9 yX9_drop wsX9_drop) := goodIn_app (goodIn_of _ (by decide +kernel)) ggX9_found_X9_drop
set_option maxRecDepth 20000 in
theorem ggX9_found_X9_lineEnd : GoodIn wsX9_found wsX9_lineEnd := goodIn_r _ [27, 2, 197, 198, 199, 200, 201, 202, 203, 204, 205, 206, 207, 208, 209, 210, 211, 212, 213, 214, 215, 216, 217, 218, 219, 220, 221, 222, 223, 224, 225, 226, 227, 228, 229, 230, 231, 232, 233, 234, 235] (by decide +kernel) (by decide +kernel)
set_option maxRecDepth 20000 in
theorem gX9_found_X9_lineEnd : GoodIn wsX9_found (wsV RX9 154 RX9 yX9_lineEnd wsX9_lineEnd) := goodIn_app (goodIn_of _ (by decide +kernel)) ggX9_found_X9_lineEnd
set_option maxRecDepth 20000 in
theorem ggX9_found_X9_shown : GoodIn wsX9_found wsX9_shown := goodIn_r _ [31, 2, 197, 198, 199, 200, 201, 202, 203, 204, 205, 206, 207, 208, 209, 210, 211, 212, 213, 214, 215, 216, 217, 218, 219, 220, 221, 222, 223, 224, 225, 226, 227, 228, 229, 230, 231, 232, 233, 234, 235] (by decide +kernel) (by decide +kernel)
set_option maxRecDepth 20000 in
theorem gX9_found_X9_shown : GoodIn wsX9_found (wsV RX9 157 RX9 yX9_shown wsX9_shown) := goodIn_app (goodIn_of _ (by decide +kernel)) ggX9_found_X9_shown
set_option maxRecDepth 20000 in
theorem ggX9_found_X9_requestLine : GoodIn wsX9_found wsX9_requestLine := goodIn_r _ [35, 2, 6, 5, 36, 37, 38, 39, 40, 41, 21, 42, 43, 44, 45, 46, 47, 48, 49, 50, 51, 52, 53, 54, 55, 56, 57, 58, 59, 60, 61, 62, 63, 64, 65, 66, 67, 68, 69, 70, 71, 72, 73, 74, 75, 76, 77, 78, 79, 80, 81, 82, 83, 84, 85, 86, 87, 88, 89, 90, 91, 92, 93, 94, 95, 197, 198, 199, 200, 201, 202, 203, 204, 205, 206, 207, 208, 209, 210, 211, 212, 213, 214, 215, 216, 217, 218, 219, 220, 221, 222, 223, 224, 225, 226, 227, 228, 229, 230, 231, 232, 233, 234, 235] rfl (by decide +kernel)
set_option maxRecDepth 20000 in
theorem gX9_found_X9_requestLine : GoodIn wsX9_found (wsV RX9 160 RX9 yX9_requestLine wsX9_requestLine) := goodIn_app (goodIn_of _ (by decide +kernel)) ggX9_found_X9_requestLine
set_option maxRecDepth 20000 in
theorem ggX9_found_X9_field : GoodIn wsX9_found wsX9_field := goodIn_r _ [99, 2, 9, 15, 11, 100, 101, 39, 40, 41, 21, 42, 102, 103, 104, 105, 106, 107, 108, 109, 110, 111, 112, 113, 114, 115, 116, 117, 47, 48, 49, 50, 51, 52, 53, 54, 55, 56, 57, 58, 59, 60, 61, 62, 63, 64, 65, 66, 67, 68, 69, 70, 71, 72, 73, 74, 75, 76, 77, 78, 79, 80, 81, 82, 83, 84, 85, 86, 87, 88, 89, 90, 91, 92, 93, 94, 95, 118, 119, 120, 121, 10, 13, 122, 14, 12, 123, 124, 125, 126, 7, 8, 197, 198, 199, 200, 201, 202, 203, 204, 205, 206, 207, 208, 209, 210, 211, 212, 213, 214, 215, 216, 217, 218, 219, 220, 221, 222, 223, 224, 225, 226, 227, 228, 229, 230, 231, 232, 233, 234, 235] rfl (by decide +kernel)
set_option maxRecDepth 20000 in
theorem gX9_found_X9_field : GoodIn wsX9_found (wsV RX9 164 RX9 yX9_field wsX9_field) := goodIn_app (goodIn_of _ (by decide +kernel)) ggX9_found_X9_field
set_option maxRecDepth 20000 in
theorem ggX9_found_X9_chosen : GoodIn wsX9_found wsX9_chosen := goodIn_r _ [130, 9, 6, 4, 15, 10, 13, 14, 36, 131, 132, 133, 11, 134, 135, 136, 21, 137, 138, 37, 38, 2, 139, 39, 40, 41, 42, 140, 141, 142, 108, 109, 110, 105, 106, 107, 47, 48, 49, 50, 51, 52, 53, 54, 55, 56, 57, 58, 59, 60, 61, 62, 63, 64, 65, 66, 67, 68, 69, 70, 71, 72, 73, 74, 75, 76, 77, 78, 79, 80, 81, 82, 83, 84, 85, 86, 87, 88, 89, 90, 91, 92, 93, 94, 95, 143, 144, 145, 146, 147, 148, 149, 150, 151, 152, 153, 154, 155, 156, 157, 158, 100, 101, 43, 44, 45, 46, 159, 160, 161, 197, 198, 199, 200, 201, 202, 203, 204, 205, 206, 207, 208, 209, 210, 211, 212, 213, 214, 215, 216, 217, 218, 219, 220, 221, 222, 223, 224, 225, 226, 227, 228, 229, 230, 231, 232, 233, 234, 235] rfl (by decide +kernel)
set_option maxRecDepth 20000 in
theorem gX9_found_X9_chosen : GoodIn wsX9_found (wsV RX9 167 RX9 yX9_chosen wsX9_chosen) := goodIn_app (goodIn_of _ (by decide +kernel)) ggX9_found_X9_chosen
set_option maxRecDepth 20000 in
theorem ggX9_found_X9_make : GoodIn wsX9_found wsX9_make := goodIn_r _ [165, 166, 4, 132, 133, 5, 167, 168, 153, 131, 169, 170, 171, 21, 172, 47, 48, 49, 50, 51, 52, 53, 54, 55, 56, 57, 58, 59, 60, 61, 62, 63, 64, 65, 66, 67, 68, 69, 70, 71, 72, 73, 74, 75, 76, 77, 78, 79, 80, 81, 82, 83, 84, 85, 86, 87, 88, 89, 90, 91, 92, 93, 94, 95, 173, 174, 175, 176, 177, 178, 179, 180, 181, 182, 183, 184, 185, 186, 187, 188, 189, 190, 191, 192, 193, 194, 195, 196, 148, 159, 160, 161, 197, 198, 199, 200, 201, 202, 203, 204, 205, 206, 207, 208, 209, 210, 211, 212, 213, 214, 215, 216, 217, 218, 219, 220, 221, 222, 223, 224, 225, 226, 227, 228, 229, 230, 231, 232, 233, 234, 235] rfl (by decide +kernel)
set_option maxRecDepth 20000 in
theorem gX9_found_X9_make : GoodIn wsX9_found (wsV RX9 114 RX9 yX9_make wsX9_make) := goodIn_app (goodIn_of _ (by decide +kernel)) ggX9_found_X9_make
theorem dX9_found_0 : decode cX9_found 0 = .ok (.aload_n 0, 1) := by decide +kernel
theorem dX9_found_1 : decode cX9_found 1 = .ok (.iload_n 1, 1) := by decide +kernel
theorem dX9_found_2 : decode cX9_found 2 = .ok (.putfield 118, 3) := by decide +kernel
theorem dX9_found_5 : decode cX9_found 5 = .ok (.iconst 0, 1) := by decide +kernel
theorem dX9_found_6 : decode cX9_found 6 = .ok (.istore_n 2, 1) := by decide +kernel
theorem dX9_found_7 : decode cX9_found 7 = .ok (.iload_n 2, 1) := by decide +kernel
theorem dX9_found_8 : decode cX9_found 8 = .ok (.iload_n 1, 1) := by decide +kernel
theorem dX9_found_9 : decode cX9_found 9 = .ok (.if_icmp .ge 21, 3) := by decide +kernel
theorem dX9_found_12 : decode cX9_found 12 = .ok (.aload_n 0, 1) := by decide +kernel
theorem dX9_found_13 : decode cX9_found 13 = .ok (.getfield 40, 3) := by decide +kernel
theorem dX9_found_16 : decode cX9_found 16 = .ok (.iload_n 2, 1) := by decide +kernel
theorem dX9_found_17 : decode cX9_found 17 = .ok (.aload_n 0, 1) := by decide +kernel
theorem dX9_found_18 : decode cX9_found 18 = .ok (.getfield 31, 3) := by decide +kernel
theorem dX9_found_21 : decode cX9_found 21 = .ok (.iload_n 2, 1) := by decide +kernel
theorem dX9_found_22 : decode cX9_found 22 = .ok (.baload, 1) := by decide +kernel
theorem dX9_found_23 : decode cX9_found 23 = .ok (.bastore, 1) := by decide +kernel
theorem dX9_found_24 : decode cX9_found 24 = .ok (.iinc 2 1, 3) := by decide +kernel
theorem dX9_found_27 : decode cX9_found 27 = .ok (.goto (-20), 3) := by decide +kernel
theorem dX9_found_30 : decode cX9_found 30 = .ok (.aload_n 0, 1) := by decide +kernel
theorem dX9_found_31 : decode cX9_found 31 = .ok (.iload_n 1, 1) := by decide +kernel
theorem dX9_found_32 : decode cX9_found 32 = .ok (.invokevirtual 94, 3) := by decide +kernel
theorem dX9_found_35 : decode cX9_found 35 = .ok (.aload_n 0, 1) := by decide +kernel
theorem dX9_found_36 : decode cX9_found 36 = .ok (.iconst 0, 1) := by decide +kernel
theorem dX9_found_37 : decode cX9_found 37 = .ok (.putfield 111, 3) := by decide +kernel
theorem dX9_found_40 : decode cX9_found 40 = .ok (.aload_n 0, 1) := by decide +kernel
theorem dX9_found_41 : decode cX9_found 41 = .ok (.iconst 0, 1) := by decide +kernel
theorem dX9_found_42 : decode cX9_found 42 = .ok (.putfield 108, 3) := by decide +kernel
theorem dX9_found_45 : decode cX9_found 45 = .ok (.aload_n 0, 1) := by decide +kernel
theorem dX9_found_46 : decode cX9_found 46 = .ok (.iconst 0, 1) := by decide +kernel
theorem dX9_found_47 : decode cX9_found 47 = .ok (.putfield 121, 3) := by decide +kernel
theorem dX9_found_50 : decode cX9_found 50 = .ok (.aload_n 0, 1) := by decide +kernel
theorem dX9_found_51 : decode cX9_found 51 = .ok (.iconst 0, 1) := by decide +kernel
theorem dX9_found_52 : decode cX9_found 52 = .ok (.putfield 124, 3) := by decide +kernel
theorem dX9_found_55 : decode cX9_found 55 = .ok (.aload_n 0, 1) := by decide +kernel
theorem dX9_found_56 : decode cX9_found 56 = .ok (.iconst 0, 1) := by decide +kernel
theorem dX9_found_57 : decode cX9_found 57 = .ok (.putfield 127, 3) := by decide +kernel
theorem dX9_found_60 : decode cX9_found 60 = .ok (.aload_n 0, 1) := by decide +kernel
theorem dX9_found_61 : decode cX9_found 61 = .ok (.iconst 0, 1) := by decide +kernel
theorem dX9_found_62 : decode cX9_found 62 = .ok (.putfield 130, 3) := by decide +kernel
theorem dX9_found_65 : decode cX9_found 65 = .ok (.aload_n 0, 1) := by decide +kernel
theorem dX9_found_66 : decode cX9_found 66 = .ok (.iconst 0, 1) := by decide +kernel
theorem dX9_found_67 : decode cX9_found 67 = .ok (.putfield 133, 3) := by decide +kernel
theorem dX9_found_70 : decode cX9_found 70 = .ok (.aload_n 0, 1) := by decide +kernel
theorem dX9_found_71 : decode cX9_found 71 = .ok (.iconst 0, 1) := by decide +kernel
theorem dX9_found_72 : decode cX9_found 72 = .ok (.putfield 136, 3) := by decide +kernel
theorem dX9_found_75 : decode cX9_found 75 = .ok (.aload_n 0, 1) := by decide +kernel
theorem dX9_found_76 : decode cX9_found 76 = .ok (.iconst 0, 1) := by decide +kernel
theorem dX9_found_77 : decode cX9_found 77 = .ok (.putfield 139, 3) := by decide +kernel
theorem dX9_found_80 : decode cX9_found 80 = .ok (.aload_n 0, 1) := by decide +kernel
theorem dX9_found_81 : decode cX9_found 81 = .ok (.iconst 0, 1) := by decide +kernel
theorem dX9_found_82 : decode cX9_found 82 = .ok (.putfield 142, 3) := by decide +kernel
theorem dX9_found_85 : decode cX9_found 85 = .ok (.aload_n 0, 1) := by decide +kernel
theorem dX9_found_86 : decode cX9_found 86 = .ok (.iconst 0, 1) := by decide +kernel
theorem dX9_found_87 : decode cX9_found 87 = .ok (.putfield 145, 3) := by decide +kernel
theorem dX9_found_90 : decode cX9_found 90 = .ok (.aload_n 0, 1) := by decide +kernel
theorem dX9_found_91 : decode cX9_found 91 = .ok (.iconst 0, 1) := by decide +kernel
theorem dX9_found_92 : decode cX9_found 92 = .ok (.putfield 148, 3) := by decide +kernel
theorem dX9_found_95 : decode cX9_found 95 = .ok (.aload_n 0, 1) := by decide +kernel
theorem dX9_found_96 : decode cX9_found 96 = .ok (.iconst 0, 1) := by decide +kernel
theorem dX9_found_97 : decode cX9_found 97 = .ok (.putfield 151, 3) := by decide +kernel
theorem dX9_found_100 : decode cX9_found 100 = .ok (.aload_n 0, 1) := by decide +kernel
theorem dX9_found_101 : decode cX9_found 101 = .ok (.iconst 0, 1) := by decide +kernel
theorem dX9_found_102 : decode cX9_found 102 = .ok (.invokevirtual 154, 3) := by decide +kernel
theorem dX9_found_105 : decode cX9_found 105 = .ok (.istore_n 2, 1) := by decide +kernel
theorem dX9_found_106 : decode cX9_found 106 = .ok (.aload_n 0, 1) := by decide +kernel
theorem dX9_found_107 : decode cX9_found 107 = .ok (.iconst 0, 1) := by decide +kernel
theorem dX9_found_108 : decode cX9_found 108 = .ok (.aload_n 0, 1) := by decide +kernel
theorem dX9_found_109 : decode cX9_found 109 = .ok (.iconst 0, 1) := by decide +kernel
theorem dX9_found_110 : decode cX9_found 110 = .ok (.iload_n 2, 1) := by decide +kernel
theorem dX9_found_111 : decode cX9_found 111 = .ok (.invokevirtual 157, 3) := by decide +kernel
theorem dX9_found_114 : decode cX9_found 114 = .ok (.invokevirtual 160, 3) := by decide +kernel
theorem dX9_found_117 : decode cX9_found 117 = .ok (.istore_n 3, 1) := by decide +kernel
theorem dX9_found_118 : decode cX9_found 118 = .ok (.iload_n 3, 1) := by decide +kernel
theorem dX9_found_119 : decode cX9_found 119 = .ok (.istore 4, 2) := by decide +kernel
theorem dX9_found_121 : decode cX9_found 121 = .ok (.iconst (-1), 1) := by decide +kernel
theorem dX9_found_122 : decode cX9_found 122 = .ok (.istore 5, 2) := by decide +kernel
theorem dX9_found_124 : decode cX9_found 124 = .ok (.iload_n 3, 1) := by decide +kernel
theorem dX9_found_125 : decode cX9_found 125 = .ok (.ifCond .eq 53, 3) := by decide +kernel
theorem dX9_found_128 : decode cX9_found 128 = .ok (.aload_n 0, 1) := by decide +kernel
theorem dX9_found_129 : decode cX9_found 129 = .ok (.getfield 118, 3) := by decide +kernel
theorem dX9_found_132 : decode cX9_found 132 = .ok (.iload_n 2, 1) := by decide +kernel
theorem dX9_found_133 : decode cX9_found 133 = .ok (.iconst 1, 1) := by decide +kernel
theorem dX9_found_134 : decode cX9_found 134 = .ok (.iadd, 1) := by decide +kernel
theorem dX9_found_135 : decode cX9_found 135 = .ok (.if_icmp .le 43, 3) := by decide +kernel
theorem dX9_found_138 : decode cX9_found 138 = .ok (.iload_n 2, 1) := by decide +kernel
theorem dX9_found_139 : decode cX9_found 139 = .ok (.iconst 1, 1) := by decide +kernel
theorem dX9_found_140 : decode cX9_found 140 = .ok (.iadd, 1) := by decide +kernel
theorem dX9_found_141 : decode cX9_found 141 = .ok (.istore 6, 2) := by decide +kernel
theorem dX9_found_143 : decode cX9_found 143 = .ok (.aload_n 0, 1) := by decide +kernel
theorem dX9_found_144 : decode cX9_found 144 = .ok (.iload 6, 2) := by decide +kernel
theorem dX9_found_146 : decode cX9_found 146 = .ok (.invokevirtual 154, 3) := by decide +kernel
theorem dX9_found_149 : decode cX9_found 149 = .ok (.istore_n 2, 1) := by decide +kernel
theorem dX9_found_150 : decode cX9_found 150 = .ok (.aload_n 0, 1) := by decide +kernel
theorem dX9_found_151 : decode cX9_found 151 = .ok (.iload 6, 2) := by decide +kernel
theorem dX9_found_153 : decode cX9_found 153 = .ok (.iload_n 2, 1) := by decide +kernel
theorem dX9_found_154 : decode cX9_found 154 = .ok (.invokevirtual 157, 3) := by decide +kernel
theorem dX9_found_157 : decode cX9_found 157 = .ok (.istore 7, 2) := by decide +kernel
theorem dX9_found_159 : decode cX9_found 159 = .ok (.iload 7, 2) := by decide +kernel
theorem dX9_found_161 : decode cX9_found 161 = .ok (.iload 6, 2) := by decide +kernel
theorem dX9_found_163 : decode cX9_found 163 = .ok (.if_icmp .le 12, 3) := by decide +kernel
theorem dX9_found_166 : decode cX9_found 166 = .ok (.aload_n 0, 1) := by decide +kernel
theorem dX9_found_167 : decode cX9_found 167 = .ok (.iload 6, 2) := by decide +kernel
theorem dX9_found_169 : decode cX9_found 169 = .ok (.iload 7, 2) := by decide +kernel
theorem dX9_found_171 : decode cX9_found 171 = .ok (.invokevirtual 164, 3) := by decide +kernel
theorem dX9_found_174 : decode cX9_found 174 = .ok (.istore_n 3, 1) := by decide +kernel
theorem dX9_found_175 : decode cX9_found 175 = .ok (.goto (-51), 3) := by decide +kernel
theorem dX9_found_178 : decode cX9_found 178 = .ok (.iload_n 3, 1) := by decide +kernel
theorem dX9_found_179 : decode cX9_found 179 = .ok (.ifCond .ne 13, 3) := by decide +kernel
theorem dX9_found_182 : decode cX9_found 182 = .ok (.aload_n 0, 1) := by decide +kernel
theorem dX9_found_183 : decode cX9_found 183 = .ok (.sipush 400, 3) := by decide +kernel
theorem dX9_found_186 : decode cX9_found 186 = .ok (.putfield 111, 3) := by decide +kernel
theorem dX9_found_189 : decode cX9_found 189 = .ok (.goto 9, 3) := by decide +kernel
theorem dX9_found_192 : decode cX9_found 192 = .ok (.aload_n 0, 1) := by decide +kernel
theorem dX9_found_193 : decode cX9_found 193 = .ok (.invokevirtual 167, 3) := by decide +kernel
theorem dX9_found_196 : decode cX9_found 196 = .ok (.istore 5, 2) := by decide +kernel
theorem dX9_found_198 : decode cX9_found 198 = .ok (.aload_n 0, 1) := by decide +kernel
theorem dX9_found_199 : decode cX9_found 199 = .ok (.getfield 111, 3) := by decide +kernel
theorem dX9_found_202 : decode cX9_found 202 = .ok (.sipush 400, 3) := by decide +kernel
theorem dX9_found_205 : decode cX9_found 205 = .ok (.if_icmp .eq 33, 3) := by decide +kernel
theorem dX9_found_208 : decode cX9_found 208 = .ok (.aload_n 0, 1) := by decide +kernel
theorem dX9_found_209 : decode cX9_found 209 = .ok (.getfield 111, 3) := by decide +kernel
theorem dX9_found_212 : decode cX9_found 212 = .ok (.sipush 413, 3) := by decide +kernel
theorem dX9_found_215 : decode cX9_found 215 = .ok (.if_icmp .eq 23, 3) := by decide +kernel
theorem dX9_found_218 : decode cX9_found 218 = .ok (.aload_n 0, 1) := by decide +kernel
theorem dX9_found_219 : decode cX9_found 219 = .ok (.getfield 111, 3) := by decide +kernel
theorem dX9_found_222 : decode cX9_found 222 = .ok (.sipush 500, 3) := by decide +kernel
theorem dX9_found_225 : decode cX9_found 225 = .ok (.if_icmp .eq 13, 3) := by decide +kernel
theorem dX9_found_228 : decode cX9_found 228 = .ok (.aload_n 0, 1) := by decide +kernel
theorem dX9_found_229 : decode cX9_found 229 = .ok (.getfield 111, 3) := by decide +kernel
theorem dX9_found_232 : decode cX9_found 232 = .ok (.sipush 501, 3) := by decide +kernel
theorem dX9_found_235 : decode cX9_found 235 = .ok (.if_icmp .ne 7, 3) := by decide +kernel
theorem dX9_found_238 : decode cX9_found 238 = .ok (.iconst 1, 1) := by decide +kernel
theorem dX9_found_239 : decode cX9_found 239 = .ok (.goto 4, 3) := by decide +kernel
theorem dX9_found_242 : decode cX9_found 242 = .ok (.iconst 0, 1) := by decide +kernel
theorem dX9_found_243 : decode cX9_found 243 = .ok (.istore 6, 2) := by decide +kernel
theorem dX9_found_245 : decode cX9_found 245 = .ok (.iload 4, 2) := by decide +kernel
theorem dX9_found_247 : decode cX9_found 247 = .ok (.ifCond .eq 38, 3) := by decide +kernel
theorem dX9_found_250 : decode cX9_found 250 = .ok (.aload_n 0, 1) := by decide +kernel
theorem dX9_found_251 : decode cX9_found 251 = .ok (.getfield 121, 3) := by decide +kernel
theorem dX9_found_254 : decode cX9_found 254 = .ok (.ifCond .eq 20, 3) := by decide +kernel
theorem dX9_found_257 : decode cX9_found 257 = .ok (.aload_n 0, 1) := by decide +kernel
theorem dX9_found_258 : decode cX9_found 258 = .ok (.getfield 127, 3) := by decide +kernel
theorem dX9_found_261 : decode cX9_found 261 = .ok (.ifCond .eq 24, 3) := by decide +kernel
theorem dX9_found_264 : decode cX9_found 264 = .ok (.aload_n 0, 1) := by decide +kernel
theorem dX9_found_265 : decode cX9_found 265 = .ok (.getfield 124, 3) := by decide +kernel
theorem dX9_found_268 : decode cX9_found 268 = .ok (.ifCond .ne 17, 3) := by decide +kernel
theorem dX9_found_271 : decode cX9_found 271 = .ok (.goto 10, 3) := by decide +kernel
theorem dX9_found_274 : decode cX9_found 274 = .ok (.aload_n 0, 1) := by decide +kernel
theorem dX9_found_275 : decode cX9_found 275 = .ok (.getfield 124, 3) := by decide +kernel
theorem dX9_found_278 : decode cX9_found 278 = .ok (.ifCond .ne 7, 3) := by decide +kernel
theorem dX9_found_281 : decode cX9_found 281 = .ok (.iconst 1, 1) := by decide +kernel
theorem dX9_found_282 : decode cX9_found 282 = .ok (.goto 4, 3) := by decide +kernel
theorem dX9_found_285 : decode cX9_found 285 = .ok (.iconst 0, 1) := by decide +kernel
theorem dX9_found_286 : decode cX9_found 286 = .ok (.istore 7, 2) := by decide +kernel
theorem dX9_found_288 : decode cX9_found 288 = .ok (.aload_n 0, 1) := by decide +kernel
theorem dX9_found_289 : decode cX9_found 289 = .ok (.aload_n 0, 1) := by decide +kernel
theorem dX9_found_290 : decode cX9_found 290 = .ok (.getfield 111, 3) := by decide +kernel
theorem dX9_found_293 : decode cX9_found 293 = .ok (.sipush 400, 3) := by decide +kernel
theorem dX9_found_296 : decode cX9_found 296 = .ok (.if_icmp .eq 23, 3) := by decide +kernel
theorem dX9_found_299 : decode cX9_found 299 = .ok (.aload_n 0, 1) := by decide +kernel
theorem dX9_found_300 : decode cX9_found 300 = .ok (.getfield 111, 3) := by decide +kernel
theorem dX9_found_303 : decode cX9_found 303 = .ok (.sipush 413, 3) := by decide +kernel
theorem dX9_found_306 : decode cX9_found 306 = .ok (.if_icmp .eq 13, 3) := by decide +kernel
theorem dX9_found_309 : decode cX9_found 309 = .ok (.aload_n 0, 1) := by decide +kernel
theorem dX9_found_310 : decode cX9_found 310 = .ok (.getfield 111, 3) := by decide +kernel
theorem dX9_found_313 : decode cX9_found 313 = .ok (.sipush 501, 3) := by decide +kernel
theorem dX9_found_316 : decode cX9_found 316 = .ok (.if_icmp .ne 7, 3) := by decide +kernel
theorem dX9_found_319 : decode cX9_found 319 = .ok (.iconst 0, 1) := by decide +kernel
theorem dX9_found_320 : decode cX9_found 320 = .ok (.goto 7, 3) := by decide +kernel
theorem dX9_found_323 : decode cX9_found 323 = .ok (.aload_n 0, 1) := by decide +kernel
theorem dX9_found_324 : decode cX9_found 324 = .ok (.getfield 139, 3) := by decide +kernel
theorem dX9_found_327 : decode cX9_found 327 = .ok (.putfield 64, 3) := by decide +kernel
theorem dX9_found_330 : decode cX9_found 330 = .ok (.aload_n 0, 1) := by decide +kernel
theorem dX9_found_331 : decode cX9_found 331 = .ok (.iload 5, 2) := by decide +kernel
theorem dX9_found_333 : decode cX9_found 333 = .ok (.iload 6, 2) := by decide +kernel
theorem dX9_found_335 : decode cX9_found 335 = .ok (.ifCond .ne 8, 3) := by decide +kernel
theorem dX9_found_338 : decode cX9_found 338 = .ok (.iload 7, 2) := by decide +kernel
theorem dX9_found_340 : decode cX9_found 340 = .ok (.ifCond .ne 7, 3) := by decide +kernel
theorem dX9_found_343 : decode cX9_found 343 = .ok (.iconst 1, 1) := by decide +kernel
theorem dX9_found_344 : decode cX9_found 344 = .ok (.goto 4, 3) := by decide +kernel
theorem dX9_found_347 : decode cX9_found 347 = .ok (.iconst 0, 1) := by decide +kernel
theorem dX9_found_348 : decode cX9_found 348 = .ok (.invokevirtual 114, 3) := by decide +kernel
theorem dX9_found_351 : decode cX9_found 351 = .ok (.iload 6, 2) := by decide +kernel
theorem dX9_found_353 : decode cX9_found 353 = .ok (.ifCond .ne 8, 3) := by decide +kernel
theorem dX9_found_356 : decode cX9_found 356 = .ok (.iload 7, 2) := by decide +kernel
theorem dX9_found_358 : decode cX9_found 358 = .ok (.ifCond .ne 7, 3) := by decide +kernel
theorem dX9_found_361 : decode cX9_found 361 = .ok (.iconst 1, 1) := by decide +kernel
theorem dX9_found_362 : decode cX9_found 362 = .ok (.goto 4, 3) := by decide +kernel
theorem dX9_found_365 : decode cX9_found 365 = .ok (.iconst 0, 1) := by decide +kernel
theorem dX9_found_366 : decode cX9_found 366 = .ok (.ireturn, 1) := by decide +kernel
theorem dX9_lineEnd_0 : decode cX9_lineEnd 0 = .ok (.iload_n 1, 1) := by decide +kernel
theorem dX9_lineEnd_1 : decode cX9_lineEnd 1 = .ok (.istore_n 2, 1) := by decide +kernel
theorem dX9_lineEnd_2 : decode cX9_lineEnd 2 = .ok (.aload_n 0, 1) := by decide +kernel
theorem dX9_lineEnd_3 : decode cX9_lineEnd 3 = .ok (.getfield 40, 3) := by decide +kernel
theorem dX9_lineEnd_6 : decode cX9_lineEnd 6 = .ok (.iload_n 2, 1) := by decide +kernel
theorem dX9_lineEnd_7 : decode cX9_lineEnd 7 = .ok (.baload, 1) := by decide +kernel
theorem dX9_lineEnd_8 : decode cX9_lineEnd 8 = .ok (.bipush 10, 2) := by decide +kernel
theorem dX9_lineEnd_10 : decode cX9_lineEnd 10 = .ok (.if_icmp .eq 9, 3) := by decide +kernel
theorem dX9_lineEnd_13 : decode cX9_lineEnd 13 = .ok (.iinc 2 1, 3) := by decide +kernel
theorem dX9_lineEnd_16 : decode cX9_lineEnd 16 = .ok (.goto (-14), 3) := by decide +kernel
theorem dX9_lineEnd_19 : decode cX9_lineEnd 19 = .ok (.iload_n 2, 1) := by decide +kernel
theorem dX9_lineEnd_20 : decode cX9_lineEnd 20 = .ok (.ireturn, 1) := by decide +kernel
theorem dX9_shown_0 : decode cX9_shown 0 = .ok (.iload_n 2, 1) := by decide +kernel
theorem dX9_shown_1 : decode cX9_shown 1 = .ok (.iload_n 1, 1) := by decide +kernel
theorem dX9_shown_2 : decode cX9_shown 2 = .ok (.if_icmp .le 22, 3) := by decide +kernel
theorem dX9_shown_5 : decode cX9_shown 5 = .ok (.aload_n 0, 1) := by decide +kernel
theorem dX9_shown_6 : decode cX9_shown 6 = .ok (.getfield 40, 3) := by decide +kernel
theorem dX9_shown_9 : decode cX9_shown 9 = .ok (.iload_n 2, 1) := by decide +kernel
theorem dX9_shown_10 : decode cX9_shown 10 = .ok (.iconst 1, 1) := by decide +kernel
theorem dX9_shown_11 : decode cX9_shown 11 = .ok (.isub, 1) := by decide +kernel
theorem dX9_shown_12 : decode cX9_shown 12 = .ok (.baload, 1) := by decide +kernel
theorem dX9_shown_13 : decode cX9_shown 13 = .ok (.bipush 13, 2) := by decide +kernel
theorem dX9_shown_15 : decode cX9_shown 15 = .ok (.if_icmp .ne 9, 3) := by decide +kernel
theorem dX9_shown_18 : decode cX9_shown 18 = .ok (.iload_n 2, 1) := by decide +kernel
theorem dX9_shown_19 : decode cX9_shown 19 = .ok (.iconst 1, 1) := by decide +kernel
theorem dX9_shown_20 : decode cX9_shown 20 = .ok (.isub, 1) := by decide +kernel
theorem dX9_shown_21 : decode cX9_shown 21 = .ok (.goto 4, 3) := by decide +kernel
theorem dX9_shown_24 : decode cX9_shown 24 = .ok (.iload_n 2, 1) := by decide +kernel
theorem dX9_shown_25 : decode cX9_shown 25 = .ok (.ireturn, 1) := by decide +kernel
set_option maxRecDepth 20000 in
theorem ggX9_requestLine_X9_headAt : GoodIn wsX9_requestLine wsX9_headAt := goodIn_r _ [11, 1, 65, 66, 67, 68, 69, 70, 71, 72, 73, 74, 75, 76, 77, 78, 79, 80, 81, 82, 83, 84, 85, 86, 87, 88, 89, 90, 91, 92, 93, 94, 95, 96, 97, 98, 99, 100, 101, 102, 103] (by decide +kernel) (by decide +kernel)
set_option maxRecDepth 20000 in
theorem gX9_requestLine_X9_headAt : GoodIn wsX9_requestLine (wsV RX9 170 RX9 yX9_headAt wsX9_headAt) := goodIn_app (goodIn_of _ (by decide +kernel)) ggX9_requestLine_X9_headAt
set_option maxRecDepth 20000 in
theorem ggX9_requestLine_X9_says : GoodIn wsX9_requestLine wsX9_says := goodIn_r _ [15, 16, 17, 18, 19, 20, 21, 22, 23, 24, 25, 26, 27, 7, 8, 9, 10, 11, 1, 28, 29, 30, 31, 32, 33, 34, 35, 36, 37, 38, 39, 40, 41, 42, 43, 44, 45, 46, 47, 48, 49, 50, 51, 52, 53, 54, 55, 56, 57, 58, 59, 60, 61, 62, 63, 64, 65, 66, 67, 68, 69, 70, 71, 72, 73, 74, 75, 76, 77, 78, 79, 80, 81, 82, 83, 84, 85, 86, 87, 88, 89, 90, 91, 92, 93, 94, 95, 96, 97, 98, 99, 100, 101, 102, 103] rfl (by decide +kernel)
set_option maxRecDepth 20000 in
theorem gX9_requestLine_X9_says : GoodIn wsX9_requestLine (wsV RX9 175 RX9 yX9_says wsX9_says) := goodIn_app (goodIn_of _ (by decide +kernel)) ggX9_requestLine_X9_says
theorem dX9_requestLine_0 : decode cX9_requestLine 0 = .ok (.iconst (-1), 1) := by decide +kernel
theorem dX9_requestLine_1 : decode cX9_requestLine 1 = .ok (.istore_n 3, 1) := by decide +kernel
theorem dX9_requestLine_2 : decode cX9_requestLine 2 = .ok (.iconst (-1), 1) := by decide +kernel
theorem dX9_requestLine_3 : decode cX9_requestLine 3 = .ok (.istore 4, 2) := by decide +kernel
theorem dX9_requestLine_5 : decode cX9_requestLine 5 = .ok (.iconst 0, 1) := by decide +kernel
theorem dX9_requestLine_6 : decode cX9_requestLine 6 = .ok (.istore 5, 2) := by decide +kernel
theorem dX9_requestLine_8 : decode cX9_requestLine 8 = .ok (.iload_n 1, 1) := by decide +kernel
theorem dX9_requestLine_9 : decode cX9_requestLine 9 = .ok (.istore 6, 2) := by decide +kernel
theorem dX9_requestLine_11 : decode cX9_requestLine 11 = .ok (.iload 6, 2) := by decide +kernel
theorem dX9_requestLine_13 : decode cX9_requestLine 13 = .ok (.iload_n 2, 1) := by decide +kernel
theorem dX9_requestLine_14 : decode cX9_requestLine 14 = .ok (.if_icmp .ge 43, 3) := by decide +kernel
theorem dX9_requestLine_17 : decode cX9_requestLine 17 = .ok (.aload_n 0, 1) := by decide +kernel
theorem dX9_requestLine_18 : decode cX9_requestLine 18 = .ok (.getfield 40, 3) := by decide +kernel
theorem dX9_requestLine_21 : decode cX9_requestLine 21 = .ok (.iload 6, 2) := by decide +kernel
theorem dX9_requestLine_23 : decode cX9_requestLine 23 = .ok (.baload, 1) := by decide +kernel
theorem dX9_requestLine_24 : decode cX9_requestLine 24 = .ok (.bipush 32, 2) := by decide +kernel
theorem dX9_requestLine_26 : decode cX9_requestLine 26 = .ok (.if_icmp .ne 25, 3) := by decide +kernel
theorem dX9_requestLine_29 : decode cX9_requestLine 29 = .ok (.iinc 5 1, 3) := by decide +kernel
theorem dX9_requestLine_32 : decode cX9_requestLine 32 = .ok (.iload 5, 2) := by decide +kernel
theorem dX9_requestLine_34 : decode cX9_requestLine 34 = .ok (.iconst 1, 1) := by decide +kernel
theorem dX9_requestLine_35 : decode cX9_requestLine 35 = .ok (.if_icmp .ne 6, 3) := by decide +kernel
theorem dX9_requestLine_38 : decode cX9_requestLine 38 = .ok (.iload 6, 2) := by decide +kernel
theorem dX9_requestLine_40 : decode cX9_requestLine 40 = .ok (.istore_n 3, 1) := by decide +kernel
theorem dX9_requestLine_41 : decode cX9_requestLine 41 = .ok (.iload 5, 2) := by decide +kernel
theorem dX9_requestLine_43 : decode cX9_requestLine 43 = .ok (.iconst 2, 1) := by decide +kernel
theorem dX9_requestLine_44 : decode cX9_requestLine 44 = .ok (.if_icmp .ne 7, 3) := by decide +kernel
theorem dX9_requestLine_47 : decode cX9_requestLine 47 = .ok (.iload 6, 2) := by decide +kernel
theorem dX9_requestLine_49 : decode cX9_requestLine 49 = .ok (.istore 4, 2) := by decide +kernel
theorem dX9_requestLine_51 : decode cX9_requestLine 51 = .ok (.iinc 6 1, 3) := by decide +kernel
theorem dX9_requestLine_54 : decode cX9_requestLine 54 = .ok (.goto (-43), 3) := by decide +kernel
theorem dX9_requestLine_57 : decode cX9_requestLine 57 = .ok (.iload 5, 2) := by decide +kernel
theorem dX9_requestLine_59 : decode cX9_requestLine 59 = .ok (.iconst 2, 1) := by decide +kernel
theorem dX9_requestLine_60 : decode cX9_requestLine 60 = .ok (.if_icmp .ne 48, 3) := by decide +kernel
theorem dX9_requestLine_63 : decode cX9_requestLine 63 = .ok (.iload_n 3, 1) := by decide +kernel
theorem dX9_requestLine_64 : decode cX9_requestLine 64 = .ok (.iload_n 1, 1) := by decide +kernel
theorem dX9_requestLine_65 : decode cX9_requestLine 65 = .ok (.isub, 1) := by decide +kernel
theorem dX9_requestLine_66 : decode cX9_requestLine 66 = .ok (.iconst 1, 1) := by decide +kernel
theorem dX9_requestLine_67 : decode cX9_requestLine 67 = .ok (.if_icmp .lt 41, 3) := by decide +kernel
theorem dX9_requestLine_70 : decode cX9_requestLine 70 = .ok (.iload_n 3, 1) := by decide +kernel
theorem dX9_requestLine_71 : decode cX9_requestLine 71 = .ok (.iload_n 1, 1) := by decide +kernel
theorem dX9_requestLine_72 : decode cX9_requestLine 72 = .ok (.isub, 1) := by decide +kernel
theorem dX9_requestLine_73 : decode cX9_requestLine 73 = .ok (.bipush 16, 2) := by decide +kernel
theorem dX9_requestLine_75 : decode cX9_requestLine 75 = .ok (.if_icmp .gt 33, 3) := by decide +kernel
theorem dX9_requestLine_78 : decode cX9_requestLine 78 = .ok (.iload 4, 2) := by decide +kernel
theorem dX9_requestLine_80 : decode cX9_requestLine 80 = .ok (.iload_n 3, 1) := by decide +kernel
theorem dX9_requestLine_81 : decode cX9_requestLine 81 = .ok (.iconst 1, 1) := by decide +kernel
theorem dX9_requestLine_82 : decode cX9_requestLine 82 = .ok (.iadd, 1) := by decide +kernel
theorem dX9_requestLine_83 : decode cX9_requestLine 83 = .ok (.if_icmp .eq 25, 3) := by decide +kernel
theorem dX9_requestLine_86 : decode cX9_requestLine 86 = .ok (.aload_n 0, 1) := by decide +kernel
theorem dX9_requestLine_87 : decode cX9_requestLine 87 = .ok (.getfield 40, 3) := by decide +kernel
theorem dX9_requestLine_90 : decode cX9_requestLine 90 = .ok (.iload_n 3, 1) := by decide +kernel
theorem dX9_requestLine_91 : decode cX9_requestLine 91 = .ok (.iconst 1, 1) := by decide +kernel
theorem dX9_requestLine_92 : decode cX9_requestLine 92 = .ok (.iadd, 1) := by decide +kernel
theorem dX9_requestLine_93 : decode cX9_requestLine 93 = .ok (.baload, 1) := by decide +kernel
theorem dX9_requestLine_94 : decode cX9_requestLine 94 = .ok (.bipush 47, 2) := by decide +kernel
theorem dX9_requestLine_96 : decode cX9_requestLine 96 = .ok (.if_icmp .ne 12, 3) := by decide +kernel
theorem dX9_requestLine_99 : decode cX9_requestLine 99 = .ok (.iload_n 2, 1) := by decide +kernel
theorem dX9_requestLine_100 : decode cX9_requestLine 100 = .ok (.iload 4, 2) := by decide +kernel
theorem dX9_requestLine_102 : decode cX9_requestLine 102 = .ok (.isub, 1) := by decide +kernel
theorem dX9_requestLine_103 : decode cX9_requestLine 103 = .ok (.bipush 9, 2) := by decide +kernel
theorem dX9_requestLine_105 : decode cX9_requestLine 105 = .ok (.if_icmp .eq 5, 3) := by decide +kernel
theorem dX9_requestLine_108 : decode cX9_requestLine 108 = .ok (.iconst 0, 1) := by decide +kernel
theorem dX9_requestLine_109 : decode cX9_requestLine 109 = .ok (.ireturn, 1) := by decide +kernel
theorem dX9_requestLine_110 : decode cX9_requestLine 110 = .ok (.iload_n 1, 1) := by decide +kernel
theorem dX9_requestLine_111 : decode cX9_requestLine 111 = .ok (.istore 6, 2) := by decide +kernel
theorem dX9_requestLine_113 : decode cX9_requestLine 113 = .ok (.iload 6, 2) := by decide +kernel
theorem dX9_requestLine_115 : decode cX9_requestLine 115 = .ok (.iload_n 3, 1) := by decide +kernel
theorem dX9_requestLine_116 : decode cX9_requestLine 116 = .ok (.if_icmp .ge 33, 3) := by decide +kernel
theorem dX9_requestLine_119 : decode cX9_requestLine 119 = .ok (.aload_n 0, 1) := by decide +kernel
theorem dX9_requestLine_120 : decode cX9_requestLine 120 = .ok (.iload 6, 2) := by decide +kernel
theorem dX9_requestLine_122 : decode cX9_requestLine 122 = .ok (.invokevirtual 170, 3) := by decide +kernel
theorem dX9_requestLine_125 : decode cX9_requestLine 125 = .ok (.bipush 65, 2) := by decide +kernel
theorem dX9_requestLine_127 : decode cX9_requestLine 127 = .ok (.if_icmp .lt 14, 3) := by decide +kernel
theorem dX9_requestLine_130 : decode cX9_requestLine 130 = .ok (.aload_n 0, 1) := by decide +kernel
theorem dX9_requestLine_131 : decode cX9_requestLine 131 = .ok (.iload 6, 2) := by decide +kernel
theorem dX9_requestLine_133 : decode cX9_requestLine 133 = .ok (.invokevirtual 170, 3) := by decide +kernel
theorem dX9_requestLine_136 : decode cX9_requestLine 136 = .ok (.bipush 90, 2) := by decide +kernel
theorem dX9_requestLine_138 : decode cX9_requestLine 138 = .ok (.if_icmp .le 5, 3) := by decide +kernel
theorem dX9_requestLine_141 : decode cX9_requestLine 141 = .ok (.iconst 0, 1) := by decide +kernel
theorem dX9_requestLine_142 : decode cX9_requestLine 142 = .ok (.ireturn, 1) := by decide +kernel
theorem dX9_requestLine_143 : decode cX9_requestLine 143 = .ok (.iinc 6 1, 3) := by decide +kernel
theorem dX9_requestLine_146 : decode cX9_requestLine 146 = .ok (.goto (-33), 3) := by decide +kernel
theorem dX9_requestLine_149 : decode cX9_requestLine 149 = .ok (.iload_n 3, 1) := by decide +kernel
theorem dX9_requestLine_150 : decode cX9_requestLine 150 = .ok (.iconst 1, 1) := by decide +kernel
theorem dX9_requestLine_151 : decode cX9_requestLine 151 = .ok (.iadd, 1) := by decide +kernel
theorem dX9_requestLine_152 : decode cX9_requestLine 152 = .ok (.istore 6, 2) := by decide +kernel
theorem dX9_requestLine_154 : decode cX9_requestLine 154 = .ok (.iload 6, 2) := by decide +kernel
theorem dX9_requestLine_156 : decode cX9_requestLine 156 = .ok (.iload 4, 2) := by decide +kernel
theorem dX9_requestLine_158 : decode cX9_requestLine 158 = .ok (.if_icmp .ge 33, 3) := by decide +kernel
theorem dX9_requestLine_161 : decode cX9_requestLine 161 = .ok (.aload_n 0, 1) := by decide +kernel
theorem dX9_requestLine_162 : decode cX9_requestLine 162 = .ok (.iload 6, 2) := by decide +kernel
theorem dX9_requestLine_164 : decode cX9_requestLine 164 = .ok (.invokevirtual 170, 3) := by decide +kernel
theorem dX9_requestLine_167 : decode cX9_requestLine 167 = .ok (.bipush 33, 2) := by decide +kernel
theorem dX9_requestLine_169 : decode cX9_requestLine 169 = .ok (.if_icmp .lt 14, 3) := by decide +kernel
theorem dX9_requestLine_172 : decode cX9_requestLine 172 = .ok (.aload_n 0, 1) := by decide +kernel
theorem dX9_requestLine_173 : decode cX9_requestLine 173 = .ok (.iload 6, 2) := by decide +kernel
theorem dX9_requestLine_175 : decode cX9_requestLine 175 = .ok (.invokevirtual 170, 3) := by decide +kernel
theorem dX9_requestLine_178 : decode cX9_requestLine 178 = .ok (.bipush 126, 2) := by decide +kernel
theorem dX9_requestLine_180 : decode cX9_requestLine 180 = .ok (.if_icmp .le 5, 3) := by decide +kernel
theorem dX9_requestLine_183 : decode cX9_requestLine 183 = .ok (.iconst 0, 1) := by decide +kernel
theorem dX9_requestLine_184 : decode cX9_requestLine 184 = .ok (.ireturn, 1) := by decide +kernel
theorem dX9_requestLine_185 : decode cX9_requestLine 185 = .ok (.iinc 6 1, 3) := by decide +kernel
theorem dX9_requestLine_188 : decode cX9_requestLine 188 = .ok (.goto (-34), 3) := by decide +kernel
theorem dX9_requestLine_191 : decode cX9_requestLine 191 = .ok (.aload_n 0, 1) := by decide +kernel
theorem dX9_requestLine_192 : decode cX9_requestLine 192 = .ok (.iload 4, 2) := by decide +kernel
theorem dX9_requestLine_194 : decode cX9_requestLine 194 = .ok (.iconst 1, 1) := by decide +kernel
theorem dX9_requestLine_195 : decode cX9_requestLine 195 = .ok (.iadd, 1) := by decide +kernel
theorem dX9_requestLine_196 : decode cX9_requestLine 196 = .ok (.iload_n 2, 1) := by decide +kernel
theorem dX9_requestLine_197 : decode cX9_requestLine 197 = .ok (.ldc 173, 2) := by decide +kernel
theorem dX9_requestLine_199 : decode cX9_requestLine 199 = .ok (.invokevirtual 175, 3) := by decide +kernel
theorem dX9_requestLine_202 : decode cX9_requestLine 202 = .ok (.ifCond .ne 19, 3) := by decide +kernel
theorem dX9_requestLine_205 : decode cX9_requestLine 205 = .ok (.aload_n 0, 1) := by decide +kernel
theorem dX9_requestLine_206 : decode cX9_requestLine 206 = .ok (.iload 4, 2) := by decide +kernel
theorem dX9_requestLine_208 : decode cX9_requestLine 208 = .ok (.iconst 1, 1) := by decide +kernel
theorem dX9_requestLine_209 : decode cX9_requestLine 209 = .ok (.iadd, 1) := by decide +kernel
theorem dX9_requestLine_210 : decode cX9_requestLine 210 = .ok (.iload_n 2, 1) := by decide +kernel
theorem dX9_requestLine_211 : decode cX9_requestLine 211 = .ok (.ldc 179, 2) := by decide +kernel
theorem dX9_requestLine_213 : decode cX9_requestLine 213 = .ok (.invokevirtual 175, 3) := by decide +kernel
theorem dX9_requestLine_216 : decode cX9_requestLine 216 = .ok (.ifCond .ne 5, 3) := by decide +kernel
theorem dX9_requestLine_219 : decode cX9_requestLine 219 = .ok (.iconst 0, 1) := by decide +kernel
theorem dX9_requestLine_220 : decode cX9_requestLine 220 = .ok (.ireturn, 1) := by decide +kernel
theorem dX9_requestLine_221 : decode cX9_requestLine 221 = .ok (.aload_n 0, 1) := by decide +kernel
theorem dX9_requestLine_222 : decode cX9_requestLine 222 = .ok (.aload_n 0, 1) := by decide +kernel
theorem dX9_requestLine_223 : decode cX9_requestLine 223 = .ok (.getfield 40, 3) := by decide +kernel
theorem dX9_requestLine_226 : decode cX9_requestLine 226 = .ok (.iload_n 2, 1) := by decide +kernel
theorem dX9_requestLine_227 : decode cX9_requestLine 227 = .ok (.iconst 1, 1) := by decide +kernel
theorem dX9_requestLine_228 : decode cX9_requestLine 228 = .ok (.isub, 1) := by decide +kernel
theorem dX9_requestLine_229 : decode cX9_requestLine 229 = .ok (.baload, 1) := by decide +kernel
theorem dX9_requestLine_230 : decode cX9_requestLine 230 = .ok (.bipush 48, 2) := by decide +kernel
theorem dX9_requestLine_232 : decode cX9_requestLine 232 = .ok (.if_icmp .ne 7, 3) := by decide +kernel
theorem dX9_requestLine_235 : decode cX9_requestLine 235 = .ok (.iconst 1, 1) := by decide +kernel
theorem dX9_requestLine_236 : decode cX9_requestLine 236 = .ok (.goto 4, 3) := by decide +kernel
theorem dX9_requestLine_239 : decode cX9_requestLine 239 = .ok (.iconst 0, 1) := by decide +kernel
theorem dX9_requestLine_240 : decode cX9_requestLine 240 = .ok (.putfield 121, 3) := by decide +kernel
theorem dX9_requestLine_243 : decode cX9_requestLine 243 = .ok (.aload_n 0, 1) := by decide +kernel
theorem dX9_requestLine_244 : decode cX9_requestLine 244 = .ok (.aload_n 0, 1) := by decide +kernel
theorem dX9_requestLine_245 : decode cX9_requestLine 245 = .ok (.iload_n 1, 1) := by decide +kernel
theorem dX9_requestLine_246 : decode cX9_requestLine 246 = .ok (.iload_n 3, 1) := by decide +kernel
theorem dX9_requestLine_247 : decode cX9_requestLine 247 = .ok (.ldc 181, 2) := by decide +kernel
theorem dX9_requestLine_249 : decode cX9_requestLine 249 = .ok (.invokevirtual 175, 3) := by decide +kernel
theorem dX9_requestLine_252 : decode cX9_requestLine 252 = .ok (.putfield 108, 3) := by decide +kernel
theorem dX9_requestLine_255 : decode cX9_requestLine 255 = .ok (.aload_n 0, 1) := by decide +kernel
theorem dX9_requestLine_256 : decode cX9_requestLine 256 = .ok (.aload_n 0, 1) := by decide +kernel
theorem dX9_requestLine_257 : decode cX9_requestLine 257 = .ok (.getfield 108, 3) := by decide +kernel
theorem dX9_requestLine_260 : decode cX9_requestLine 260 = .ok (.ifCond .ne 18, 3) := by decide +kernel
theorem dX9_requestLine_263 : decode cX9_requestLine 263 = .ok (.aload_n 0, 1) := by decide +kernel
theorem dX9_requestLine_264 : decode cX9_requestLine 264 = .ok (.iload_n 1, 1) := by decide +kernel
theorem dX9_requestLine_265 : decode cX9_requestLine 265 = .ok (.iload_n 3, 1) := by decide +kernel
theorem dX9_requestLine_266 : decode cX9_requestLine 266 = .ok (.ldc 183, 2) := by decide +kernel
theorem dX9_requestLine_268 : decode cX9_requestLine 268 = .ok (.invokevirtual 175, 3) := by decide +kernel
theorem dX9_requestLine_271 : decode cX9_requestLine 271 = .ok (.ifCond .ne 7, 3) := by decide +kernel
theorem dX9_requestLine_274 : decode cX9_requestLine 274 = .ok (.iconst 1, 1) := by decide +kernel
theorem dX9_requestLine_275 : decode cX9_requestLine 275 = .ok (.goto 4, 3) := by decide +kernel
theorem dX9_requestLine_278 : decode cX9_requestLine 278 = .ok (.iconst 0, 1) := by decide +kernel
theorem dX9_requestLine_279 : decode cX9_requestLine 279 = .ok (.putfield 185, 3) := by decide +kernel
theorem dX9_requestLine_282 : decode cX9_requestLine 282 = .ok (.aload_n 0, 1) := by decide +kernel
theorem dX9_requestLine_283 : decode cX9_requestLine 283 = .ok (.iload_n 3, 1) := by decide +kernel
theorem dX9_requestLine_284 : decode cX9_requestLine 284 = .ok (.iconst 1, 1) := by decide +kernel
theorem dX9_requestLine_285 : decode cX9_requestLine 285 = .ok (.iadd, 1) := by decide +kernel
theorem dX9_requestLine_286 : decode cX9_requestLine 286 = .ok (.putfield 188, 3) := by decide +kernel
theorem dX9_requestLine_289 : decode cX9_requestLine 289 = .ok (.aload_n 0, 1) := by decide +kernel
theorem dX9_requestLine_290 : decode cX9_requestLine 290 = .ok (.iload 4, 2) := by decide +kernel
theorem dX9_requestLine_292 : decode cX9_requestLine 292 = .ok (.putfield 191, 3) := by decide +kernel
theorem dX9_requestLine_295 : decode cX9_requestLine 295 = .ok (.iconst 1, 1) := by decide +kernel
theorem dX9_requestLine_296 : decode cX9_requestLine 296 = .ok (.ireturn, 1) := by decide +kernel
set_option maxRecDepth 20000 in
theorem ggX9_says_J0_length_8abf5 : GoodIn wsX9_says wsJ0_length_8abf5 := goodIn_r _ [5, 6, 7, 8, 9, 4, 10, 11, 12] (by decide +kernel) (by decide +kernel)
set_option maxRecDepth 20000 in
theorem gX9_says_J0_length_8abf5 : GoodIn wsX9_says (wsV RX9 194 RJ0 yJ0_length_8abf5 wsJ0_length_8abf5) := goodIn_app (goodIn_of _ (by decide +kernel)) ggX9_says_J0_length_8abf5
set_option maxRecDepth 20000 in
theorem ggX9_says_X9_headAt : GoodIn wsX9_says wsX9_headAt := goodIn_r _ [17, 18, 56, 57, 58, 59, 60, 61, 62, 63, 64, 65, 66, 67, 68, 69, 70, 71, 72, 73, 74, 75, 76, 77, 78, 79, 80, 81, 82, 83, 84, 85, 86, 87, 88, 89, 90, 91, 92, 93, 94] (by decide +kernel) (by decide +kernel)
set_option maxRecDepth 20000 in
theorem gX9_says_X9_headAt : GoodIn wsX9_says (wsV RX9 170 RX9 yX9_headAt wsX9_headAt) := goodIn_app (goodIn_of _ (by decide +kernel)) ggX9_says_X9_headAt
set_option maxRecDepth 20000 in
theorem ggX9_says_J0_charAt_5068e : GoodIn wsX9_says wsJ0_charAt_5068e := goodIn_r _ [22, 6, 23, 24, 25, 4, 26, 11, 12, 27, 28, 29, 30, 31, 32, 33, 34, 35, 36, 37, 38, 39, 40, 41, 42, 43, 44, 45, 46, 47, 48, 49, 50, 51, 52, 53, 54, 55] (by decide +kernel) (by decide +kernel)
set_option maxRecDepth 20000 in
theorem gX9_says_J0_charAt_5068e : GoodIn wsX9_says (wsV RX9 199 RJ0 yJ0_charAt_5068e wsJ0_charAt_5068e) := goodIn_app (goodIn_of _ (by decide +kernel)) ggX9_says_J0_charAt_5068e
theorem dX9_says_0 : decode cX9_says 0 = .ok (.iload_n 2, 1) := by decide +kernel
theorem dX9_says_1 : decode cX9_says 1 = .ok (.iload_n 1, 1) := by decide +kernel
theorem dX9_says_2 : decode cX9_says 2 = .ok (.isub, 1) := by decide +kernel
theorem dX9_says_3 : decode cX9_says 3 = .ok (.aload_n 3, 1) := by decide +kernel
theorem dX9_says_4 : decode cX9_says 4 = .ok (.invokevirtual 194, 3) := by decide +kernel
theorem dX9_says_7 : decode cX9_says 7 = .ok (.if_icmp .eq 5, 3) := by decide +kernel
theorem dX9_says_10 : decode cX9_says 10 = .ok (.iconst 0, 1) := by decide +kernel
theorem dX9_says_11 : decode cX9_says 11 = .ok (.ireturn, 1) := by decide +kernel
theorem dX9_says_12 : decode cX9_says 12 = .ok (.iload_n 1, 1) := by decide +kernel
theorem dX9_says_13 : decode cX9_says 13 = .ok (.istore 4, 2) := by decide +kernel
theorem dX9_says_15 : decode cX9_says 15 = .ok (.iload 4, 2) := by decide +kernel
theorem dX9_says_17 : decode cX9_says 17 = .ok (.iload_n 2, 1) := by decide +kernel
theorem dX9_says_18 : decode cX9_says 18 = .ok (.if_icmp .ge 28, 3) := by decide +kernel
theorem dX9_says_21 : decode cX9_says 21 = .ok (.aload_n 0, 1) := by decide +kernel
theorem dX9_says_22 : decode cX9_says 22 = .ok (.iload 4, 2) := by decide +kernel
theorem dX9_says_24 : decode cX9_says 24 = .ok (.invokevirtual 170, 3) := by decide +kernel
theorem dX9_says_27 : decode cX9_says 27 = .ok (.aload_n 3, 1) := by decide +kernel
theorem dX9_says_28 : decode cX9_says 28 = .ok (.iload 4, 2) := by decide +kernel
theorem dX9_says_30 : decode cX9_says 30 = .ok (.iload_n 1, 1) := by decide +kernel
theorem dX9_says_31 : decode cX9_says 31 = .ok (.isub, 1) := by decide +kernel
theorem dX9_says_32 : decode cX9_says 32 = .ok (.invokevirtual 199, 3) := by decide +kernel
theorem dX9_says_35 : decode cX9_says 35 = .ok (.if_icmp .eq 5, 3) := by decide +kernel
theorem dX9_says_38 : decode cX9_says 38 = .ok (.iconst 0, 1) := by decide +kernel
theorem dX9_says_39 : decode cX9_says 39 = .ok (.ireturn, 1) := by decide +kernel
theorem dX9_says_40 : decode cX9_says 40 = .ok (.iinc 4 1, 3) := by decide +kernel
theorem dX9_says_43 : decode cX9_says 43 = .ok (.goto (-28), 3) := by decide +kernel
theorem dX9_says_46 : decode cX9_says 46 = .ok (.iconst 1, 1) := by decide +kernel
theorem dX9_says_47 : decode cX9_says 47 = .ok (.ireturn, 1) := by decide +kernel
theorem dX9_small_0 : decode cX9_small 0 = .ok (.iload_n 0, 1) := by decide +kernel
theorem dX9_small_1 : decode cX9_small 1 = .ok (.bipush 65, 2) := by decide +kernel
theorem dX9_small_3 : decode cX9_small 3 = .ok (.if_icmp .lt 16, 3) := by decide +kernel
theorem dX9_small_6 : decode cX9_small 6 = .ok (.iload_n 0, 1) := by decide +kernel
theorem dX9_small_7 : decode cX9_small 7 = .ok (.bipush 90, 2) := by decide +kernel
theorem dX9_small_9 : decode cX9_small 9 = .ok (.if_icmp .gt 10, 3) := by decide +kernel
theorem dX9_small_12 : decode cX9_small 12 = .ok (.iload_n 0, 1) := by decide +kernel
theorem dX9_small_13 : decode cX9_small 13 = .ok (.bipush 32, 2) := by decide +kernel
theorem dX9_small_15 : decode cX9_small 15 = .ok (.iadd, 1) := by decide +kernel
theorem dX9_small_16 : decode cX9_small 16 = .ok (.goto 4, 3) := by decide +kernel
theorem dX9_small_19 : decode cX9_small 19 = .ok (.iload_n 0, 1) := by decide +kernel
theorem dX9_small_20 : decode cX9_small 20 = .ok (.ireturn, 1) := by decide +kernel
set_option maxRecDepth 20000 in
theorem ggX9_saysSmall_J0_length_8abf5 : GoodIn wsX9_saysSmall wsJ0_length_8abf5 := goodIn_r _ [5, 6, 7, 8, 9, 4, 10, 11, 12] (by decide +kernel) (by decide +kernel)
set_option maxRecDepth 20000 in
theorem gX9_saysSmall_J0_length_8abf5 : GoodIn wsX9_saysSmall (wsV RX9 194 RJ0 yJ0_length_8abf5 wsJ0_length_8abf5) := goodIn_app (goodIn_of _ (by decide +kernel)) ggX9_saysSmall_J0_length_8abf5
set_option maxRecDepth 20000 in
theorem ggX9_saysSmall_X9_headAt : GoodIn wsX9_saysSmall wsX9_headAt := goodIn_r _ [17, 18, 59, 60, 61, 62, 63, 64, 65, 66, 67, 68, 69, 70, 71, 72, 73, 74, 75, 76, 77, 78, 79, 80, 81, 82, 83, 84, 85, 86, 87, 88, 89, 90, 91, 92, 93, 94, 95, 96, 97] (by decide +kernel) (by decide +kernel)
set_option maxRecDepth 20000 in
theorem gX9_saysSmall_X9_headAt : GoodIn wsX9_saysSmall (wsV RX9 170 RX9 yX9_headAt wsX9_headAt) := goodIn_app (goodIn_of _ (by decide +kernel)) ggX9_saysSmall_X9_headAt
set_option maxRecDepth 20000 in
theorem ggX9_saysSmall_X9_small : GoodIn wsX9_saysSmall wsX9_small := goodIn_r _ [21] (by decide +kernel) (by decide +kernel)
set_option maxRecDepth 20000 in
theorem gX9_saysSmall_X9_small : GoodIn wsX9_saysSmall (va_wsS RX9 203 yX9_small wsX9_small) := goodIn_app (goodIn_of _ (by decide +kernel)) ggX9_saysSmall_X9_small
set_option maxRecDepth 20000 in
theorem ggX9_saysSmall_J0_charAt_5068e : GoodIn wsX9_saysSmall wsJ0_charAt_5068e := goodIn_r _ [25, 6, 26, 27, 28, 4, 29, 11, 12, 30, 31, 32, 33, 34, 35, 36, 37, 38, 39, 40, 41, 42, 43, 44, 45, 46, 47, 48, 49, 50, 51, 52, 53, 54, 55, 56, 57, 58] (by decide +kernel) (by decide +kernel)
set_option maxRecDepth 20000 in
theorem gX9_saysSmall_J0_charAt_5068e : GoodIn wsX9_saysSmall (wsV RX9 199 RJ0 yJ0_charAt_5068e wsJ0_charAt_5068e) := goodIn_app (goodIn_of _ (by decide +kernel)) ggX9_saysSmall_J0_charAt_5068e
theorem dX9_saysSmall_0 : decode cX9_saysSmall 0 = .ok (.iload_n 2, 1) := by decide +kernel
theorem dX9_saysSmall_1 : decode cX9_saysSmall 1 = .ok (.iload_n 1, 1) := by decide +kernel
theorem dX9_saysSmall_2 : decode cX9_saysSmall 2 = .ok (.isub, 1) := by decide +kernel
theorem dX9_saysSmall_3 : decode cX9_saysSmall 3 = .ok (.aload_n 3, 1) := by decide +kernel
theorem dX9_saysSmall_4 : decode cX9_saysSmall 4 = .ok (.invokevirtual 194, 3) := by decide +kernel
theorem dX9_saysSmall_7 : decode cX9_saysSmall 7 = .ok (.if_icmp .eq 5, 3) := by decide +kernel
theorem dX9_saysSmall_10 : decode cX9_saysSmall 10 = .ok (.iconst 0, 1) := by decide +kernel
theorem dX9_saysSmall_11 : decode cX9_saysSmall 11 = .ok (.ireturn, 1) := by decide +kernel
theorem dX9_saysSmall_12 : decode cX9_saysSmall 12 = .ok (.iload_n 1, 1) := by decide +kernel
theorem dX9_saysSmall_13 : decode cX9_saysSmall 13 = .ok (.istore 4, 2) := by decide +kernel
theorem dX9_saysSmall_15 : decode cX9_saysSmall 15 = .ok (.iload 4, 2) := by decide +kernel
theorem dX9_saysSmall_17 : decode cX9_saysSmall 17 = .ok (.iload_n 2, 1) := by decide +kernel
theorem dX9_saysSmall_18 : decode cX9_saysSmall 18 = .ok (.if_icmp .ge 31, 3) := by decide +kernel
theorem dX9_saysSmall_21 : decode cX9_saysSmall 21 = .ok (.aload_n 0, 1) := by decide +kernel
theorem dX9_saysSmall_22 : decode cX9_saysSmall 22 = .ok (.iload 4, 2) := by decide +kernel
theorem dX9_saysSmall_24 : decode cX9_saysSmall 24 = .ok (.invokevirtual 170, 3) := by decide +kernel
theorem dX9_saysSmall_27 : decode cX9_saysSmall 27 = .ok (.invokestatic 203, 3) := by decide +kernel
theorem dX9_saysSmall_30 : decode cX9_saysSmall 30 = .ok (.aload_n 3, 1) := by decide +kernel
theorem dX9_saysSmall_31 : decode cX9_saysSmall 31 = .ok (.iload 4, 2) := by decide +kernel
theorem dX9_saysSmall_33 : decode cX9_saysSmall 33 = .ok (.iload_n 1, 1) := by decide +kernel
theorem dX9_saysSmall_34 : decode cX9_saysSmall 34 = .ok (.isub, 1) := by decide +kernel
theorem dX9_saysSmall_35 : decode cX9_saysSmall 35 = .ok (.invokevirtual 199, 3) := by decide +kernel
theorem dX9_saysSmall_38 : decode cX9_saysSmall 38 = .ok (.if_icmp .eq 5, 3) := by decide +kernel
theorem dX9_saysSmall_41 : decode cX9_saysSmall 41 = .ok (.iconst 0, 1) := by decide +kernel
theorem dX9_saysSmall_42 : decode cX9_saysSmall 42 = .ok (.ireturn, 1) := by decide +kernel
theorem dX9_saysSmall_43 : decode cX9_saysSmall 43 = .ok (.iinc 4 1, 3) := by decide +kernel
theorem dX9_saysSmall_46 : decode cX9_saysSmall 46 = .ok (.goto (-31), 3) := by decide +kernel
theorem dX9_saysSmall_49 : decode cX9_saysSmall 49 = .ok (.iconst 1, 1) := by decide +kernel
theorem dX9_saysSmall_50 : decode cX9_saysSmall 50 = .ok (.ireturn, 1) := by decide +kernel
theorem dX9_isDigit_0 : decode cX9_isDigit 0 = .ok (.iload_n 0, 1) := by decide +kernel
theorem dX9_isDigit_1 : decode cX9_isDigit 1 = .ok (.bipush 48, 2) := by decide +kernel
theorem dX9_isDigit_3 : decode cX9_isDigit 3 = .ok (.if_icmp .lt 13, 3) := by decide +kernel
theorem dX9_isDigit_6 : decode cX9_isDigit 6 = .ok (.iload_n 0, 1) := by decide +kernel
theorem dX9_isDigit_7 : decode cX9_isDigit 7 = .ok (.bipush 57, 2) := by decide +kernel
theorem dX9_isDigit_9 : decode cX9_isDigit 9 = .ok (.if_icmp .gt 7, 3) := by decide +kernel
theorem dX9_isDigit_12 : decode cX9_isDigit 12 = .ok (.iconst 1, 1) := by decide +kernel
theorem dX9_isDigit_13 : decode cX9_isDigit 13 = .ok (.goto 4, 3) := by decide +kernel
theorem dX9_isDigit_16 : decode cX9_isDigit 16 = .ok (.iconst 0, 1) := by decide +kernel
theorem dX9_isDigit_17 : decode cX9_isDigit 17 = .ok (.ireturn, 1) := by decide +kernel
set_option maxRecDepth 20000 in
theorem ggX9_isNameCode_X9_small : GoodIn wsX9_isNameCode wsX9_small := goodIn_r _ [4] (by decide +kernel) (by decide +kernel)
set_option maxRecDepth 20000 in
theorem gX9_isNameCode_X9_small : GoodIn wsX9_isNameCode (va_wsS RX9 203 yX9_small wsX9_small) := goodIn_app (goodIn_of _ (by decide +kernel)) ggX9_isNameCode_X9_small
set_option maxRecDepth 20000 in
theorem ggX9_isNameCode_X9_isDigit : GoodIn wsX9_isNameCode wsX9_isDigit := goodIn_r _ [7] (by decide +kernel) (by decide +kernel)
set_option maxRecDepth 20000 in
theorem gX9_isNameCode_X9_isDigit : GoodIn wsX9_isNameCode (va_wsS RX9 206 yX9_isDigit wsX9_isDigit) := goodIn_app (goodIn_of _ (by decide +kernel)) ggX9_isNameCode_X9_isDigit
theorem dX9_isNameCode_0 : decode cX9_isNameCode 0 = .ok (.iload_n 0, 1) := by decide +kernel
theorem dX9_isNameCode_1 : decode cX9_isNameCode 1 = .ok (.invokestatic 203, 3) := by decide +kernel
theorem dX9_isNameCode_4 : decode cX9_isNameCode 4 = .ok (.istore_n 1, 1) := by decide +kernel
theorem dX9_isNameCode_5 : decode cX9_isNameCode 5 = .ok (.iload_n 0, 1) := by decide +kernel
theorem dX9_isNameCode_6 : decode cX9_isNameCode 6 = .ok (.bipush 45, 2) := by decide +kernel
theorem dX9_isNameCode_8 : decode cX9_isNameCode 8 = .ok (.if_icmp .eq 87, 3) := by decide +kernel
theorem dX9_isNameCode_11 : decode cX9_isNameCode 11 = .ok (.iload_n 0, 1) := by decide +kernel
theorem dX9_isNameCode_12 : decode cX9_isNameCode 12 = .ok (.bipush 95, 2) := by decide +kernel
theorem dX9_isNameCode_14 : decode cX9_isNameCode 14 = .ok (.if_icmp .eq 81, 3) := by decide +kernel
theorem dX9_isNameCode_17 : decode cX9_isNameCode 17 = .ok (.iload_n 0, 1) := by decide +kernel
theorem dX9_isNameCode_18 : decode cX9_isNameCode 18 = .ok (.bipush 46, 2) := by decide +kernel
theorem dX9_isNameCode_20 : decode cX9_isNameCode 20 = .ok (.if_icmp .eq 75, 3) := by decide +kernel
theorem dX9_isNameCode_23 : decode cX9_isNameCode 23 = .ok (.iload_n 0, 1) := by decide +kernel
theorem dX9_isNameCode_24 : decode cX9_isNameCode 24 = .ok (.bipush 33, 2) := by decide +kernel
theorem dX9_isNameCode_26 : decode cX9_isNameCode 26 = .ok (.if_icmp .eq 69, 3) := by decide +kernel
theorem dX9_isNameCode_29 : decode cX9_isNameCode 29 = .ok (.iload_n 0, 1) := by decide +kernel
theorem dX9_isNameCode_30 : decode cX9_isNameCode 30 = .ok (.bipush 35, 2) := by decide +kernel
theorem dX9_isNameCode_32 : decode cX9_isNameCode 32 = .ok (.if_icmp .eq 63, 3) := by decide +kernel
theorem dX9_isNameCode_35 : decode cX9_isNameCode 35 = .ok (.iload_n 0, 1) := by decide +kernel
theorem dX9_isNameCode_36 : decode cX9_isNameCode 36 = .ok (.bipush 36, 2) := by decide +kernel
theorem dX9_isNameCode_38 : decode cX9_isNameCode 38 = .ok (.if_icmp .eq 57, 3) := by decide +kernel
theorem dX9_isNameCode_41 : decode cX9_isNameCode 41 = .ok (.iload_n 0, 1) := by decide +kernel
theorem dX9_isNameCode_42 : decode cX9_isNameCode 42 = .ok (.bipush 37, 2) := by decide +kernel
theorem dX9_isNameCode_44 : decode cX9_isNameCode 44 = .ok (.if_icmp .eq 51, 3) := by decide +kernel
theorem dX9_isNameCode_47 : decode cX9_isNameCode 47 = .ok (.iload_n 0, 1) := by decide +kernel
theorem dX9_isNameCode_48 : decode cX9_isNameCode 48 = .ok (.bipush 38, 2) := by decide +kernel
theorem dX9_isNameCode_50 : decode cX9_isNameCode 50 = .ok (.if_icmp .eq 45, 3) := by decide +kernel
theorem dX9_isNameCode_53 : decode cX9_isNameCode 53 = .ok (.iload_n 0, 1) := by decide +kernel
theorem dX9_isNameCode_54 : decode cX9_isNameCode 54 = .ok (.bipush 39, 2) := by decide +kernel
theorem dX9_isNameCode_56 : decode cX9_isNameCode 56 = .ok (.if_icmp .eq 39, 3) := by decide +kernel
theorem dX9_isNameCode_59 : decode cX9_isNameCode 59 = .ok (.iload_n 0, 1) := by decide +kernel
theorem dX9_isNameCode_60 : decode cX9_isNameCode 60 = .ok (.bipush 42, 2) := by decide +kernel
theorem dX9_isNameCode_62 : decode cX9_isNameCode 62 = .ok (.if_icmp .eq 33, 3) := by decide +kernel
theorem dX9_isNameCode_65 : decode cX9_isNameCode 65 = .ok (.iload_n 0, 1) := by decide +kernel
theorem dX9_isNameCode_66 : decode cX9_isNameCode 66 = .ok (.bipush 43, 2) := by decide +kernel
theorem dX9_isNameCode_68 : decode cX9_isNameCode 68 = .ok (.if_icmp .eq 27, 3) := by decide +kernel
theorem dX9_isNameCode_71 : decode cX9_isNameCode 71 = .ok (.iload_n 0, 1) := by decide +kernel
theorem dX9_isNameCode_72 : decode cX9_isNameCode 72 = .ok (.bipush 94, 2) := by decide +kernel
theorem dX9_isNameCode_74 : decode cX9_isNameCode 74 = .ok (.if_icmp .eq 21, 3) := by decide +kernel
theorem dX9_isNameCode_77 : decode cX9_isNameCode 77 = .ok (.iload_n 0, 1) := by decide +kernel
theorem dX9_isNameCode_78 : decode cX9_isNameCode 78 = .ok (.bipush 96, 2) := by decide +kernel
theorem dX9_isNameCode_80 : decode cX9_isNameCode 80 = .ok (.if_icmp .eq 15, 3) := by decide +kernel
theorem dX9_isNameCode_83 : decode cX9_isNameCode 83 = .ok (.iload_n 0, 1) := by decide +kernel
theorem dX9_isNameCode_84 : decode cX9_isNameCode 84 = .ok (.bipush 124, 2) := by decide +kernel
theorem dX9_isNameCode_86 : decode cX9_isNameCode 86 = .ok (.if_icmp .eq 9, 3) := by decide +kernel
theorem dX9_isNameCode_89 : decode cX9_isNameCode 89 = .ok (.iload_n 0, 1) := by decide +kernel
theorem dX9_isNameCode_90 : decode cX9_isNameCode 90 = .ok (.bipush 126, 2) := by decide +kernel
theorem dX9_isNameCode_92 : decode cX9_isNameCode 92 = .ok (.if_icmp .ne 7, 3) := by decide +kernel
theorem dX9_isNameCode_95 : decode cX9_isNameCode 95 = .ok (.iconst 1, 1) := by decide +kernel
theorem dX9_isNameCode_96 : decode cX9_isNameCode 96 = .ok (.goto 4, 3) := by decide +kernel
theorem dX9_isNameCode_99 : decode cX9_isNameCode 99 = .ok (.iconst 0, 1) := by decide +kernel
theorem dX9_isNameCode_100 : decode cX9_isNameCode 100 = .ok (.istore_n 2, 1) := by decide +kernel
theorem dX9_isNameCode_101 : decode cX9_isNameCode 101 = .ok (.iload_n 1, 1) := by decide +kernel
theorem dX9_isNameCode_102 : decode cX9_isNameCode 102 = .ok (.bipush 97, 2) := by decide +kernel
theorem dX9_isNameCode_104 : decode cX9_isNameCode 104 = .ok (.if_icmp .lt 9, 3) := by decide +kernel
theorem dX9_isNameCode_107 : decode cX9_isNameCode 107 = .ok (.iload_n 1, 1) := by decide +kernel
theorem dX9_isNameCode_108 : decode cX9_isNameCode 108 = .ok (.bipush 122, 2) := by decide +kernel
theorem dX9_isNameCode_110 : decode cX9_isNameCode 110 = .ok (.if_icmp .le 14, 3) := by decide +kernel
theorem dX9_isNameCode_113 : decode cX9_isNameCode 113 = .ok (.iload_n 0, 1) := by decide +kernel
theorem dX9_isNameCode_114 : decode cX9_isNameCode 114 = .ok (.invokestatic 206, 3) := by decide +kernel
theorem dX9_isNameCode_117 : decode cX9_isNameCode 117 = .ok (.ifCond .ne 7, 3) := by decide +kernel
theorem dX9_isNameCode_120 : decode cX9_isNameCode 120 = .ok (.iload_n 2, 1) := by decide +kernel
theorem dX9_isNameCode_121 : decode cX9_isNameCode 121 = .ok (.ifCond .eq 7, 3) := by decide +kernel
theorem dX9_isNameCode_124 : decode cX9_isNameCode 124 = .ok (.iconst 1, 1) := by decide +kernel
theorem dX9_isNameCode_125 : decode cX9_isNameCode 125 = .ok (.goto 4, 3) := by decide +kernel
theorem dX9_isNameCode_128 : decode cX9_isNameCode 128 = .ok (.iconst 0, 1) := by decide +kernel
theorem dX9_isNameCode_129 : decode cX9_isNameCode 129 = .ok (.ireturn, 1) := by decide +kernel
theorem dX9_isBlank_0 : decode cX9_isBlank 0 = .ok (.iload_n 0, 1) := by decide +kernel
theorem dX9_isBlank_1 : decode cX9_isBlank 1 = .ok (.bipush 32, 2) := by decide +kernel
theorem dX9_isBlank_3 : decode cX9_isBlank 3 = .ok (.if_icmp .eq 9, 3) := by decide +kernel
theorem dX9_isBlank_6 : decode cX9_isBlank 6 = .ok (.iload_n 0, 1) := by decide +kernel
theorem dX9_isBlank_7 : decode cX9_isBlank 7 = .ok (.bipush 9, 2) := by decide +kernel
theorem dX9_isBlank_9 : decode cX9_isBlank 9 = .ok (.if_icmp .ne 7, 3) := by decide +kernel
theorem dX9_isBlank_12 : decode cX9_isBlank 12 = .ok (.iconst 1, 1) := by decide +kernel
theorem dX9_isBlank_13 : decode cX9_isBlank 13 = .ok (.goto 4, 3) := by decide +kernel
theorem dX9_isBlank_16 : decode cX9_isBlank 16 = .ok (.iconst 0, 1) := by decide +kernel
theorem dX9_isBlank_17 : decode cX9_isBlank 17 = .ok (.ireturn, 1) := by decide +kernel
set_option maxRecDepth 20000 in
theorem ggX9_field_X9_headAt : GoodIn wsX9_field wsX9_headAt := goodIn_r _ [11, 1, 92, 93, 94, 95, 96, 97, 98, 99, 100, 101, 102, 103, 104, 105, 106, 107, 108, 109, 110, 111, 112, 113, 114, 115, 116, 117, 118, 119, 120, 121, 122, 123, 124, 125, 126, 127, 128, 129, 130] (by decide +kernel) (by decide +kernel)
set_option maxRecDepth 20000 in
theorem gX9_field_X9_headAt : GoodIn wsX9_field (wsV RX9 170 RX9 yX9_headAt wsX9_headAt) := goodIn_app (goodIn_of _ (by decide +kernel)) ggX9_field_X9_headAt
set_option maxRecDepth 20000 in
theorem ggX9_field_X9_isNameCode : GoodIn wsX9_field wsX9_isNameCode := goodIn_r _ [14, 15, 16, 10, 17, 18, 19, 20] (by decide +kernel) (by decide +kernel)
set_option maxRecDepth 20000 in
theorem gX9_field_X9_isNameCode : GoodIn wsX9_field (va_wsS RX9 209 yX9_isNameCode wsX9_isNameCode) := goodIn_app (goodIn_of _ (by decide +kernel)) ggX9_field_X9_isNameCode
set_option maxRecDepth 20000 in
theorem ggX9_field_X9_isBlank : GoodIn wsX9_field wsX9_isBlank := goodIn_r _ [23] (by decide +kernel) (by decide +kernel)
set_option maxRecDepth 20000 in
theorem gX9_field_X9_isBlank : GoodIn wsX9_field (va_wsS RX9 212 yX9_isBlank wsX9_isBlank) := goodIn_app (goodIn_of _ (by decide +kernel)) ggX9_field_X9_isBlank
set_option maxRecDepth 20000 in
theorem ggX9_field_X9_saysSmall : GoodIn wsX9_field wsX9_saysSmall := goodIn_r _ [27, 28, 29, 30, 31, 32, 33, 34, 35, 36, 37, 38, 39, 7, 8, 9, 10, 11, 1, 15, 16, 17, 40, 41, 42, 43, 44, 45, 46, 47, 48, 49, 50, 51, 52, 53, 54, 55, 56, 57, 58, 59, 60, 61, 62, 63, 64, 65, 66, 67, 68, 69, 70, 71, 72, 73, 74, 75, 76, 92, 93, 94, 95, 96, 97, 98, 99, 100, 101, 102, 103, 104, 105, 106, 107, 108, 109, 110, 111, 112, 113, 114, 115, 116, 117, 118, 119, 120, 121, 122, 123, 124, 125, 126, 127, 128, 129, 130] rfl (by decide +kernel)
set_option maxRecDepth 20000 in
theorem gX9_field_X9_saysSmall : GoodIn wsX9_field (wsV RX9 217 RX9 yX9_saysSmall wsX9_saysSmall) := goodIn_app (goodIn_of _ (by decide +kernel)) ggX9_field_X9_saysSmall
set_option maxRecDepth 20000 in
theorem ggX9_field_X9_contentLength : GoodIn wsX9_field wsX9_contentLength := goodIn_r _ [80, 81, 82, 83, 84, 85, 7, 8, 9, 10, 11, 1, 18, 19, 20, 92, 93, 94, 95, 96, 97, 98, 99, 100, 101, 102, 103, 104, 105, 106, 107, 108, 109, 110, 111, 112, 113, 114, 115, 116, 117, 118, 119, 120, 121, 122, 123, 124, 125, 126, 127, 128, 129, 130] (by decide +kernel) (by decide +kernel)
set_option maxRecDepth 20000 in
theorem gX9_field_X9_contentLength : GoodIn wsX9_field (wsV RX9 224 RX9 yX9_contentLength wsX9_contentLength) := goodIn_app (goodIn_of _ (by decide +kernel)) ggX9_field_X9_contentLength
set_option maxRecDepth 20000 in
theorem ggX9_field_X9_words : GoodIn wsX9_field wsX9_words := goodIn_r _ [89, 90, 91, 7, 8, 9, 10, 11, 1, 21, 22, 23, 24, 25, 26, 27, 28, 29, 30, 31, 32, 33, 34, 35, 36, 37, 38, 39, 15, 16, 17, 40, 41, 42, 43, 44, 45, 46, 47, 48, 49, 50, 51, 52, 53, 54, 55, 56, 57, 58, 59, 60, 61, 62, 63, 64, 65, 66, 67, 68, 69, 70, 71, 72, 73, 74, 75, 76, 92, 93, 94, 95, 96, 97, 98, 99, 100, 101, 102, 103, 104, 105, 106, 107, 108, 109, 110, 111, 112, 113, 114, 115, 116, 117, 118, 119, 120, 121, 122, 123, 124, 125, 126, 127, 128, 129, 130] rfl (by decide +kernel)
set_option maxRecDepth 20000 in
theorem gX9_field_X9_words : GoodIn wsX9_field (wsV RX9 230 RX9 yX9_words wsX9_words) := goodIn_app (goodIn_of _ (by decide +kernel)) ggX9_field_X9_words
theorem dX9_field_0 : decode cX9_field 0 = .ok (.iload_n 1, 1) := by decide +kernel
theorem dX9_field_1 : decode cX9_field 1 = .ok (.istore_n 3, 1) := by decide +kernel
theorem dX9_field_2 : decode cX9_field 2 = .ok (.iload_n 3, 1) := by decide +kernel
theorem dX9_field_3 : decode cX9_field 3 = .ok (.iload_n 2, 1) := by decide +kernel
theorem dX9_field_4 : decode cX9_field 4 = .ok (.if_icmp .ge 20, 3) := by decide +kernel
theorem dX9_field_7 : decode cX9_field 7 = .ok (.aload_n 0, 1) := by decide +kernel
theorem dX9_field_8 : decode cX9_field 8 = .ok (.iload_n 3, 1) := by decide +kernel
theorem dX9_field_9 : decode cX9_field 9 = .ok (.invokevirtual 170, 3) := by decide +kernel
theorem dX9_field_12 : decode cX9_field 12 = .ok (.invokestatic 209, 3) := by decide +kernel
theorem dX9_field_15 : decode cX9_field 15 = .ok (.ifCond .eq 9, 3) := by decide +kernel
theorem dX9_field_18 : decode cX9_field 18 = .ok (.iinc 3 1, 3) := by decide +kernel
theorem dX9_field_21 : decode cX9_field 21 = .ok (.goto (-19), 3) := by decide +kernel
theorem dX9_field_24 : decode cX9_field 24 = .ok (.iload_n 3, 1) := by decide +kernel
theorem dX9_field_25 : decode cX9_field 25 = .ok (.iload_n 1, 1) := by decide +kernel
theorem dX9_field_26 : decode cX9_field 26 = .ok (.if_icmp .eq 19, 3) := by decide +kernel
theorem dX9_field_29 : decode cX9_field 29 = .ok (.iload_n 3, 1) := by decide +kernel
theorem dX9_field_30 : decode cX9_field 30 = .ok (.iload_n 2, 1) := by decide +kernel
theorem dX9_field_31 : decode cX9_field 31 = .ok (.if_icmp .eq 14, 3) := by decide +kernel
theorem dX9_field_34 : decode cX9_field 34 = .ok (.aload_n 0, 1) := by decide +kernel
theorem dX9_field_35 : decode cX9_field 35 = .ok (.getfield 40, 3) := by decide +kernel
theorem dX9_field_38 : decode cX9_field 38 = .ok (.iload_n 3, 1) := by decide +kernel
theorem dX9_field_39 : decode cX9_field 39 = .ok (.baload, 1) := by decide +kernel
theorem dX9_field_40 : decode cX9_field 40 = .ok (.bipush 58, 2) := by decide +kernel
theorem dX9_field_42 : decode cX9_field 42 = .ok (.if_icmp .eq 5, 3) := by decide +kernel
theorem dX9_field_45 : decode cX9_field 45 = .ok (.iconst 0, 1) := by decide +kernel
theorem dX9_field_46 : decode cX9_field 46 = .ok (.ireturn, 1) := by decide +kernel
theorem dX9_field_47 : decode cX9_field 47 = .ok (.iload_n 3, 1) := by decide +kernel
theorem dX9_field_48 : decode cX9_field 48 = .ok (.iconst 1, 1) := by decide +kernel
theorem dX9_field_49 : decode cX9_field 49 = .ok (.iadd, 1) := by decide +kernel
theorem dX9_field_50 : decode cX9_field 50 = .ok (.istore 4, 2) := by decide +kernel
theorem dX9_field_52 : decode cX9_field 52 = .ok (.iload_n 2, 1) := by decide +kernel
theorem dX9_field_53 : decode cX9_field 53 = .ok (.istore 5, 2) := by decide +kernel
theorem dX9_field_55 : decode cX9_field 55 = .ok (.iload 4, 2) := by decide +kernel
theorem dX9_field_57 : decode cX9_field 57 = .ok (.istore 6, 2) := by decide +kernel
theorem dX9_field_59 : decode cX9_field 59 = .ok (.iload 6, 2) := by decide +kernel
theorem dX9_field_61 : decode cX9_field 61 = .ok (.iload 5, 2) := by decide +kernel
theorem dX9_field_63 : decode cX9_field 63 = .ok (.if_icmp .ge 40, 3) := by decide +kernel
theorem dX9_field_66 : decode cX9_field 66 = .ok (.aload_n 0, 1) := by decide +kernel
theorem dX9_field_67 : decode cX9_field 67 = .ok (.iload 6, 2) := by decide +kernel
theorem dX9_field_69 : decode cX9_field 69 = .ok (.invokevirtual 170, 3) := by decide +kernel
theorem dX9_field_72 : decode cX9_field 72 = .ok (.istore 7, 2) := by decide +kernel
theorem dX9_field_74 : decode cX9_field 74 = .ok (.iload 7, 2) := by decide +kernel
theorem dX9_field_76 : decode cX9_field 76 = .ok (.bipush 9, 2) := by decide +kernel
theorem dX9_field_78 : decode cX9_field 78 = .ok (.if_icmp .eq 19, 3) := by decide +kernel
theorem dX9_field_81 : decode cX9_field 81 = .ok (.iload 7, 2) := by decide +kernel
theorem dX9_field_83 : decode cX9_field 83 = .ok (.bipush 32, 2) := by decide +kernel
theorem dX9_field_85 : decode cX9_field 85 = .ok (.if_icmp .lt 10, 3) := by decide +kernel
theorem dX9_field_88 : decode cX9_field 88 = .ok (.iload 7, 2) := by decide +kernel
theorem dX9_field_90 : decode cX9_field 90 = .ok (.bipush 127, 2) := by decide +kernel
theorem dX9_field_92 : decode cX9_field 92 = .ok (.if_icmp .ne 5, 3) := by decide +kernel
theorem dX9_field_95 : decode cX9_field 95 = .ok (.iconst 0, 1) := by decide +kernel
theorem dX9_field_96 : decode cX9_field 96 = .ok (.ireturn, 1) := by decide +kernel
theorem dX9_field_97 : decode cX9_field 97 = .ok (.iinc 6 1, 3) := by decide +kernel
theorem dX9_field_100 : decode cX9_field 100 = .ok (.goto (-41), 3) := by decide +kernel
theorem dX9_field_103 : decode cX9_field 103 = .ok (.iload 4, 2) := by decide +kernel
theorem dX9_field_105 : decode cX9_field 105 = .ok (.iload 5, 2) := by decide +kernel
theorem dX9_field_107 : decode cX9_field 107 = .ok (.if_icmp .ge 21, 3) := by decide +kernel
theorem dX9_field_110 : decode cX9_field 110 = .ok (.aload_n 0, 1) := by decide +kernel
theorem dX9_field_111 : decode cX9_field 111 = .ok (.iload 4, 2) := by decide +kernel
theorem dX9_field_113 : decode cX9_field 113 = .ok (.invokevirtual 170, 3) := by decide +kernel
theorem dX9_field_116 : decode cX9_field 116 = .ok (.invokestatic 212, 3) := by decide +kernel
theorem dX9_field_119 : decode cX9_field 119 = .ok (.ifCond .eq 9, 3) := by decide +kernel
theorem dX9_field_122 : decode cX9_field 122 = .ok (.iinc 4 1, 3) := by decide +kernel
theorem dX9_field_125 : decode cX9_field 125 = .ok (.goto (-22), 3) := by decide +kernel
theorem dX9_field_128 : decode cX9_field 128 = .ok (.iload 5, 2) := by decide +kernel
theorem dX9_field_130 : decode cX9_field 130 = .ok (.iload 4, 2) := by decide +kernel
theorem dX9_field_132 : decode cX9_field 132 = .ok (.if_icmp .le 23, 3) := by decide +kernel
theorem dX9_field_135 : decode cX9_field 135 = .ok (.aload_n 0, 1) := by decide +kernel
theorem dX9_field_136 : decode cX9_field 136 = .ok (.iload 5, 2) := by decide +kernel
theorem dX9_field_138 : decode cX9_field 138 = .ok (.iconst 1, 1) := by decide +kernel
theorem dX9_field_139 : decode cX9_field 139 = .ok (.isub, 1) := by decide +kernel
theorem dX9_field_140 : decode cX9_field 140 = .ok (.invokevirtual 170, 3) := by decide +kernel
theorem dX9_field_143 : decode cX9_field 143 = .ok (.invokestatic 212, 3) := by decide +kernel
theorem dX9_field_146 : decode cX9_field 146 = .ok (.ifCond .eq 9, 3) := by decide +kernel
theorem dX9_field_149 : decode cX9_field 149 = .ok (.iinc 5 (-1), 3) := by decide +kernel
theorem dX9_field_152 : decode cX9_field 152 = .ok (.goto (-24), 3) := by decide +kernel
theorem dX9_field_155 : decode cX9_field 155 = .ok (.aload_n 0, 1) := by decide +kernel
theorem dX9_field_156 : decode cX9_field 156 = .ok (.iload_n 1, 1) := by decide +kernel
theorem dX9_field_157 : decode cX9_field 157 = .ok (.iload_n 3, 1) := by decide +kernel
theorem dX9_field_158 : decode cX9_field 158 = .ok (.ldc 215, 2) := by decide +kernel
theorem dX9_field_160 : decode cX9_field 160 = .ok (.invokevirtual 217, 3) := by decide +kernel
theorem dX9_field_163 : decode cX9_field 163 = .ok (.ifCond .eq 13, 3) := by decide +kernel
theorem dX9_field_166 : decode cX9_field 166 = .ok (.aload_n 0, 1) := by decide +kernel
theorem dX9_field_167 : decode cX9_field 167 = .ok (.dup, 1) := by decide +kernel
theorem dX9_field_168 : decode cX9_field 168 = .ok (.getfield 130, 3) := by decide +kernel
theorem dX9_field_171 : decode cX9_field 171 = .ok (.iconst 1, 1) := by decide +kernel
theorem dX9_field_172 : decode cX9_field 172 = .ok (.iadd, 1) := by decide +kernel
theorem dX9_field_173 : decode cX9_field 173 = .ok (.putfield 130, 3) := by decide +kernel
theorem dX9_field_176 : decode cX9_field 176 = .ok (.aload_n 0, 1) := by decide +kernel
theorem dX9_field_177 : decode cX9_field 177 = .ok (.iload_n 1, 1) := by decide +kernel
theorem dX9_field_178 : decode cX9_field 178 = .ok (.iload_n 3, 1) := by decide +kernel
theorem dX9_field_179 : decode cX9_field 179 = .ok (.ldc 220, 2) := by decide +kernel
theorem dX9_field_181 : decode cX9_field 181 = .ok (.invokevirtual 217, 3) := by decide +kernel
theorem dX9_field_184 : decode cX9_field 184 = .ok (.ifCond .eq 8, 3) := by decide +kernel
theorem dX9_field_187 : decode cX9_field 187 = .ok (.aload_n 0, 1) := by decide +kernel
theorem dX9_field_188 : decode cX9_field 188 = .ok (.iconst 1, 1) := by decide +kernel
theorem dX9_field_189 : decode cX9_field 189 = .ok (.putfield 148, 3) := by decide +kernel
theorem dX9_field_192 : decode cX9_field 192 = .ok (.aload_n 0, 1) := by decide +kernel
theorem dX9_field_193 : decode cX9_field 193 = .ok (.iload_n 1, 1) := by decide +kernel
theorem dX9_field_194 : decode cX9_field 194 = .ok (.iload_n 3, 1) := by decide +kernel
theorem dX9_field_195 : decode cX9_field 195 = .ok (.ldc 222, 2) := by decide +kernel
theorem dX9_field_197 : decode cX9_field 197 = .ok (.invokevirtual 217, 3) := by decide +kernel
theorem dX9_field_200 : decode cX9_field 200 = .ok (.ifCond .eq 11, 3) := by decide +kernel
theorem dX9_field_203 : decode cX9_field 203 = .ok (.aload_n 0, 1) := by decide +kernel
theorem dX9_field_204 : decode cX9_field 204 = .ok (.iload 4, 2) := by decide +kernel
theorem dX9_field_206 : decode cX9_field 206 = .ok (.iload 5, 2) := by decide +kernel
theorem dX9_field_208 : decode cX9_field 208 = .ok (.invokevirtual 224, 3) := by decide +kernel
theorem dX9_field_211 : decode cX9_field 211 = .ok (.aload_n 0, 1) := by decide +kernel
theorem dX9_field_212 : decode cX9_field 212 = .ok (.iload_n 1, 1) := by decide +kernel
theorem dX9_field_213 : decode cX9_field 213 = .ok (.iload_n 3, 1) := by decide +kernel
theorem dX9_field_214 : decode cX9_field 214 = .ok (.ldc 228, 2) := by decide +kernel
theorem dX9_field_216 : decode cX9_field 216 = .ok (.invokevirtual 217, 3) := by decide +kernel
theorem dX9_field_219 : decode cX9_field 219 = .ok (.ifCond .eq 11, 3) := by decide +kernel
theorem dX9_field_222 : decode cX9_field 222 = .ok (.aload_n 0, 1) := by decide +kernel
theorem dX9_field_223 : decode cX9_field 223 = .ok (.iload 4, 2) := by decide +kernel
theorem dX9_field_225 : decode cX9_field 225 = .ok (.iload 5, 2) := by decide +kernel
theorem dX9_field_227 : decode cX9_field 227 = .ok (.invokevirtual 230, 3) := by decide +kernel
theorem dX9_field_230 : decode cX9_field 230 = .ok (.aload_n 0, 1) := by decide +kernel
theorem dX9_field_231 : decode cX9_field 231 = .ok (.iload_n 1, 1) := by decide +kernel
theorem dX9_field_232 : decode cX9_field 232 = .ok (.iload_n 3, 1) := by decide +kernel
theorem dX9_field_233 : decode cX9_field 233 = .ok (.ldc 233, 2) := by decide +kernel
theorem dX9_field_235 : decode cX9_field 235 = .ok (.invokevirtual 217, 3) := by decide +kernel
theorem dX9_field_238 : decode cX9_field 238 = .ok (.ifCond .eq 25, 3) := by decide +kernel
theorem dX9_field_241 : decode cX9_field 241 = .ok (.aload_n 0, 1) := by decide +kernel
theorem dX9_field_242 : decode cX9_field 242 = .ok (.dup, 1) := by decide +kernel
theorem dX9_field_243 : decode cX9_field 243 = .ok (.getfield 136, 3) := by decide +kernel
theorem dX9_field_246 : decode cX9_field 246 = .ok (.iconst 1, 1) := by decide +kernel
theorem dX9_field_247 : decode cX9_field 247 = .ok (.iadd, 1) := by decide +kernel
theorem dX9_field_248 : decode cX9_field 248 = .ok (.putfield 136, 3) := by decide +kernel
theorem dX9_field_251 : decode cX9_field 251 = .ok (.aload_n 0, 1) := by decide +kernel
theorem dX9_field_252 : decode cX9_field 252 = .ok (.iload 4, 2) := by decide +kernel
theorem dX9_field_254 : decode cX9_field 254 = .ok (.putfield 235, 3) := by decide +kernel
theorem dX9_field_257 : decode cX9_field 257 = .ok (.aload_n 0, 1) := by decide +kernel
theorem dX9_field_258 : decode cX9_field 258 = .ok (.iload 5, 2) := by decide +kernel
theorem dX9_field_260 : decode cX9_field 260 = .ok (.putfield 238, 3) := by decide +kernel
theorem dX9_field_263 : decode cX9_field 263 = .ok (.iconst 1, 1) := by decide +kernel
theorem dX9_field_264 : decode cX9_field 264 = .ok (.ireturn, 1) := by decide +kernel
set_option maxRecDepth 20000 in
theorem ggX9_contentLength_X9_headAt : GoodIn wsX9_contentLength wsX9_headAt := goodIn_r _ [10, 11, 15, 16, 17, 18, 19, 20, 21, 22, 23, 24, 25, 26, 27, 28, 29, 30, 31, 32, 33, 34, 35, 36, 37, 38, 39, 40, 41, 42, 43, 44, 45, 46, 47, 48, 49, 50, 51, 52, 53] (by decide +kernel) (by decide +kernel)
set_option maxRecDepth 20000 in
theorem gX9_contentLength_X9_headAt : GoodIn wsX9_contentLength (wsV RX9 170 RX9 yX9_headAt wsX9_headAt) := goodIn_app (goodIn_of _ (by decide +kernel)) ggX9_contentLength_X9_headAt
set_option maxRecDepth 20000 in
theorem ggX9_contentLength_X9_isDigit : GoodIn wsX9_contentLength wsX9_isDigit := goodIn_r _ [14] (by decide +kernel) (by decide +kernel)
set_option maxRecDepth 20000 in
theorem gX9_contentLength_X9_isDigit : GoodIn wsX9_contentLength (va_wsS RX9 206 yX9_isDigit wsX9_isDigit) := goodIn_app (goodIn_of _ (by decide +kernel)) ggX9_contentLength_X9_isDigit
theorem dX9_contentLength_0 : decode cX9_contentLength 0 = .ok (.aload_n 0, 1) := by decide +kernel
theorem dX9_contentLength_1 : decode cX9_contentLength 1 = .ok (.dup, 1) := by decide +kernel
theorem dX9_contentLength_2 : decode cX9_contentLength 2 = .ok (.getfield 133, 3) := by decide +kernel
theorem dX9_contentLength_5 : decode cX9_contentLength 5 = .ok (.iconst 1, 1) := by decide +kernel
theorem dX9_contentLength_6 : decode cX9_contentLength 6 = .ok (.iadd, 1) := by decide +kernel
theorem dX9_contentLength_7 : decode cX9_contentLength 7 = .ok (.putfield 133, 3) := by decide +kernel
theorem dX9_contentLength_10 : decode cX9_contentLength 10 = .ok (.iconst 0, 1) := by decide +kernel
theorem dX9_contentLength_11 : decode cX9_contentLength 11 = .ok (.istore_n 3, 1) := by decide +kernel
theorem dX9_contentLength_12 : decode cX9_contentLength 12 = .ok (.iload_n 2, 1) := by decide +kernel
theorem dX9_contentLength_13 : decode cX9_contentLength 13 = .ok (.iload_n 1, 1) := by decide +kernel
theorem dX9_contentLength_14 : decode cX9_contentLength 14 = .ok (.isub, 1) := by decide +kernel
theorem dX9_contentLength_15 : decode cX9_contentLength 15 = .ok (.iconst 1, 1) := by decide +kernel
theorem dX9_contentLength_16 : decode cX9_contentLength 16 = .ok (.if_icmp .lt 15, 3) := by decide +kernel
theorem dX9_contentLength_19 : decode cX9_contentLength 19 = .ok (.iload_n 2, 1) := by decide +kernel
theorem dX9_contentLength_20 : decode cX9_contentLength 20 = .ok (.iload_n 1, 1) := by decide +kernel
theorem dX9_contentLength_21 : decode cX9_contentLength 21 = .ok (.isub, 1) := by decide +kernel
theorem dX9_contentLength_22 : decode cX9_contentLength 22 = .ok (.bipush 9, 2) := by decide +kernel
theorem dX9_contentLength_24 : decode cX9_contentLength 24 = .ok (.if_icmp .gt 7, 3) := by decide +kernel
theorem dX9_contentLength_27 : decode cX9_contentLength 27 = .ok (.iconst 1, 1) := by decide +kernel
theorem dX9_contentLength_28 : decode cX9_contentLength 28 = .ok (.goto 4, 3) := by decide +kernel
theorem dX9_contentLength_31 : decode cX9_contentLength 31 = .ok (.iconst 0, 1) := by decide +kernel
theorem dX9_contentLength_32 : decode cX9_contentLength 32 = .ok (.istore 4, 2) := by decide +kernel
theorem dX9_contentLength_34 : decode cX9_contentLength 34 = .ok (.iload_n 1, 1) := by decide +kernel
theorem dX9_contentLength_35 : decode cX9_contentLength 35 = .ok (.istore 5, 2) := by decide +kernel
theorem dX9_contentLength_37 : decode cX9_contentLength 37 = .ok (.iload 5, 2) := by decide +kernel
theorem dX9_contentLength_39 : decode cX9_contentLength 39 = .ok (.iload_n 2, 1) := by decide +kernel
theorem dX9_contentLength_40 : decode cX9_contentLength 40 = .ok (.if_icmp .ge 40, 3) := by decide +kernel
theorem dX9_contentLength_43 : decode cX9_contentLength 43 = .ok (.iload 4, 2) := by decide +kernel
theorem dX9_contentLength_45 : decode cX9_contentLength 45 = .ok (.ifCond .eq 35, 3) := by decide +kernel
theorem dX9_contentLength_48 : decode cX9_contentLength 48 = .ok (.aload_n 0, 1) := by decide +kernel
theorem dX9_contentLength_49 : decode cX9_contentLength 49 = .ok (.iload 5, 2) := by decide +kernel
theorem dX9_contentLength_51 : decode cX9_contentLength 51 = .ok (.invokevirtual 170, 3) := by decide +kernel
theorem dX9_contentLength_54 : decode cX9_contentLength 54 = .ok (.invokestatic 206, 3) := by decide +kernel
theorem dX9_contentLength_57 : decode cX9_contentLength 57 = .ok (.istore 4, 2) := by decide +kernel
theorem dX9_contentLength_59 : decode cX9_contentLength 59 = .ok (.bipush 10, 2) := by decide +kernel
theorem dX9_contentLength_61 : decode cX9_contentLength 61 = .ok (.iload_n 3, 1) := by decide +kernel
theorem dX9_contentLength_62 : decode cX9_contentLength 62 = .ok (.imul, 1) := by decide +kernel
theorem dX9_contentLength_63 : decode cX9_contentLength 63 = .ok (.aload_n 0, 1) := by decide +kernel
theorem dX9_contentLength_64 : decode cX9_contentLength 64 = .ok (.iload 5, 2) := by decide +kernel
theorem dX9_contentLength_66 : decode cX9_contentLength 66 = .ok (.invokevirtual 170, 3) := by decide +kernel
theorem dX9_contentLength_69 : decode cX9_contentLength 69 = .ok (.iadd, 1) := by decide +kernel
theorem dX9_contentLength_70 : decode cX9_contentLength 70 = .ok (.bipush 48, 2) := by decide +kernel
theorem dX9_contentLength_72 : decode cX9_contentLength 72 = .ok (.isub, 1) := by decide +kernel
theorem dX9_contentLength_73 : decode cX9_contentLength 73 = .ok (.istore_n 3, 1) := by decide +kernel
theorem dX9_contentLength_74 : decode cX9_contentLength 74 = .ok (.iinc 5 1, 3) := by decide +kernel
theorem dX9_contentLength_77 : decode cX9_contentLength 77 = .ok (.goto (-40), 3) := by decide +kernel
theorem dX9_contentLength_80 : decode cX9_contentLength 80 = .ok (.iload 4, 2) := by decide +kernel
theorem dX9_contentLength_82 : decode cX9_contentLength 82 = .ok (.ifCond .ne 11, 3) := by decide +kernel
theorem dX9_contentLength_85 : decode cX9_contentLength 85 = .ok (.aload_n 0, 1) := by decide +kernel
theorem dX9_contentLength_86 : decode cX9_contentLength 86 = .ok (.iconst 1, 1) := by decide +kernel
theorem dX9_contentLength_87 : decode cX9_contentLength 87 = .ok (.putfield 142, 3) := by decide +kernel
theorem dX9_contentLength_90 : decode cX9_contentLength 90 = .ok (.goto 22, 3) := by decide +kernel
theorem dX9_contentLength_93 : decode cX9_contentLength 93 = .ok (.iload_n 3, 1) := by decide +kernel
theorem dX9_contentLength_94 : decode cX9_contentLength 94 = .ok (.ldc 241, 2) := by decide +kernel
theorem dX9_contentLength_96 : decode cX9_contentLength 96 = .ok (.if_icmp .le 11, 3) := by decide +kernel
theorem dX9_contentLength_99 : decode cX9_contentLength 99 = .ok (.aload_n 0, 1) := by decide +kernel
theorem dX9_contentLength_100 : decode cX9_contentLength 100 = .ok (.iconst 1, 1) := by decide +kernel
theorem dX9_contentLength_101 : decode cX9_contentLength 101 = .ok (.putfield 145, 3) := by decide +kernel
theorem dX9_contentLength_104 : decode cX9_contentLength 104 = .ok (.goto 8, 3) := by decide +kernel
theorem dX9_contentLength_107 : decode cX9_contentLength 107 = .ok (.aload_n 0, 1) := by decide +kernel
theorem dX9_contentLength_108 : decode cX9_contentLength 108 = .ok (.iload_n 3, 1) := by decide +kernel
theorem dX9_contentLength_109 : decode cX9_contentLength 109 = .ok (.putfield 139, 3) := by decide +kernel
theorem dX9_contentLength_112 : decode cX9_contentLength 112 = .ok (.return_, 1) := by decide +kernel
set_option maxRecDepth 20000 in
theorem ggX9_words_X9_headAt : GoodIn wsX9_words wsX9_headAt := goodIn_r _ [7, 8, 68, 69, 70, 71, 72, 73, 74, 75, 76, 77, 78, 79, 80, 81, 82, 83, 84, 85, 86, 87, 88, 89, 90, 91, 92, 93, 94, 95, 96, 97, 98, 99, 100, 101, 102, 103, 104, 105, 106] (by decide +kernel) (by decide +kernel)
set_option maxRecDepth 20000 in
theorem gX9_words_X9_headAt : GoodIn wsX9_words (wsV RX9 170 RX9 yX9_headAt wsX9_headAt) := goodIn_app (goodIn_of _ (by decide +kernel)) ggX9_words_X9_headAt
set_option maxRecDepth 20000 in
theorem ggX9_words_X9_isBlank : GoodIn wsX9_words wsX9_isBlank := goodIn_r _ [11] (by decide +kernel) (by decide +kernel)
set_option maxRecDepth 20000 in
theorem gX9_words_X9_isBlank : GoodIn wsX9_words (va_wsS RX9 212 yX9_isBlank wsX9_isBlank) := goodIn_app (goodIn_of _ (by decide +kernel)) ggX9_words_X9_isBlank
set_option maxRecDepth 20000 in
theorem ggX9_words_X9_saysSmall : GoodIn wsX9_words wsX9_saysSmall := goodIn_r _ [15, 16, 17, 18, 19, 20, 21, 22, 23, 24, 25, 26, 27, 3, 4, 5, 6, 7, 8, 28, 29, 30, 31, 32, 33, 34, 35, 36, 37, 38, 39, 40, 41, 42, 43, 44, 45, 46, 47, 48, 49, 50, 51, 52, 53, 54, 55, 56, 57, 58, 59, 60, 61, 62, 63, 64, 65, 66, 67, 68, 69, 70, 71, 72, 73, 74, 75, 76, 77, 78, 79, 80, 81, 82, 83, 84, 85, 86, 87, 88, 89, 90, 91, 92, 93, 94, 95, 96, 97, 98, 99, 100, 101, 102, 103, 104, 105, 106] rfl (by decide +kernel)
set_option maxRecDepth 20000 in
theorem gX9_words_X9_saysSmall : GoodIn wsX9_words (wsV RX9 217 RX9 yX9_saysSmall wsX9_saysSmall) := goodIn_app (goodIn_of _ (by decide +kernel)) ggX9_words_X9_saysSmall
theorem dX9_words_0 : decode cX9_words 0 = .ok (.iload_n 1, 1) := by decide +kernel
theorem dX9_words_1 : decode cX9_words 1 = .ok (.istore_n 3, 1) := by decide +kernel
theorem dX9_words_2 : decode cX9_words 2 = .ok (.iload_n 1, 1) := by decide +kernel
theorem dX9_words_3 : decode cX9_words 3 = .ok (.istore 4, 2) := by decide +kernel
theorem dX9_words_5 : decode cX9_words 5 = .ok (.iload 4, 2) := by decide +kernel
theorem dX9_words_7 : decode cX9_words 7 = .ok (.iload_n 2, 1) := by decide +kernel
theorem dX9_words_8 : decode cX9_words 8 = .ok (.if_icmp .gt 77, 3) := by decide +kernel
theorem dX9_words_11 : decode cX9_words 11 = .ok (.iload 4, 2) := by decide +kernel
theorem dX9_words_13 : decode cX9_words 13 = .ok (.iload_n 2, 1) := by decide +kernel
theorem dX9_words_14 : decode cX9_words 14 = .ok (.if_icmp .eq 26, 3) := by decide +kernel
theorem dX9_words_17 : decode cX9_words 17 = .ok (.aload_n 0, 1) := by decide +kernel
theorem dX9_words_18 : decode cX9_words 18 = .ok (.iload 4, 2) := by decide +kernel
theorem dX9_words_20 : decode cX9_words 20 = .ok (.invokevirtual 170, 3) := by decide +kernel
theorem dX9_words_23 : decode cX9_words 23 = .ok (.bipush 44, 2) := by decide +kernel
theorem dX9_words_25 : decode cX9_words 25 = .ok (.if_icmp .eq 15, 3) := by decide +kernel
theorem dX9_words_28 : decode cX9_words 28 = .ok (.aload_n 0, 1) := by decide +kernel
theorem dX9_words_29 : decode cX9_words 29 = .ok (.iload 4, 2) := by decide +kernel
theorem dX9_words_31 : decode cX9_words 31 = .ok (.invokevirtual 170, 3) := by decide +kernel
theorem dX9_words_34 : decode cX9_words 34 = .ok (.invokestatic 212, 3) := by decide +kernel
theorem dX9_words_37 : decode cX9_words 37 = .ok (.ifCond .eq 42, 3) := by decide +kernel
theorem dX9_words_40 : decode cX9_words 40 = .ok (.aload_n 0, 1) := by decide +kernel
theorem dX9_words_41 : decode cX9_words 41 = .ok (.iload_n 3, 1) := by decide +kernel
theorem dX9_words_42 : decode cX9_words 42 = .ok (.iload 4, 2) := by decide +kernel
theorem dX9_words_44 : decode cX9_words 44 = .ok (.ldc 242, 2) := by decide +kernel
theorem dX9_words_46 : decode cX9_words 46 = .ok (.invokevirtual 217, 3) := by decide +kernel
theorem dX9_words_49 : decode cX9_words 49 = .ok (.ifCond .eq 8, 3) := by decide +kernel
theorem dX9_words_52 : decode cX9_words 52 = .ok (.aload_n 0, 1) := by decide +kernel
theorem dX9_words_53 : decode cX9_words 53 = .ok (.iconst 1, 1) := by decide +kernel
theorem dX9_words_54 : decode cX9_words 54 = .ok (.putfield 124, 3) := by decide +kernel
theorem dX9_words_57 : decode cX9_words 57 = .ok (.aload_n 0, 1) := by decide +kernel
theorem dX9_words_58 : decode cX9_words 58 = .ok (.iload_n 3, 1) := by decide +kernel
theorem dX9_words_59 : decode cX9_words 59 = .ok (.iload 4, 2) := by decide +kernel
theorem dX9_words_61 : decode cX9_words 61 = .ok (.ldc 243, 2) := by decide +kernel
theorem dX9_words_63 : decode cX9_words 63 = .ok (.invokevirtual 217, 3) := by decide +kernel
theorem dX9_words_66 : decode cX9_words 66 = .ok (.ifCond .eq 8, 3) := by decide +kernel
theorem dX9_words_69 : decode cX9_words 69 = .ok (.aload_n 0, 1) := by decide +kernel
theorem dX9_words_70 : decode cX9_words 70 = .ok (.iconst 1, 1) := by decide +kernel
theorem dX9_words_71 : decode cX9_words 71 = .ok (.putfield 127, 3) := by decide +kernel
theorem dX9_words_74 : decode cX9_words 74 = .ok (.iload 4, 2) := by decide +kernel
theorem dX9_words_76 : decode cX9_words 76 = .ok (.iconst 1, 1) := by decide +kernel
theorem dX9_words_77 : decode cX9_words 77 = .ok (.iadd, 1) := by decide +kernel
theorem dX9_words_78 : decode cX9_words 78 = .ok (.istore_n 3, 1) := by decide +kernel
theorem dX9_words_79 : decode cX9_words 79 = .ok (.iinc 4 1, 3) := by decide +kernel
theorem dX9_words_82 : decode cX9_words 82 = .ok (.goto (-77), 3) := by decide +kernel
theorem dX9_words_85 : decode cX9_words 85 = .ok (.return_, 1) := by decide +kernel
set_option maxRecDepth 20000 in
theorem ggX9_chosen_X9_unfolded : GoodIn wsX9_chosen wsX9_unfolded := goodIn_r _ [17, 18, 19, 20, 21, 22, 23, 24, 25, 16, 26, 27, 28, 29, 30, 31, 32, 33, 34, 35, 36, 37, 38, 39, 40, 41, 42, 43, 44, 45, 46, 47, 48, 49, 50, 51, 52, 53, 54, 55, 56, 57, 58, 59, 60, 61, 62, 63, 64, 65, 66, 67, 68, 69, 70, 71, 72, 73, 74, 75, 76, 77, 78, 79, 80, 81, 82, 83, 84, 110, 111, 112, 113, 114, 115, 116, 117, 118, 119, 120, 121, 122, 123, 124, 125, 126, 127, 128, 129, 130, 131, 132, 133, 134, 135, 136, 137, 138, 139, 140, 141, 142, 143, 144, 145, 146, 147, 148] rfl (by decide +kernel)
set_option maxRecDepth 20000 in
theorem gX9_chosen_X9_unfolded : GoodIn wsX9_chosen (wsV RX9 245 RX9 yX9_unfolded wsX9_unfolded) := goodIn_app (goodIn_of _ (by decide +kernel)) ggX9_chosen_X9_unfolded
set_option maxRecDepth 20000 in
theorem ggX9_chosen_X9_fileOf : GoodIn wsX9_chosen wsX9_fileOf := goodIn_r _ [88, 89, 18, 90, 22, 110, 111, 112, 113, 114, 115, 116, 117, 118, 119, 120, 121, 122, 123, 124, 125, 126, 127, 128, 129, 130, 131, 132, 133, 134, 135, 136, 137, 138, 139, 140, 141, 142, 143, 144, 145, 146, 147, 148] (by decide +kernel) (by decide +kernel)
set_option maxRecDepth 20000 in
theorem gX9_chosen_X9_fileOf : GoodIn wsX9_chosen (wsV RX9 249 RX9 yX9_fileOf wsX9_fileOf) := goodIn_app (goodIn_of _ (by decide +kernel)) ggX9_chosen_X9_fileOf
set_option maxRecDepth 20000 in
theorem ggX9_chosen_X9_check : GoodIn wsX9_chosen wsX9_check := goodIn_r _ [94, 95, 96, 110, 111, 112, 113, 114, 115, 116, 117, 118, 119, 120, 121, 122, 123, 124, 125, 126, 127, 128, 129, 130, 131, 132, 133, 134, 135, 136, 137, 138, 139, 140, 141, 142, 143, 144, 145, 146, 147, 148] (by decide +kernel) (by decide +kernel)
set_option maxRecDepth 20000 in
theorem gX9_chosen_X9_check : GoodIn wsX9_chosen (wsV RX9 74 RX9 yX9_check wsX9_check) := goodIn_app (goodIn_of _ (by decide +kernel)) ggX9_chosen_X9_check
set_option maxRecDepth 20000 in
theorem ggX9_chosen_X9_fits : GoodIn wsX9_chosen wsX9_fits := goodIn_r _ [100, 101, 102, 21, 11, 103, 104, 105, 16, 106, 36, 37, 38, 39, 40, 41, 42, 43, 44, 45, 46, 47, 23, 24, 25, 26, 48, 49, 50, 51, 52, 53, 54, 55, 56, 57, 58, 59, 60, 61, 62, 63, 64, 65, 66, 67, 68, 69, 70, 71, 72, 73, 74, 75, 76, 77, 78, 79, 80, 81, 82, 83, 84, 107, 108, 109, 110, 111, 112, 113, 114, 115, 116, 117, 118, 119, 120, 121, 122, 123, 124, 125, 126, 127, 128, 129, 130, 131, 132, 133, 134, 135, 136, 137, 138, 139, 140, 141, 142, 143, 144, 145, 146, 147, 148] rfl (by decide +kernel)
set_option maxRecDepth 20000 in
theorem gX9_chosen_X9_fits : GoodIn wsX9_chosen (wsV RX9 252 RX9 yX9_fits wsX9_fits) := goodIn_app (goodIn_of _ (by decide +kernel)) ggX9_chosen_X9_fits
theorem dX9_chosen_0 : decode cX9_chosen 0 = .ok (.aload_n 0, 1) := by decide +kernel
theorem dX9_chosen_1 : decode cX9_chosen 1 = .ok (.getfield 130, 3) := by decide +kernel
theorem dX9_chosen_4 : decode cX9_chosen 4 = .ok (.iconst 1, 1) := by decide +kernel
theorem dX9_chosen_5 : decode cX9_chosen 5 = .ok (.if_icmp .gt 17, 3) := by decide +kernel
theorem dX9_chosen_8 : decode cX9_chosen 8 = .ok (.aload_n 0, 1) := by decide +kernel
theorem dX9_chosen_9 : decode cX9_chosen 9 = .ok (.getfield 121, 3) := by decide +kernel
theorem dX9_chosen_12 : decode cX9_chosen 12 = .ok (.ifCond .ne 20, 3) := by decide +kernel
theorem dX9_chosen_15 : decode cX9_chosen 15 = .ok (.aload_n 0, 1) := by decide +kernel
theorem dX9_chosen_16 : decode cX9_chosen 16 = .ok (.getfield 130, 3) := by decide +kernel
theorem dX9_chosen_19 : decode cX9_chosen 19 = .ok (.ifCond .ne 13, 3) := by decide +kernel
theorem dX9_chosen_22 : decode cX9_chosen 22 = .ok (.aload_n 0, 1) := by decide +kernel
theorem dX9_chosen_23 : decode cX9_chosen 23 = .ok (.sipush 400, 3) := by decide +kernel
theorem dX9_chosen_26 : decode cX9_chosen 26 = .ok (.putfield 111, 3) := by decide +kernel
theorem dX9_chosen_29 : decode cX9_chosen 29 = .ok (.goto 93, 3) := by decide +kernel
theorem dX9_chosen_32 : decode cX9_chosen 32 = .ok (.aload_n 0, 1) := by decide +kernel
theorem dX9_chosen_33 : decode cX9_chosen 33 = .ok (.getfield 148, 3) := by decide +kernel
theorem dX9_chosen_36 : decode cX9_chosen 36 = .ok (.ifCond .eq 13, 3) := by decide +kernel
theorem dX9_chosen_39 : decode cX9_chosen 39 = .ok (.aload_n 0, 1) := by decide +kernel
theorem dX9_chosen_40 : decode cX9_chosen 40 = .ok (.sipush 501, 3) := by decide +kernel
theorem dX9_chosen_43 : decode cX9_chosen 43 = .ok (.putfield 111, 3) := by decide +kernel
theorem dX9_chosen_46 : decode cX9_chosen 46 = .ok (.goto 76, 3) := by decide +kernel
theorem dX9_chosen_49 : decode cX9_chosen 49 = .ok (.aload_n 0, 1) := by decide +kernel
theorem dX9_chosen_50 : decode cX9_chosen 50 = .ok (.getfield 133, 3) := by decide +kernel
theorem dX9_chosen_53 : decode cX9_chosen 53 = .ok (.iconst 1, 1) := by decide +kernel
theorem dX9_chosen_54 : decode cX9_chosen 54 = .ok (.if_icmp .gt 10, 3) := by decide +kernel
theorem dX9_chosen_57 : decode cX9_chosen 57 = .ok (.aload_n 0, 1) := by decide +kernel
theorem dX9_chosen_58 : decode cX9_chosen 58 = .ok (.getfield 142, 3) := by decide +kernel
theorem dX9_chosen_61 : decode cX9_chosen 61 = .ok (.ifCond .eq 13, 3) := by decide +kernel
theorem dX9_chosen_64 : decode cX9_chosen 64 = .ok (.aload_n 0, 1) := by decide +kernel
theorem dX9_chosen_65 : decode cX9_chosen 65 = .ok (.sipush 400, 3) := by decide +kernel
theorem dX9_chosen_68 : decode cX9_chosen 68 = .ok (.putfield 111, 3) := by decide +kernel
theorem dX9_chosen_71 : decode cX9_chosen 71 = .ok (.goto 51, 3) := by decide +kernel
theorem dX9_chosen_74 : decode cX9_chosen 74 = .ok (.aload_n 0, 1) := by decide +kernel
theorem dX9_chosen_75 : decode cX9_chosen 75 = .ok (.getfield 145, 3) := by decide +kernel
theorem dX9_chosen_78 : decode cX9_chosen 78 = .ok (.ifCond .eq 13, 3) := by decide +kernel
theorem dX9_chosen_81 : decode cX9_chosen 81 = .ok (.aload_n 0, 1) := by decide +kernel
theorem dX9_chosen_82 : decode cX9_chosen 82 = .ok (.sipush 413, 3) := by decide +kernel
theorem dX9_chosen_85 : decode cX9_chosen 85 = .ok (.putfield 111, 3) := by decide +kernel
theorem dX9_chosen_88 : decode cX9_chosen 88 = .ok (.goto 34, 3) := by decide +kernel
theorem dX9_chosen_91 : decode cX9_chosen 91 = .ok (.aload_n 0, 1) := by decide +kernel
theorem dX9_chosen_92 : decode cX9_chosen 92 = .ok (.getfield 185, 3) := by decide +kernel
theorem dX9_chosen_95 : decode cX9_chosen 95 = .ok (.ifCond .eq 13, 3) := by decide +kernel
theorem dX9_chosen_98 : decode cX9_chosen 98 = .ok (.aload_n 0, 1) := by decide +kernel
theorem dX9_chosen_99 : decode cX9_chosen 99 = .ok (.sipush 405, 3) := by decide +kernel
theorem dX9_chosen_102 : decode cX9_chosen 102 = .ok (.putfield 111, 3) := by decide +kernel
theorem dX9_chosen_105 : decode cX9_chosen 105 = .ok (.goto 17, 3) := by decide +kernel
theorem dX9_chosen_108 : decode cX9_chosen 108 = .ok (.aload_n 0, 1) := by decide +kernel
theorem dX9_chosen_109 : decode cX9_chosen 109 = .ok (.invokevirtual 245, 3) := by decide +kernel
theorem dX9_chosen_112 : decode cX9_chosen 112 = .ok (.ifCond .ne 10, 3) := by decide +kernel
theorem dX9_chosen_115 : decode cX9_chosen 115 = .ok (.aload_n 0, 1) := by decide +kernel
theorem dX9_chosen_116 : decode cX9_chosen 116 = .ok (.sipush 400, 3) := by decide +kernel
theorem dX9_chosen_119 : decode cX9_chosen 119 = .ok (.putfield 111, 3) := by decide +kernel
theorem dX9_chosen_122 : decode cX9_chosen 122 = .ok (.aload_n 0, 1) := by decide +kernel
theorem dX9_chosen_123 : decode cX9_chosen 123 = .ok (.getfield 111, 3) := by decide +kernel
theorem dX9_chosen_126 : decode cX9_chosen 126 = .ok (.ifCond .eq 5, 3) := by decide +kernel
theorem dX9_chosen_129 : decode cX9_chosen 129 = .ok (.iconst (-1), 1) := by decide +kernel
theorem dX9_chosen_130 : decode cX9_chosen 130 = .ok (.ireturn, 1) := by decide +kernel
theorem dX9_chosen_131 : decode cX9_chosen 131 = .ok (.aload_n 0, 1) := by decide +kernel
theorem dX9_chosen_132 : decode cX9_chosen 132 = .ok (.invokevirtual 249, 3) := by decide +kernel
theorem dX9_chosen_135 : decode cX9_chosen 135 = .ok (.istore_n 1, 1) := by decide +kernel
theorem dX9_chosen_136 : decode cX9_chosen 136 = .ok (.iload_n 1, 1) := by decide +kernel
theorem dX9_chosen_137 : decode cX9_chosen 137 = .ok (.ifCond .ge 13, 3) := by decide +kernel
theorem dX9_chosen_140 : decode cX9_chosen 140 = .ok (.aload_n 0, 1) := by decide +kernel
theorem dX9_chosen_141 : decode cX9_chosen 141 = .ok (.sipush 404, 3) := by decide +kernel
theorem dX9_chosen_144 : decode cX9_chosen 144 = .ok (.putfield 111, 3) := by decide +kernel
theorem dX9_chosen_147 : decode cX9_chosen 147 = .ok (.goto 74, 3) := by decide +kernel
theorem dX9_chosen_150 : decode cX9_chosen 150 = .ok (.aload_n 0, 1) := by decide +kernel
theorem dX9_chosen_151 : decode cX9_chosen 151 = .ok (.aload_n 0, 1) := by decide +kernel
theorem dX9_chosen_152 : decode cX9_chosen 152 = .ok (.getfield 21, 3) := by decide +kernel
theorem dX9_chosen_155 : decode cX9_chosen 155 = .ok (.iload_n 1, 1) := by decide +kernel
theorem dX9_chosen_156 : decode cX9_chosen 156 = .ok (.iaload, 1) := by decide +kernel
theorem dX9_chosen_157 : decode cX9_chosen 157 = .ok (.aload_n 0, 1) := by decide +kernel
theorem dX9_chosen_158 : decode cX9_chosen 158 = .ok (.getfield 21, 3) := by decide +kernel
theorem dX9_chosen_161 : decode cX9_chosen 161 = .ok (.iload_n 1, 1) := by decide +kernel
theorem dX9_chosen_162 : decode cX9_chosen 162 = .ok (.iaload, 1) := by decide +kernel
theorem dX9_chosen_163 : decode cX9_chosen 163 = .ok (.aload_n 0, 1) := by decide +kernel
theorem dX9_chosen_164 : decode cX9_chosen 164 = .ok (.getfield 25, 3) := by decide +kernel
theorem dX9_chosen_167 : decode cX9_chosen 167 = .ok (.iload_n 1, 1) := by decide +kernel
theorem dX9_chosen_168 : decode cX9_chosen 168 = .ok (.iaload, 1) := by decide +kernel
theorem dX9_chosen_169 : decode cX9_chosen 169 = .ok (.iadd, 1) := by decide +kernel
theorem dX9_chosen_170 : decode cX9_chosen 170 = .ok (.invokevirtual 74, 3) := by decide +kernel
theorem dX9_chosen_173 : decode cX9_chosen 173 = .ok (.aload_n 0, 1) := by decide +kernel
theorem dX9_chosen_174 : decode cX9_chosen 174 = .ok (.getfield 28, 3) := by decide +kernel
theorem dX9_chosen_177 : decode cX9_chosen 177 = .ok (.iload_n 1, 1) := by decide +kernel
