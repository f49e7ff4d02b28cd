theorem dX9_chosen_178 : decode cX9_chosen 178 = .ok (.iaload, 1) := by decide +kernel
theorem dX9_chosen_179 : decode cX9_chosen 179 = .ok (.if_icmp .eq 13, 3) := by decide +kernel
theorem dX9_chosen_182 : decode cX9_chosen 182 = .ok (.aload_n 0, 1) := by decide +kernel
theorem dX9_chosen_183 : decode cX9_chosen 183 = .ok (.sipush 500, 3) := by decide +kernel
theorem dX9_chosen_186 : decode cX9_chosen 186 = .ok (.putfield 111, 3) := by decide +kernel
theorem dX9_chosen_189 : decode cX9_chosen 189 = .ok (.goto 32, 3) := by decide +kernel
theorem dX9_chosen_192 : decode cX9_chosen 192 = .ok (.aload_n 0, 1) := by decide +kernel
theorem dX9_chosen_193 : decode cX9_chosen 193 = .ok (.aload_n 0, 1) := by decide +kernel
theorem dX9_chosen_194 : decode cX9_chosen 194 = .ok (.getfield 136, 3) := by decide +kernel
theorem dX9_chosen_197 : decode cX9_chosen 197 = .ok (.iconst 1, 1) := by decide +kernel
theorem dX9_chosen_198 : decode cX9_chosen 198 = .ok (.if_icmp .ne 17, 3) := by decide +kernel
theorem dX9_chosen_201 : decode cX9_chosen 201 = .ok (.aload_n 0, 1) := by decide +kernel
theorem dX9_chosen_202 : decode cX9_chosen 202 = .ok (.iload_n 1, 1) := by decide +kernel
theorem dX9_chosen_203 : decode cX9_chosen 203 = .ok (.invokevirtual 252, 3) := by decide +kernel
theorem dX9_chosen_206 : decode cX9_chosen 206 = .ok (.ifCond .eq 9, 3) := by decide +kernel
theorem dX9_chosen_209 : decode cX9_chosen 209 = .ok (.sipush 304, 3) := by decide +kernel
theorem dX9_chosen_212 : decode cX9_chosen 212 = .ok (.goto 6, 3) := by decide +kernel
theorem dX9_chosen_215 : decode cX9_chosen 215 = .ok (.sipush 200, 3) := by decide +kernel
theorem dX9_chosen_218 : decode cX9_chosen 218 = .ok (.putfield 111, 3) := by decide +kernel
theorem dX9_chosen_221 : decode cX9_chosen 221 = .ok (.aload_n 0, 1) := by decide +kernel
theorem dX9_chosen_222 : decode cX9_chosen 222 = .ok (.getfield 111, 3) := by decide +kernel
theorem dX9_chosen_225 : decode cX9_chosen 225 = .ok (.sipush 200, 3) := by decide +kernel
theorem dX9_chosen_228 : decode cX9_chosen 228 = .ok (.if_icmp .eq 13, 3) := by decide +kernel
theorem dX9_chosen_231 : decode cX9_chosen 231 = .ok (.aload_n 0, 1) := by decide +kernel
theorem dX9_chosen_232 : decode cX9_chosen 232 = .ok (.getfield 111, 3) := by decide +kernel
theorem dX9_chosen_235 : decode cX9_chosen 235 = .ok (.sipush 304, 3) := by decide +kernel
theorem dX9_chosen_238 : decode cX9_chosen 238 = .ok (.if_icmp .ne 7, 3) := by decide +kernel
theorem dX9_chosen_241 : decode cX9_chosen 241 = .ok (.iload_n 1, 1) := by decide +kernel
theorem dX9_chosen_242 : decode cX9_chosen 242 = .ok (.goto 4, 3) := by decide +kernel
theorem dX9_chosen_245 : decode cX9_chosen 245 = .ok (.iconst (-1), 1) := by decide +kernel
theorem dX9_chosen_246 : decode cX9_chosen 246 = .ok (.ireturn, 1) := by decide +kernel
set_option maxRecDepth 20000 in
theorem ggX9_hexadecimal_X9_isDigit : GoodIn wsX9_hexadecimal wsX9_isDigit := goodIn_r _ [4] (by decide +kernel) (by decide +kernel)
set_option maxRecDepth 20000 in
theorem gX9_hexadecimal_X9_isDigit : GoodIn wsX9_hexadecimal (va_wsS RX9 206 yX9_isDigit wsX9_isDigit) := goodIn_app (goodIn_of _ (by decide +kernel)) ggX9_hexadecimal_X9_isDigit
set_option maxRecDepth 20000 in
theorem ggX9_hexadecimal_X9_small : GoodIn wsX9_hexadecimal wsX9_small := goodIn_r _ [7] (by decide +kernel) (by decide +kernel)
set_option maxRecDepth 20000 in
theorem gX9_hexadecimal_X9_small : GoodIn wsX9_hexadecimal (va_wsS RX9 203 yX9_small wsX9_small) := goodIn_app (goodIn_of _ (by decide +kernel)) ggX9_hexadecimal_X9_small
theorem dX9_hexadecimal_0 : decode cX9_hexadecimal 0 = .ok (.iload_n 0, 1) := by decide +kernel
theorem dX9_hexadecimal_1 : decode cX9_hexadecimal 1 = .ok (.invokestatic 206, 3) := by decide +kernel
theorem dX9_hexadecimal_4 : decode cX9_hexadecimal 4 = .ok (.ifCond .eq 10, 3) := by decide +kernel
theorem dX9_hexadecimal_7 : decode cX9_hexadecimal 7 = .ok (.iload_n 0, 1) := by decide +kernel
theorem dX9_hexadecimal_8 : decode cX9_hexadecimal 8 = .ok (.bipush 48, 2) := by decide +kernel
theorem dX9_hexadecimal_10 : decode cX9_hexadecimal 10 = .ok (.isub, 1) := by decide +kernel
theorem dX9_hexadecimal_11 : decode cX9_hexadecimal 11 = .ok (.goto 35, 3) := by decide +kernel
theorem dX9_hexadecimal_14 : decode cX9_hexadecimal 14 = .ok (.iload_n 0, 1) := by decide +kernel
theorem dX9_hexadecimal_15 : decode cX9_hexadecimal 15 = .ok (.invokestatic 203, 3) := by decide +kernel
theorem dX9_hexadecimal_18 : decode cX9_hexadecimal 18 = .ok (.bipush 97, 2) := by decide +kernel
theorem dX9_hexadecimal_20 : decode cX9_hexadecimal 20 = .ok (.if_icmp .lt 25, 3) := by decide +kernel
theorem dX9_hexadecimal_23 : decode cX9_hexadecimal 23 = .ok (.iload_n 0, 1) := by decide +kernel
theorem dX9_hexadecimal_24 : decode cX9_hexadecimal 24 = .ok (.invokestatic 203, 3) := by decide +kernel
theorem dX9_hexadecimal_27 : decode cX9_hexadecimal 27 = .ok (.bipush 102, 2) := by decide +kernel
theorem dX9_hexadecimal_29 : decode cX9_hexadecimal 29 = .ok (.if_icmp .gt 16, 3) := by decide +kernel
theorem dX9_hexadecimal_32 : decode cX9_hexadecimal 32 = .ok (.iload_n 0, 1) := by decide +kernel
theorem dX9_hexadecimal_33 : decode cX9_hexadecimal 33 = .ok (.invokestatic 203, 3) := by decide +kernel
theorem dX9_hexadecimal_36 : decode cX9_hexadecimal 36 = .ok (.bipush 97, 2) := by decide +kernel
theorem dX9_hexadecimal_38 : decode cX9_hexadecimal 38 = .ok (.isub, 1) := by decide +kernel
theorem dX9_hexadecimal_39 : decode cX9_hexadecimal 39 = .ok (.bipush 10, 2) := by decide +kernel
theorem dX9_hexadecimal_41 : decode cX9_hexadecimal 41 = .ok (.iadd, 1) := by decide +kernel
theorem dX9_hexadecimal_42 : decode cX9_hexadecimal 42 = .ok (.goto 4, 3) := by decide +kernel
theorem dX9_hexadecimal_45 : decode cX9_hexadecimal 45 = .ok (.iconst (-1), 1) := by decide +kernel
theorem dX9_hexadecimal_46 : decode cX9_hexadecimal 46 = .ok (.ireturn, 1) := by decide +kernel
set_option maxRecDepth 20000 in
theorem ggX9_unfolded_X9_headAt : GoodIn wsX9_unfolded wsX9_headAt := goodIn_r _ [10, 4, 69, 70, 71, 72, 73, 74, 75, 76, 77, 78, 79, 80, 81, 82, 83, 84, 85, 86, 87, 88, 89, 90, 91, 92, 93, 94, 95, 96, 97, 98, 99, 100, 101, 102, 103, 104, 105, 106, 107] (by decide +kernel) (by decide +kernel)
set_option maxRecDepth 20000 in
theorem gX9_unfolded_X9_headAt : GoodIn wsX9_unfolded (wsV RX9 170 RX9 yX9_headAt wsX9_headAt) := goodIn_app (goodIn_of _ (by decide +kernel)) ggX9_unfolded_X9_headAt
set_option maxRecDepth 20000 in
theorem ggX9_unfolded_X9_hexadecimal : GoodIn wsX9_unfolded wsX9_hexadecimal := goodIn_r _ [13, 14, 15, 9, 16, 17, 18, 19] (by decide +kernel) (by decide +kernel)
set_option maxRecDepth 20000 in
theorem gX9_unfolded_X9_hexadecimal : GoodIn wsX9_unfolded (va_wsS RX9 258 yX9_hexadecimal wsX9_hexadecimal) := goodIn_app (goodIn_of _ (by decide +kernel)) ggX9_unfolded_X9_hexadecimal
set_option maxRecDepth 20000 in
theorem ggX9_unfolded_J0_length_8abf5 : GoodIn wsX9_unfolded wsJ0_length_8abf5 := goodIn_r _ [24, 25, 26, 27, 28, 23, 29, 30, 31] (by decide +kernel) (by decide +kernel)
set_option maxRecDepth 20000 in
theorem gX9_unfolded_J0_length_8abf5 : GoodIn wsX9_unfolded (wsV RX9 194 RJ0 yJ0_length_8abf5 wsJ0_length_8abf5) := goodIn_app (goodIn_of _ (by decide +kernel)) ggX9_unfolded_J0_length_8abf5
set_option maxRecDepth 20000 in
theorem ggX9_unfolded_J0_charAt_5068e : GoodIn wsX9_unfolded wsJ0_charAt_5068e := goodIn_r _ [35, 25, 36, 37, 38, 23, 39, 30, 31, 40, 41, 42, 43, 44, 45, 46, 47, 48, 49, 50, 51, 52, 53, 54, 55, 56, 57, 58, 59, 60, 61, 62, 63, 64, 65, 66, 67, 68] (by decide +kernel) (by decide +kernel)
set_option maxRecDepth 20000 in
theorem gX9_unfolded_J0_charAt_5068e : GoodIn wsX9_unfolded (wsV RX9 199 RJ0 yJ0_charAt_5068e wsJ0_charAt_5068e) := goodIn_app (goodIn_of _ (by decide +kernel)) ggX9_unfolded_J0_charAt_5068e
theorem dX9_unfolded_0 : decode cX9_unfolded 0 = .ok (.aload_n 0, 1) := by decide +kernel
theorem dX9_unfolded_1 : decode cX9_unfolded 1 = .ok (.iconst 0, 1) := by decide +kernel
theorem dX9_unfolded_2 : decode cX9_unfolded 2 = .ok (.putfield 255, 3) := by decide +kernel
theorem dX9_unfolded_5 : decode cX9_unfolded 5 = .ok (.aload_n 0, 1) := by decide +kernel
theorem dX9_unfolded_6 : decode cX9_unfolded 6 = .ok (.getfield 188, 3) := by decide +kernel
theorem dX9_unfolded_9 : decode cX9_unfolded 9 = .ok (.istore_n 1, 1) := by decide +kernel
theorem dX9_unfolded_10 : decode cX9_unfolded 10 = .ok (.iload_n 1, 1) := by decide +kernel
theorem dX9_unfolded_11 : decode cX9_unfolded 11 = .ok (.aload_n 0, 1) := by decide +kernel
theorem dX9_unfolded_12 : decode cX9_unfolded 12 = .ok (.getfield 191, 3) := by decide +kernel
theorem dX9_unfolded_15 : decode cX9_unfolded 15 = .ok (.if_icmp .ge 137, 3) := by decide +kernel
theorem dX9_unfolded_18 : decode cX9_unfolded 18 = .ok (.aload_n 0, 1) := by decide +kernel
theorem dX9_unfolded_19 : decode cX9_unfolded 19 = .ok (.getfield 40, 3) := by decide +kernel
theorem dX9_unfolded_22 : decode cX9_unfolded 22 = .ok (.iload_n 1, 1) := by decide +kernel
theorem dX9_unfolded_23 : decode cX9_unfolded 23 = .ok (.baload, 1) := by decide +kernel
theorem dX9_unfolded_24 : decode cX9_unfolded 24 = .ok (.bipush 63, 2) := by decide +kernel
theorem dX9_unfolded_26 : decode cX9_unfolded 26 = .ok (.if_icmp .eq 126, 3) := by decide +kernel
theorem dX9_unfolded_29 : decode cX9_unfolded 29 = .ok (.aload_n 0, 1) := by decide +kernel
theorem dX9_unfolded_30 : decode cX9_unfolded 30 = .ok (.iload_n 1, 1) := by decide +kernel
theorem dX9_unfolded_31 : decode cX9_unfolded 31 = .ok (.invokevirtual 170, 3) := by decide +kernel
theorem dX9_unfolded_34 : decode cX9_unfolded 34 = .ok (.istore_n 2, 1) := by decide +kernel
theorem dX9_unfolded_35 : decode cX9_unfolded 35 = .ok (.iinc 1 1, 3) := by decide +kernel
theorem dX9_unfolded_38 : decode cX9_unfolded 38 = .ok (.iload_n 2, 1) := by decide +kernel
theorem dX9_unfolded_39 : decode cX9_unfolded 39 = .ok (.bipush 37, 2) := by decide +kernel
theorem dX9_unfolded_41 : decode cX9_unfolded 41 = .ok (.if_icmp .ne 87, 3) := by decide +kernel
theorem dX9_unfolded_44 : decode cX9_unfolded 44 = .ok (.iload_n 1, 1) := by decide +kernel
theorem dX9_unfolded_45 : decode cX9_unfolded 45 = .ok (.aload_n 0, 1) := by decide +kernel
theorem dX9_unfolded_46 : decode cX9_unfolded 46 = .ok (.getfield 191, 3) := by decide +kernel
theorem dX9_unfolded_49 : decode cX9_unfolded 49 = .ok (.if_icmp .ge 14, 3) := by decide +kernel
theorem dX9_unfolded_52 : decode cX9_unfolded 52 = .ok (.aload_n 0, 1) := by decide +kernel
theorem dX9_unfolded_53 : decode cX9_unfolded 53 = .ok (.iload_n 1, 1) := by decide +kernel
theorem dX9_unfolded_54 : decode cX9_unfolded 54 = .ok (.invokevirtual 170, 3) := by decide +kernel
theorem dX9_unfolded_57 : decode cX9_unfolded 57 = .ok (.invokestatic 258, 3) := by decide +kernel
theorem dX9_unfolded_60 : decode cX9_unfolded 60 = .ok (.goto 4, 3) := by decide +kernel
theorem dX9_unfolded_63 : decode cX9_unfolded 63 = .ok (.iconst (-1), 1) := by decide +kernel
theorem dX9_unfolded_64 : decode cX9_unfolded 64 = .ok (.istore_n 3, 1) := by decide +kernel
theorem dX9_unfolded_65 : decode cX9_unfolded 65 = .ok (.iload_n 1, 1) := by decide +kernel
theorem dX9_unfolded_66 : decode cX9_unfolded 66 = .ok (.iconst 1, 1) := by decide +kernel
theorem dX9_unfolded_67 : decode cX9_unfolded 67 = .ok (.iadd, 1) := by decide +kernel
theorem dX9_unfolded_68 : decode cX9_unfolded 68 = .ok (.aload_n 0, 1) := by decide +kernel
theorem dX9_unfolded_69 : decode cX9_unfolded 69 = .ok (.getfield 191, 3) := by decide +kernel
theorem dX9_unfolded_72 : decode cX9_unfolded 72 = .ok (.if_icmp .ge 16, 3) := by decide +kernel
theorem dX9_unfolded_75 : decode cX9_unfolded 75 = .ok (.aload_n 0, 1) := by decide +kernel
theorem dX9_unfolded_76 : decode cX9_unfolded 76 = .ok (.iload_n 1, 1) := by decide +kernel
theorem dX9_unfolded_77 : decode cX9_unfolded 77 = .ok (.iconst 1, 1) := by decide +kernel
theorem dX9_unfolded_78 : decode cX9_unfolded 78 = .ok (.iadd, 1) := by decide +kernel
theorem dX9_unfolded_79 : decode cX9_unfolded 79 = .ok (.invokevirtual 170, 3) := by decide +kernel
theorem dX9_unfolded_82 : decode cX9_unfolded 82 = .ok (.invokestatic 258, 3) := by decide +kernel
theorem dX9_unfolded_85 : decode cX9_unfolded 85 = .ok (.goto 4, 3) := by decide +kernel
theorem dX9_unfolded_88 : decode cX9_unfolded 88 = .ok (.iconst (-1), 1) := by decide +kernel
theorem dX9_unfolded_89 : decode cX9_unfolded 89 = .ok (.istore 4, 2) := by decide +kernel
theorem dX9_unfolded_91 : decode cX9_unfolded 91 = .ok (.iload_n 3, 1) := by decide +kernel
theorem dX9_unfolded_92 : decode cX9_unfolded 92 = .ok (.ifCond .lt 8, 3) := by decide +kernel
theorem dX9_unfolded_95 : decode cX9_unfolded 95 = .ok (.iload 4, 2) := by decide +kernel
theorem dX9_unfolded_97 : decode cX9_unfolded 97 = .ok (.ifCond .ge 5, 3) := by decide +kernel
theorem dX9_unfolded_100 : decode cX9_unfolded 100 = .ok (.iconst 0, 1) := by decide +kernel
theorem dX9_unfolded_101 : decode cX9_unfolded 101 = .ok (.ireturn, 1) := by decide +kernel
theorem dX9_unfolded_102 : decode cX9_unfolded 102 = .ok (.bipush 16, 2) := by decide +kernel
theorem dX9_unfolded_104 : decode cX9_unfolded 104 = .ok (.iload_n 3, 1) := by decide +kernel
theorem dX9_unfolded_105 : decode cX9_unfolded 105 = .ok (.imul, 1) := by decide +kernel
theorem dX9_unfolded_106 : decode cX9_unfolded 106 = .ok (.iload 4, 2) := by decide +kernel
theorem dX9_unfolded_108 : decode cX9_unfolded 108 = .ok (.iadd, 1) := by decide +kernel
theorem dX9_unfolded_109 : decode cX9_unfolded 109 = .ok (.istore_n 2, 1) := by decide +kernel
theorem dX9_unfolded_110 : decode cX9_unfolded 110 = .ok (.iload_n 2, 1) := by decide +kernel
theorem dX9_unfolded_111 : decode cX9_unfolded 111 = .ok (.bipush 33, 2) := by decide +kernel
theorem dX9_unfolded_113 : decode cX9_unfolded 113 = .ok (.if_icmp .lt 9, 3) := by decide +kernel
theorem dX9_unfolded_116 : decode cX9_unfolded 116 = .ok (.iload_n 2, 1) := by decide +kernel
theorem dX9_unfolded_117 : decode cX9_unfolded 117 = .ok (.bipush 126, 2) := by decide +kernel
theorem dX9_unfolded_119 : decode cX9_unfolded 119 = .ok (.if_icmp .le 5, 3) := by decide +kernel
theorem dX9_unfolded_122 : decode cX9_unfolded 122 = .ok (.iconst 0, 1) := by decide +kernel
theorem dX9_unfolded_123 : decode cX9_unfolded 123 = .ok (.ireturn, 1) := by decide +kernel
theorem dX9_unfolded_124 : decode cX9_unfolded 124 = .ok (.iload_n 1, 1) := by decide +kernel
theorem dX9_unfolded_125 : decode cX9_unfolded 125 = .ok (.iconst 2, 1) := by decide +kernel
theorem dX9_unfolded_126 : decode cX9_unfolded 126 = .ok (.iadd, 1) := by decide +kernel
theorem dX9_unfolded_127 : decode cX9_unfolded 127 = .ok (.istore_n 1, 1) := by decide +kernel
theorem dX9_unfolded_128 : decode cX9_unfolded 128 = .ok (.aload_n 0, 1) := by decide +kernel
theorem dX9_unfolded_129 : decode cX9_unfolded 129 = .ok (.getfield 43, 3) := by decide +kernel
theorem dX9_unfolded_132 : decode cX9_unfolded 132 = .ok (.aload_n 0, 1) := by decide +kernel
theorem dX9_unfolded_133 : decode cX9_unfolded 133 = .ok (.getfield 255, 3) := by decide +kernel
theorem dX9_unfolded_136 : decode cX9_unfolded 136 = .ok (.iload_n 2, 1) := by decide +kernel
theorem dX9_unfolded_137 : decode cX9_unfolded 137 = .ok (.i2b, 1) := by decide +kernel
theorem dX9_unfolded_138 : decode cX9_unfolded 138 = .ok (.bastore, 1) := by decide +kernel
theorem dX9_unfolded_139 : decode cX9_unfolded 139 = .ok (.aload_n 0, 1) := by decide +kernel
theorem dX9_unfolded_140 : decode cX9_unfolded 140 = .ok (.dup, 1) := by decide +kernel
theorem dX9_unfolded_141 : decode cX9_unfolded 141 = .ok (.getfield 255, 3) := by decide +kernel
theorem dX9_unfolded_144 : decode cX9_unfolded 144 = .ok (.iconst 1, 1) := by decide +kernel
theorem dX9_unfolded_145 : decode cX9_unfolded 145 = .ok (.iadd, 1) := by decide +kernel
theorem dX9_unfolded_146 : decode cX9_unfolded 146 = .ok (.putfield 255, 3) := by decide +kernel
theorem dX9_unfolded_149 : decode cX9_unfolded 149 = .ok (.goto (-139), 3) := by decide +kernel
theorem dX9_unfolded_152 : decode cX9_unfolded 152 = .ok (.aload_n 0, 1) := by decide +kernel
theorem dX9_unfolded_153 : decode cX9_unfolded 153 = .ok (.getfield 43, 3) := by decide +kernel
theorem dX9_unfolded_156 : decode cX9_unfolded 156 = .ok (.aload_n 0, 1) := by decide +kernel
theorem dX9_unfolded_157 : decode cX9_unfolded 157 = .ok (.getfield 255, 3) := by decide +kernel
theorem dX9_unfolded_160 : decode cX9_unfolded 160 = .ok (.iconst 1, 1) := by decide +kernel
theorem dX9_unfolded_161 : decode cX9_unfolded 161 = .ok (.isub, 1) := by decide +kernel
theorem dX9_unfolded_162 : decode cX9_unfolded 162 = .ok (.baload, 1) := by decide +kernel
theorem dX9_unfolded_163 : decode cX9_unfolded 163 = .ok (.bipush 47, 2) := by decide +kernel
theorem dX9_unfolded_165 : decode cX9_unfolded 165 = .ok (.if_icmp .ne 53, 3) := by decide +kernel
theorem dX9_unfolded_168 : decode cX9_unfolded 168 = .ok (.ldc_w 261, 3) := by decide +kernel
theorem dX9_unfolded_171 : decode cX9_unfolded 171 = .ok (.astore_n 2, 1) := by decide +kernel
theorem dX9_unfolded_172 : decode cX9_unfolded 172 = .ok (.iconst 0, 1) := by decide +kernel
theorem dX9_unfolded_173 : decode cX9_unfolded 173 = .ok (.istore_n 3, 1) := by decide +kernel
theorem dX9_unfolded_174 : decode cX9_unfolded 174 = .ok (.iload_n 3, 1) := by decide +kernel
theorem dX9_unfolded_175 : decode cX9_unfolded 175 = .ok (.aload_n 2, 1) := by decide +kernel
theorem dX9_unfolded_176 : decode cX9_unfolded 176 = .ok (.invokevirtual 194, 3) := by decide +kernel
theorem dX9_unfolded_179 : decode cX9_unfolded 179 = .ok (.if_icmp .ge 26, 3) := by decide +kernel
theorem dX9_unfolded_182 : decode cX9_unfolded 182 = .ok (.aload_n 0, 1) := by decide +kernel
theorem dX9_unfolded_183 : decode cX9_unfolded 183 = .ok (.getfield 43, 3) := by decide +kernel
theorem dX9_unfolded_186 : decode cX9_unfolded 186 = .ok (.aload_n 0, 1) := by decide +kernel
theorem dX9_unfolded_187 : decode cX9_unfolded 187 = .ok (.getfield 255, 3) := by decide +kernel
theorem dX9_unfolded_190 : decode cX9_unfolded 190 = .ok (.iload_n 3, 1) := by decide +kernel
theorem dX9_unfolded_191 : decode cX9_unfolded 191 = .ok (.iadd, 1) := by decide +kernel
theorem dX9_unfolded_192 : decode cX9_unfolded 192 = .ok (.aload_n 2, 1) := by decide +kernel
theorem dX9_unfolded_193 : decode cX9_unfolded 193 = .ok (.iload_n 3, 1) := by decide +kernel
theorem dX9_unfolded_194 : decode cX9_unfolded 194 = .ok (.invokevirtual 199, 3) := by decide +kernel
theorem dX9_unfolded_197 : decode cX9_unfolded 197 = .ok (.i2b, 1) := by decide +kernel
theorem dX9_unfolded_198 : decode cX9_unfolded 198 = .ok (.bastore, 1) := by decide +kernel
theorem dX9_unfolded_199 : decode cX9_unfolded 199 = .ok (.iinc 3 1, 3) := by decide +kernel
theorem dX9_unfolded_202 : decode cX9_unfolded 202 = .ok (.goto (-28), 3) := by decide +kernel
theorem dX9_unfolded_205 : decode cX9_unfolded 205 = .ok (.aload_n 0, 1) := by decide +kernel
theorem dX9_unfolded_206 : decode cX9_unfolded 206 = .ok (.aload_n 0, 1) := by decide +kernel
theorem dX9_unfolded_207 : decode cX9_unfolded 207 = .ok (.getfield 255, 3) := by decide +kernel
theorem dX9_unfolded_210 : decode cX9_unfolded 210 = .ok (.aload_n 2, 1) := by decide +kernel
theorem dX9_unfolded_211 : decode cX9_unfolded 211 = .ok (.invokevirtual 194, 3) := by decide +kernel
theorem dX9_unfolded_214 : decode cX9_unfolded 214 = .ok (.iadd, 1) := by decide +kernel
theorem dX9_unfolded_215 : decode cX9_unfolded 215 = .ok (.putfield 255, 3) := by decide +kernel
theorem dX9_unfolded_218 : decode cX9_unfolded 218 = .ok (.iconst 1, 1) := by decide +kernel
theorem dX9_unfolded_219 : decode cX9_unfolded 219 = .ok (.ireturn, 1) := by decide +kernel
theorem dX9_fileOf_0 : decode cX9_fileOf 0 = .ok (.iconst 0, 1) := by decide +kernel
theorem dX9_fileOf_1 : decode cX9_fileOf 1 = .ok (.istore_n 1, 1) := by decide +kernel
theorem dX9_fileOf_2 : decode cX9_fileOf 2 = .ok (.iload_n 1, 1) := by decide +kernel
theorem dX9_fileOf_3 : decode cX9_fileOf 3 = .ok (.aload_n 0, 1) := by decide +kernel
theorem dX9_fileOf_4 : decode cX9_fileOf 4 = .ok (.getfield 86, 3) := by decide +kernel
theorem dX9_fileOf_7 : decode cX9_fileOf 7 = .ok (.if_icmp .ge 82, 3) := by decide +kernel
theorem dX9_fileOf_10 : decode cX9_fileOf 10 = .ok (.aload_n 0, 1) := by decide +kernel
theorem dX9_fileOf_11 : decode cX9_fileOf 11 = .ok (.getfield 255, 3) := by decide +kernel
theorem dX9_fileOf_14 : decode cX9_fileOf 14 = .ok (.bipush 48, 2) := by decide +kernel
theorem dX9_fileOf_16 : decode cX9_fileOf 16 = .ok (.if_icmp .ge 73, 3) := by decide +kernel
theorem dX9_fileOf_19 : decode cX9_fileOf 19 = .ok (.iconst 1, 1) := by decide +kernel
theorem dX9_fileOf_20 : decode cX9_fileOf 20 = .ok (.istore_n 2, 1) := by decide +kernel
theorem dX9_fileOf_21 : decode cX9_fileOf 21 = .ok (.iconst 0, 1) := by decide +kernel
theorem dX9_fileOf_22 : decode cX9_fileOf 22 = .ok (.istore_n 3, 1) := by decide +kernel
theorem dX9_fileOf_23 : decode cX9_fileOf 23 = .ok (.iload_n 3, 1) := by decide +kernel
theorem dX9_fileOf_24 : decode cX9_fileOf 24 = .ok (.bipush 48, 2) := by decide +kernel
theorem dX9_fileOf_26 : decode cX9_fileOf 26 = .ok (.if_icmp .ge 51, 3) := by decide +kernel
theorem dX9_fileOf_29 : decode cX9_fileOf 29 = .ok (.iload_n 2, 1) := by decide +kernel
theorem dX9_fileOf_30 : decode cX9_fileOf 30 = .ok (.ifCond .eq 39, 3) := by decide +kernel
theorem dX9_fileOf_33 : decode cX9_fileOf 33 = .ok (.aload_n 0, 1) := by decide +kernel
theorem dX9_fileOf_34 : decode cX9_fileOf 34 = .ok (.getfield 18, 3) := by decide +kernel
theorem dX9_fileOf_37 : decode cX9_fileOf 37 = .ok (.bipush 48, 2) := by decide +kernel
theorem dX9_fileOf_39 : decode cX9_fileOf 39 = .ok (.iload_n 1, 1) := by decide +kernel
theorem dX9_fileOf_40 : decode cX9_fileOf 40 = .ok (.imul, 1) := by decide +kernel
theorem dX9_fileOf_41 : decode cX9_fileOf 41 = .ok (.iload_n 3, 1) := by decide +kernel
theorem dX9_fileOf_42 : decode cX9_fileOf 42 = .ok (.iadd, 1) := by decide +kernel
theorem dX9_fileOf_43 : decode cX9_fileOf 43 = .ok (.baload, 1) := by decide +kernel
theorem dX9_fileOf_44 : decode cX9_fileOf 44 = .ok (.iload_n 3, 1) := by decide +kernel
theorem dX9_fileOf_45 : decode cX9_fileOf 45 = .ok (.aload_n 0, 1) := by decide +kernel
theorem dX9_fileOf_46 : decode cX9_fileOf 46 = .ok (.getfield 255, 3) := by decide +kernel
theorem dX9_fileOf_49 : decode cX9_fileOf 49 = .ok (.if_icmp .ge 12, 3) := by decide +kernel
theorem dX9_fileOf_52 : decode cX9_fileOf 52 = .ok (.aload_n 0, 1) := by decide +kernel
theorem dX9_fileOf_53 : decode cX9_fileOf 53 = .ok (.getfield 43, 3) := by decide +kernel
theorem dX9_fileOf_56 : decode cX9_fileOf 56 = .ok (.iload_n 3, 1) := by decide +kernel
theorem dX9_fileOf_57 : decode cX9_fileOf 57 = .ok (.baload, 1) := by decide +kernel
theorem dX9_fileOf_58 : decode cX9_fileOf 58 = .ok (.goto 4, 3) := by decide +kernel
theorem dX9_fileOf_61 : decode cX9_fileOf 61 = .ok (.iconst 0, 1) := by decide +kernel
theorem dX9_fileOf_62 : decode cX9_fileOf 62 = .ok (.if_icmp .ne 7, 3) := by decide +kernel
theorem dX9_fileOf_65 : decode cX9_fileOf 65 = .ok (.iconst 1, 1) := by decide +kernel
theorem dX9_fileOf_66 : decode cX9_fileOf 66 = .ok (.goto 4, 3) := by decide +kernel
theorem dX9_fileOf_69 : decode cX9_fileOf 69 = .ok (.iconst 0, 1) := by decide +kernel
theorem dX9_fileOf_70 : decode cX9_fileOf 70 = .ok (.istore_n 2, 1) := by decide +kernel
theorem dX9_fileOf_71 : decode cX9_fileOf 71 = .ok (.iinc 3 1, 3) := by decide +kernel
theorem dX9_fileOf_74 : decode cX9_fileOf 74 = .ok (.goto (-51), 3) := by decide +kernel
theorem dX9_fileOf_77 : decode cX9_fileOf 77 = .ok (.iload_n 2, 1) := by decide +kernel
theorem dX9_fileOf_78 : decode cX9_fileOf 78 = .ok (.ifCond .eq 5, 3) := by decide +kernel
theorem dX9_fileOf_81 : decode cX9_fileOf 81 = .ok (.iload_n 1, 1) := by decide +kernel
theorem dX9_fileOf_82 : decode cX9_fileOf 82 = .ok (.ireturn, 1) := by decide +kernel
theorem dX9_fileOf_83 : decode cX9_fileOf 83 = .ok (.iinc 1 1, 3) := by decide +kernel
theorem dX9_fileOf_86 : decode cX9_fileOf 86 = .ok (.goto (-84), 3) := by decide +kernel
theorem dX9_fileOf_89 : decode cX9_fileOf 89 = .ok (.iconst (-1), 1) := by decide +kernel
theorem dX9_fileOf_90 : decode cX9_fileOf 90 = .ok (.ireturn, 1) := by decide +kernel
theorem dX9_hexDigit_0 : decode cX9_hexDigit 0 = .ok (.iload_n 0, 1) := by decide +kernel
theorem dX9_hexDigit_1 : decode cX9_hexDigit 1 = .ok (.bipush 28, 2) := by decide +kernel
theorem dX9_hexDigit_3 : decode cX9_hexDigit 3 = .ok (.iconst 4, 1) := by decide +kernel
theorem dX9_hexDigit_4 : decode cX9_hexDigit 4 = .ok (.iload_n 1, 1) := by decide +kernel
theorem dX9_hexDigit_5 : decode cX9_hexDigit 5 = .ok (.imul, 1) := by decide +kernel
theorem dX9_hexDigit_6 : decode cX9_hexDigit 6 = .ok (.isub, 1) := by decide +kernel
theorem dX9_hexDigit_7 : decode cX9_hexDigit 7 = .ok (.ishr, 1) := by decide +kernel
theorem dX9_hexDigit_8 : decode cX9_hexDigit 8 = .ok (.bipush 15, 2) := by decide +kernel
theorem dX9_hexDigit_10 : decode cX9_hexDigit 10 = .ok (.iand, 1) := by decide +kernel
theorem dX9_hexDigit_11 : decode cX9_hexDigit 11 = .ok (.istore_n 2, 1) := by decide +kernel
theorem dX9_hexDigit_12 : decode cX9_hexDigit 12 = .ok (.iload_n 2, 1) := by decide +kernel
theorem dX9_hexDigit_13 : decode cX9_hexDigit 13 = .ok (.bipush 10, 2) := by decide +kernel
theorem dX9_hexDigit_15 : decode cX9_hexDigit 15 = .ok (.if_icmp .ge 10, 3) := by decide +kernel
theorem dX9_hexDigit_18 : decode cX9_hexDigit 18 = .ok (.bipush 48, 2) := by decide +kernel
theorem dX9_hexDigit_20 : decode cX9_hexDigit 20 = .ok (.iload_n 2, 1) := by decide +kernel
theorem dX9_hexDigit_21 : decode cX9_hexDigit 21 = .ok (.iadd, 1) := by decide +kernel
theorem dX9_hexDigit_22 : decode cX9_hexDigit 22 = .ok (.goto 10, 3) := by decide +kernel
theorem dX9_hexDigit_25 : decode cX9_hexDigit 25 = .ok (.bipush 97, 2) := by decide +kernel
theorem dX9_hexDigit_27 : decode cX9_hexDigit 27 = .ok (.iload_n 2, 1) := by decide +kernel
theorem dX9_hexDigit_28 : decode cX9_hexDigit 28 = .ok (.iadd, 1) := by decide +kernel
theorem dX9_hexDigit_29 : decode cX9_hexDigit 29 = .ok (.bipush 10, 2) := by decide +kernel
theorem dX9_hexDigit_31 : decode cX9_hexDigit 31 = .ok (.isub, 1) := by decide +kernel
theorem dX9_hexDigit_32 : decode cX9_hexDigit 32 = .ok (.ireturn, 1) := by decide +kernel
set_option maxRecDepth 20000 in
theorem ggX9_fits_X9_says : GoodIn wsX9_fits wsX9_says := goodIn_r _ [9, 10, 11, 12, 13, 14, 15, 16, 17, 18, 19, 20, 21, 22, 23, 24, 8, 25, 3, 26, 27, 28, 29, 30, 31, 32, 33, 34, 35, 36, 37, 38, 39, 40, 41, 42, 43, 44, 45, 46, 47, 48, 49, 50, 51, 52, 53, 54, 55, 56, 57, 58, 59, 60, 61, 62, 66, 67, 68, 69, 70, 71, 72, 73, 74, 75, 76, 77, 78, 79, 80, 81, 82, 83, 84, 85, 86, 87, 88, 89, 90, 91, 92, 93, 94, 95, 96, 97, 98, 99, 100, 101, 102, 103, 104] rfl (by decide +kernel)
set_option maxRecDepth 20000 in
theorem gX9_fits_X9_says : GoodIn wsX9_fits (wsV RX9 175 RX9 yX9_says wsX9_says) := goodIn_app (goodIn_of _ (by decide +kernel)) ggX9_fits_X9_says
set_option maxRecDepth 20000 in
theorem ggX9_fits_X9_headAt : GoodIn wsX9_fits wsX9_headAt := goodIn_r _ [25, 3, 66, 67, 68, 69, 70, 71, 72, 73, 74, 75, 76, 77, 78, 79, 80, 81, 82, 83, 84, 85, 86, 87, 88, 89, 90, 91, 92, 93, 94, 95, 96, 97, 98, 99, 100, 101, 102, 103, 104] (by decide +kernel) (by decide +kernel)
set_option maxRecDepth 20000 in
theorem gX9_fits_X9_headAt : GoodIn wsX9_fits (wsV RX9 170 RX9 yX9_headAt wsX9_headAt) := goodIn_app (goodIn_of _ (by decide +kernel)) ggX9_fits_X9_headAt
set_option maxRecDepth 20000 in
theorem ggX9_fits_X9_hexDigit : GoodIn wsX9_fits wsX9_hexDigit := goodIn_r _ [65] (by decide +kernel) (by decide +kernel)
set_option maxRecDepth 20000 in
theorem gX9_fits_X9_hexDigit : GoodIn wsX9_fits (va_wsS RX9 265 yX9_hexDigit wsX9_hexDigit) := goodIn_app (goodIn_of _ (by decide +kernel)) ggX9_fits_X9_hexDigit
theorem dX9_fits_0 : decode cX9_fits 0 = .ok (.aload_n 0, 1) := by decide +kernel
theorem dX9_fits_1 : decode cX9_fits 1 = .ok (.aload_n 0, 1) := by decide +kernel
theorem dX9_fits_2 : decode cX9_fits 2 = .ok (.getfield 235, 3) := by decide +kernel
theorem dX9_fits_5 : decode cX9_fits 5 = .ok (.aload_n 0, 1) := by decide +kernel
theorem dX9_fits_6 : decode cX9_fits 6 = .ok (.getfield 238, 3) := by decide +kernel
theorem dX9_fits_9 : decode cX9_fits 9 = .ok (.ldc_w 263, 3) := by decide +kernel
theorem dX9_fits_12 : decode cX9_fits 12 = .ok (.invokevirtual 175, 3) := by decide +kernel
theorem dX9_fits_15 : decode cX9_fits 15 = .ok (.ifCond .eq 5, 3) := by decide +kernel
theorem dX9_fits_18 : decode cX9_fits 18 = .ok (.iconst 1, 1) := by decide +kernel
theorem dX9_fits_19 : decode cX9_fits 19 = .ok (.ireturn, 1) := by decide +kernel
theorem dX9_fits_20 : decode cX9_fits 20 = .ok (.aload_n 0, 1) := by decide +kernel
theorem dX9_fits_21 : decode cX9_fits 21 = .ok (.getfield 238, 3) := by decide +kernel
theorem dX9_fits_24 : decode cX9_fits 24 = .ok (.aload_n 0, 1) := by decide +kernel
theorem dX9_fits_25 : decode cX9_fits 25 = .ok (.getfield 235, 3) := by decide +kernel
theorem dX9_fits_28 : decode cX9_fits 28 = .ok (.isub, 1) := by decide +kernel
theorem dX9_fits_29 : decode cX9_fits 29 = .ok (.bipush 10, 2) := by decide +kernel
theorem dX9_fits_31 : decode cX9_fits 31 = .ok (.if_icmp .ne 33, 3) := by decide +kernel
theorem dX9_fits_34 : decode cX9_fits 34 = .ok (.aload_n 0, 1) := by decide +kernel
theorem dX9_fits_35 : decode cX9_fits 35 = .ok (.getfield 40, 3) := by decide +kernel
theorem dX9_fits_38 : decode cX9_fits 38 = .ok (.aload_n 0, 1) := by decide +kernel
theorem dX9_fits_39 : decode cX9_fits 39 = .ok (.getfield 235, 3) := by decide +kernel
theorem dX9_fits_42 : decode cX9_fits 42 = .ok (.baload, 1) := by decide +kernel
theorem dX9_fits_43 : decode cX9_fits 43 = .ok (.bipush 34, 2) := by decide +kernel
theorem dX9_fits_45 : decode cX9_fits 45 = .ok (.if_icmp .ne 19, 3) := by decide +kernel
theorem dX9_fits_48 : decode cX9_fits 48 = .ok (.aload_n 0, 1) := by decide +kernel
theorem dX9_fits_49 : decode cX9_fits 49 = .ok (.getfield 40, 3) := by decide +kernel
theorem dX9_fits_52 : decode cX9_fits 52 = .ok (.aload_n 0, 1) := by decide +kernel
theorem dX9_fits_53 : decode cX9_fits 53 = .ok (.getfield 238, 3) := by decide +kernel
theorem dX9_fits_56 : decode cX9_fits 56 = .ok (.iconst 1, 1) := by decide +kernel
theorem dX9_fits_57 : decode cX9_fits 57 = .ok (.isub, 1) := by decide +kernel
theorem dX9_fits_58 : decode cX9_fits 58 = .ok (.baload, 1) := by decide +kernel
theorem dX9_fits_59 : decode cX9_fits 59 = .ok (.bipush 34, 2) := by decide +kernel
theorem dX9_fits_61 : decode cX9_fits 61 = .ok (.if_icmp .eq 5, 3) := by decide +kernel
theorem dX9_fits_64 : decode cX9_fits 64 = .ok (.iconst 0, 1) := by decide +kernel
theorem dX9_fits_65 : decode cX9_fits 65 = .ok (.ireturn, 1) := by decide +kernel
theorem dX9_fits_66 : decode cX9_fits 66 = .ok (.iconst 0, 1) := by decide +kernel
theorem dX9_fits_67 : decode cX9_fits 67 = .ok (.istore_n 2, 1) := by decide +kernel
theorem dX9_fits_68 : decode cX9_fits 68 = .ok (.iload_n 2, 1) := by decide +kernel
theorem dX9_fits_69 : decode cX9_fits 69 = .ok (.bipush 8, 2) := by decide +kernel
theorem dX9_fits_71 : decode cX9_fits 71 = .ok (.if_icmp .ge 36, 3) := by decide +kernel
theorem dX9_fits_74 : decode cX9_fits 74 = .ok (.aload_n 0, 1) := by decide +kernel
theorem dX9_fits_75 : decode cX9_fits 75 = .ok (.aload_n 0, 1) := by decide +kernel
theorem dX9_fits_76 : decode cX9_fits 76 = .ok (.getfield 235, 3) := by decide +kernel
theorem dX9_fits_79 : decode cX9_fits 79 = .ok (.iconst 1, 1) := by decide +kernel
theorem dX9_fits_80 : decode cX9_fits 80 = .ok (.iadd, 1) := by decide +kernel
theorem dX9_fits_81 : decode cX9_fits 81 = .ok (.iload_n 2, 1) := by decide +kernel
theorem dX9_fits_82 : decode cX9_fits 82 = .ok (.iadd, 1) := by decide +kernel
theorem dX9_fits_83 : decode cX9_fits 83 = .ok (.invokevirtual 170, 3) := by decide +kernel
theorem dX9_fits_86 : decode cX9_fits 86 = .ok (.aload_n 0, 1) := by decide +kernel
theorem dX9_fits_87 : decode cX9_fits 87 = .ok (.getfield 28, 3) := by decide +kernel
theorem dX9_fits_90 : decode cX9_fits 90 = .ok (.iload_n 1, 1) := by decide +kernel
theorem dX9_fits_91 : decode cX9_fits 91 = .ok (.iaload, 1) := by decide +kernel
theorem dX9_fits_92 : decode cX9_fits 92 = .ok (.iload_n 2, 1) := by decide +kernel
theorem dX9_fits_93 : decode cX9_fits 93 = .ok (.invokestatic 265, 3) := by decide +kernel
theorem dX9_fits_96 : decode cX9_fits 96 = .ok (.if_icmp .eq 5, 3) := by decide +kernel
theorem dX9_fits_99 : decode cX9_fits 99 = .ok (.iconst 0, 1) := by decide +kernel
theorem dX9_fits_100 : decode cX9_fits 100 = .ok (.ireturn, 1) := by decide +kernel
theorem dX9_fits_101 : decode cX9_fits 101 = .ok (.iinc 2 1, 3) := by decide +kernel
theorem dX9_fits_104 : decode cX9_fits 104 = .ok (.goto (-36), 3) := by decide +kernel
theorem dX9_fits_107 : decode cX9_fits 107 = .ok (.iconst 1, 1) := by decide +kernel
theorem dX9_fits_108 : decode cX9_fits 108 = .ok (.ireturn, 1) := by decide +kernel
set_option maxRecDepth 20000 in
theorem ggX9_say_J0_length_8abf5 : GoodIn wsX9_say wsJ0_length_8abf5 := goodIn_r _ [5, 6, 7, 8, 9, 4, 10, 11, 12] (by decide +kernel) (by decide +kernel)
set_option maxRecDepth 20000 in
theorem gX9_say_J0_length_8abf5 : GoodIn wsX9_say (wsV RX9 194 RJ0 yJ0_length_8abf5 wsJ0_length_8abf5) := goodIn_app (goodIn_of _ (by decide +kernel)) ggX9_say_J0_length_8abf5
set_option maxRecDepth 20000 in
theorem ggX9_say_J0_charAt_5068e : GoodIn wsX9_say wsJ0_charAt_5068e := goodIn_r _ [16, 6, 17, 18, 19, 4, 20, 11, 12, 21, 22, 23, 24, 25, 26, 27, 28, 29, 30, 31, 32, 33, 34, 35, 36, 37, 38, 39, 40, 41, 42, 43, 44, 45, 46, 47, 48, 49] (by decide +kernel) (by decide +kernel)
set_option maxRecDepth 20000 in
theorem gX9_say_J0_charAt_5068e : GoodIn wsX9_say (wsV RX9 199 RJ0 yJ0_charAt_5068e wsJ0_charAt_5068e) := goodIn_app (goodIn_of _ (by decide +kernel)) ggX9_say_J0_charAt_5068e
set_option maxRecDepth 20000 in
theorem ggX9_say_X9_code : GoodIn wsX9_say wsX9_code := goodIn_r _ [54, 55, 56, 57, 58, 59, 60, 61, 62, 63, 64, 65, 66, 67, 68, 69, 70, 71, 72, 73, 74, 75, 76, 77, 78, 79, 80, 81, 82, 83, 84, 85, 86, 87, 88, 89, 90, 91, 92, 93, 94, 95] (by decide +kernel) (by decide +kernel)
set_option maxRecDepth 20000 in
theorem gX9_say_X9_code : GoodIn wsX9_say (wsV RX9 268 RX9 yX9_code wsX9_code) := goodIn_app (goodIn_of _ (by decide +kernel)) ggX9_say_X9_code
theorem dX9_say_0 : decode cX9_say 0 = .ok (.iconst 0, 1) := by decide +kernel
theorem dX9_say_1 : decode cX9_say 1 = .ok (.istore_n 2, 1) := by decide +kernel
theorem dX9_say_2 : decode cX9_say 2 = .ok (.iload_n 2, 1) := by decide +kernel
theorem dX9_say_3 : decode cX9_say 3 = .ok (.aload_n 1, 1) := by decide +kernel
theorem dX9_say_4 : decode cX9_say 4 = .ok (.invokevirtual 194, 3) := by decide +kernel
theorem dX9_say_7 : decode cX9_say 7 = .ok (.if_icmp .ge 18, 3) := by decide +kernel
theorem dX9_say_10 : decode cX9_say 10 = .ok (.aload_n 0, 1) := by decide +kernel
theorem dX9_say_11 : decode cX9_say 11 = .ok (.aload_n 1, 1) := by decide +kernel
theorem dX9_say_12 : decode cX9_say 12 = .ok (.iload_n 2, 1) := by decide +kernel
theorem dX9_say_13 : decode cX9_say 13 = .ok (.invokevirtual 199, 3) := by decide +kernel
theorem dX9_say_16 : decode cX9_say 16 = .ok (.invokevirtual 268, 3) := by decide +kernel
theorem dX9_say_19 : decode cX9_say 19 = .ok (.iinc 2 1, 3) := by decide +kernel
theorem dX9_say_22 : decode cX9_say 22 = .ok (.goto (-20), 3) := by decide +kernel
theorem dX9_say_25 : decode cX9_say 25 = .ok (.return_, 1) := by decide +kernel
theorem dX9_code_0 : decode cX9_code 0 = .ok (.aload_n 0, 1) := by decide +kernel
theorem dX9_code_1 : decode cX9_code 1 = .ok (.getfield 34, 3) := by decide +kernel
theorem dX9_code_4 : decode cX9_code 4 = .ok (.aload_n 0, 1) := by decide +kernel
theorem dX9_code_5 : decode cX9_code 5 = .ok (.getfield 67, 3) := by decide +kernel
theorem dX9_code_8 : decode cX9_code 8 = .ok (.iload_n 1, 1) := by decide +kernel
theorem dX9_code_9 : decode cX9_code 9 = .ok (.i2b, 1) := by decide +kernel
theorem dX9_code_10 : decode cX9_code 10 = .ok (.bastore, 1) := by decide +kernel
theorem dX9_code_11 : decode cX9_code 11 = .ok (.aload_n 0, 1) := by decide +kernel
theorem dX9_code_12 : decode cX9_code 12 = .ok (.dup, 1) := by decide +kernel
theorem dX9_code_13 : decode cX9_code 13 = .ok (.getfield 67, 3) := by decide +kernel
theorem dX9_code_16 : decode cX9_code 16 = .ok (.iconst 1, 1) := by decide +kernel
theorem dX9_code_17 : decode cX9_code 17 = .ok (.iadd, 1) := by decide +kernel
theorem dX9_code_18 : decode cX9_code 18 = .ok (.putfield 67, 3) := by decide +kernel
theorem dX9_code_21 : decode cX9_code 21 = .ok (.return_, 1) := by decide +kernel
set_option maxRecDepth 20000 in
theorem ggX9_sayNumber_X9_code : GoodIn wsX9_sayNumber wsX9_code := goodIn_r _ [5, 6, 7, 8, 9, 10, 11, 12, 13, 14, 15, 16, 17, 18, 19, 20, 21, 22, 23, 24, 25, 26, 27, 28, 29, 30, 31, 32, 33, 34, 35, 36, 37, 38, 39, 40, 41, 42, 43, 44, 45, 46] (by decide +kernel) (by decide +kernel)
set_option maxRecDepth 20000 in
theorem gX9_sayNumber_X9_code : GoodIn wsX9_sayNumber (wsV RX9 268 RX9 yX9_code wsX9_code) := goodIn_app (goodIn_of _ (by decide +kernel)) ggX9_sayNumber_X9_code
theorem dX9_sayNumber_0 : decode cX9_sayNumber 0 = .ok (.iconst 1, 1) := by decide +kernel
theorem dX9_sayNumber_1 : decode cX9_sayNumber 1 = .ok (.istore_n 2, 1) := by decide +kernel
theorem dX9_sayNumber_2 : decode cX9_sayNumber 2 = .ok (.iload_n 1, 1) := by decide +kernel
theorem dX9_sayNumber_3 : decode cX9_sayNumber 3 = .ok (.iload_n 2, 1) := by decide +kernel
theorem dX9_sayNumber_4 : decode cX9_sayNumber 4 = .ok (.idiv, 1) := by decide +kernel
theorem dX9_sayNumber_5 : decode cX9_sayNumber 5 = .ok (.bipush 10, 2) := by decide +kernel
theorem dX9_sayNumber_7 : decode cX9_sayNumber 7 = .ok (.if_icmp .lt 11, 3) := by decide +kernel
theorem dX9_sayNumber_10 : decode cX9_sayNumber 10 = .ok (.iload_n 2, 1) := by decide +kernel
theorem dX9_sayNumber_11 : decode cX9_sayNumber 11 = .ok (.bipush 10, 2) := by decide +kernel
theorem dX9_sayNumber_13 : decode cX9_sayNumber 13 = .ok (.imul, 1) := by decide +kernel
theorem dX9_sayNumber_14 : decode cX9_sayNumber 14 = .ok (.istore_n 2, 1) := by decide +kernel
theorem dX9_sayNumber_15 : decode cX9_sayNumber 15 = .ok (.goto (-13), 3) := by decide +kernel
theorem dX9_sayNumber_18 : decode cX9_sayNumber 18 = .ok (.iload_n 2, 1) := by decide +kernel
theorem dX9_sayNumber_19 : decode cX9_sayNumber 19 = .ok (.istore_n 3, 1) := by decide +kernel
theorem dX9_sayNumber_20 : decode cX9_sayNumber 20 = .ok (.iload_n 3, 1) := by decide +kernel
theorem dX9_sayNumber_21 : decode cX9_sayNumber 21 = .ok (.ifCond .le 24, 3) := by decide +kernel
theorem dX9_sayNumber_24 : decode cX9_sayNumber 24 = .ok (.aload_n 0, 1) := by decide +kernel
theorem dX9_sayNumber_25 : decode cX9_sayNumber 25 = .ok (.bipush 48, 2) := by decide +kernel
theorem dX9_sayNumber_27 : decode cX9_sayNumber 27 = .ok (.iload_n 1, 1) := by decide +kernel
theorem dX9_sayNumber_28 : decode cX9_sayNumber 28 = .ok (.iload_n 3, 1) := by decide +kernel
theorem dX9_sayNumber_29 : decode cX9_sayNumber 29 = .ok (.idiv, 1) := by decide +kernel
theorem dX9_sayNumber_30 : decode cX9_sayNumber 30 = .ok (.bipush 10, 2) := by decide +kernel
theorem dX9_sayNumber_32 : decode cX9_sayNumber 32 = .ok (.irem, 1) := by decide +kernel
theorem dX9_sayNumber_33 : decode cX9_sayNumber 33 = .ok (.iadd, 1) := by decide +kernel
theorem dX9_sayNumber_34 : decode cX9_sayNumber 34 = .ok (.invokevirtual 268, 3) := by decide +kernel
theorem dX9_sayNumber_37 : decode cX9_sayNumber 37 = .ok (.iload_n 3, 1) := by decide +kernel
theorem dX9_sayNumber_38 : decode cX9_sayNumber 38 = .ok (.bipush 10, 2) := by decide +kernel
theorem dX9_sayNumber_40 : decode cX9_sayNumber 40 = .ok (.idiv, 1) := by decide +kernel
theorem dX9_sayNumber_41 : decode cX9_sayNumber 41 = .ok (.istore_n 3, 1) := by decide +kernel
theorem dX9_sayNumber_42 : decode cX9_sayNumber 42 = .ok (.goto (-22), 3) := by decide +kernel
theorem dX9_sayNumber_45 : decode cX9_sayNumber 45 = .ok (.return_, 1) := by decide +kernel
set_option maxRecDepth 20000 in
theorem ggX9_line_X9_code : GoodIn wsX9_line wsX9_code := goodIn_r _ [5, 6, 7, 8, 9, 10, 11, 12, 13, 14, 15, 16, 17, 18, 19, 20, 21, 22, 23, 24, 25, 26, 27, 28, 29, 30, 31, 32, 33, 34, 35, 36, 37, 38, 39, 40, 41, 42, 43, 44, 45, 46] (by decide +kernel) (by decide +kernel)
set_option maxRecDepth 20000 in
theorem gX9_line_X9_code : GoodIn wsX9_line (wsV RX9 268 RX9 yX9_code wsX9_code) := goodIn_app (goodIn_of _ (by decide +kernel)) ggX9_line_X9_code
theorem dX9_line_0 : decode cX9_line 0 = .ok (.aload_n 0, 1) := by decide +kernel
theorem dX9_line_1 : decode cX9_line 1 = .ok (.bipush 13, 2) := by decide +kernel
theorem dX9_line_3 : decode cX9_line 3 = .ok (.invokevirtual 268, 3) := by decide +kernel
theorem dX9_line_6 : decode cX9_line 6 = .ok (.aload_n 0, 1) := by decide +kernel
theorem dX9_line_7 : decode cX9_line 7 = .ok (.bipush 10, 2) := by decide +kernel
theorem dX9_line_9 : decode cX9_line 9 = .ok (.invokevirtual 268, 3) := by decide +kernel
theorem dX9_line_12 : decode cX9_line 12 = .ok (.return_, 1) := by decide +kernel
theorem dX9_phrase_0 : decode cX9_phrase 0 = .ok (.iload_n 0, 1) := by decide +kernel
theorem dX9_phrase_1 : decode cX9_phrase 1 = .ok (.lookupswitch 107 #[(200, 75), (304, 79), (400, 83), (404, 87), (405, 91), (413, 95), (431, 99), (500, 103)], 75) := by decide +kernel
theorem dX9_phrase_76 : decode cX9_phrase 76 = .ok (.ldc_w 271, 3) := by decide +kernel
theorem dX9_phrase_79 : decode cX9_phrase 79 = .ok (.areturn, 1) := by decide +kernel
theorem dX9_phrase_80 : decode cX9_phrase 80 = .ok (.ldc_w 273, 3) := by decide +kernel
theorem dX9_phrase_83 : decode cX9_phrase 83 = .ok (.areturn, 1) := by decide +kernel
theorem dX9_phrase_84 : decode cX9_phrase 84 = .ok (.ldc_w 275, 3) := by decide +kernel
theorem dX9_phrase_87 : decode cX9_phrase 87 = .ok (.areturn, 1) := by decide +kernel
theorem dX9_phrase_88 : decode cX9_phrase 88 = .ok (.ldc_w 277, 3) := by decide +kernel
theorem dX9_phrase_91 : decode cX9_phrase 91 = .ok (.areturn, 1) := by decide +kernel
theorem dX9_phrase_92 : decode cX9_phrase 92 = .ok (.ldc_w 279, 3) := by decide +kernel
theorem dX9_phrase_95 : decode cX9_phrase 95 = .ok (.areturn, 1) := by decide +kernel
theorem dX9_phrase_96 : decode cX9_phrase 96 = .ok (.ldc_w 281, 3) := by decide +kernel
theorem dX9_phrase_99 : decode cX9_phrase 99 = .ok (.areturn, 1) := by decide +kernel
theorem dX9_phrase_100 : decode cX9_phrase 100 = .ok (.ldc_w 283, 3) := by decide +kernel
theorem dX9_phrase_103 : decode cX9_phrase 103 = .ok (.areturn, 1) := by decide +kernel
theorem dX9_phrase_104 : decode cX9_phrase 104 = .ok (.ldc_w 285, 3) := by decide +kernel
theorem dX9_phrase_107 : decode cX9_phrase 107 = .ok (.areturn, 1) := by decide +kernel
theorem dX9_phrase_108 : decode cX9_phrase 108 = .ok (.ldc_w 287, 3) := by decide +kernel
theorem dX9_phrase_111 : decode cX9_phrase 111 = .ok (.areturn, 1) := by decide +kernel
set_option maxRecDepth 20000 in
theorem ggX9_endsWith_J0_length_8abf5 : GoodIn wsX9_endsWith wsJ0_length_8abf5 := goodIn_r _ [6, 7, 8, 9, 10, 5, 11, 12, 13] (by decide +kernel) (by decide +kernel)
set_option maxRecDepth 20000 in
theorem gX9_endsWith_J0_length_8abf5 : GoodIn wsX9_endsWith (wsV RX9 194 RJ0 yJ0_length_8abf5 wsJ0_length_8abf5) := goodIn_app (goodIn_of _ (by decide +kernel)) ggX9_endsWith_J0_length_8abf5
set_option maxRecDepth 20000 in
theorem ggX9_endsWith_J0_charAt_5068e : GoodIn wsX9_endsWith wsJ0_charAt_5068e := goodIn_r _ [17, 7, 18, 19, 20, 5, 21, 12, 13, 22, 23, 24, 25, 26, 27, 28, 29, 30, 31, 32, 33, 34, 35, 36, 37, 38, 39, 40, 41, 42, 43, 44, 45, 46, 47, 48, 49, 50] (by decide +kernel) (by decide +kernel)
set_option maxRecDepth 20000 in
theorem gX9_endsWith_J0_charAt_5068e : GoodIn wsX9_endsWith (wsV RX9 199 RJ0 yJ0_charAt_5068e wsJ0_charAt_5068e) := goodIn_app (goodIn_of _ (by decide +kernel)) ggX9_endsWith_J0_charAt_5068e
theorem dX9_endsWith_0 : decode cX9_endsWith 0 = .ok (.iconst 0, 1) := by decide +kernel
theorem dX9_endsWith_1 : decode cX9_endsWith 1 = .ok (.istore_n 3, 1) := by decide +kernel
theorem dX9_endsWith_2 : decode cX9_endsWith 2 = .ok (.iload_n 3, 1) := by decide +kernel
theorem dX9_endsWith_3 : decode cX9_endsWith 3 = .ok (.bipush 48, 2) := by decide +kernel
theorem dX9_endsWith_5 : decode cX9_endsWith 5 = .ok (.if_icmp .ge 23, 3) := by decide +kernel
theorem dX9_endsWith_8 : decode cX9_endsWith 8 = .ok (.aload_n 0, 1) := by decide +kernel
theorem dX9_endsWith_9 : decode cX9_endsWith 9 = .ok (.getfield 18, 3) := by decide +kernel
theorem dX9_endsWith_12 : decode cX9_endsWith 12 = .ok (.bipush 48, 2) := by decide +kernel
theorem dX9_endsWith_14 : decode cX9_endsWith 14 = .ok (.iload_n 1, 1) := by decide +kernel
theorem dX9_endsWith_15 : decode cX9_endsWith 15 = .ok (.imul, 1) := by decide +kernel
theorem dX9_endsWith_16 : decode cX9_endsWith 16 = .ok (.iload_n 3, 1) := by decide +kernel
theorem dX9_endsWith_17 : decode cX9_endsWith 17 = .ok (.iadd, 1) := by decide +kernel
theorem dX9_endsWith_18 : decode cX9_endsWith 18 = .ok (.baload, 1) := by decide +kernel
theorem dX9_endsWith_19 : decode cX9_endsWith 19 = .ok (.ifCond .eq 9, 3) := by decide +kernel
theorem dX9_endsWith_22 : decode cX9_endsWith 22 = .ok (.iinc 3 1, 3) := by decide +kernel
theorem dX9_endsWith_25 : decode cX9_endsWith 25 = .ok (.goto (-23), 3) := by decide +kernel
theorem dX9_endsWith_28 : decode cX9_endsWith 28 = .ok (.iload_n 3, 1) := by decide +kernel
theorem dX9_endsWith_29 : decode cX9_endsWith 29 = .ok (.aload_n 2, 1) := by decide +kernel
theorem dX9_endsWith_30 : decode cX9_endsWith 30 = .ok (.invokevirtual 194, 3) := by decide +kernel
theorem dX9_endsWith_33 : decode cX9_endsWith 33 = .ok (.if_icmp .ge 5, 3) := by decide +kernel
theorem dX9_endsWith_36 : decode cX9_endsWith 36 = .ok (.iconst 0, 1) := by decide +kernel
theorem dX9_endsWith_37 : decode cX9_endsWith 37 = .ok (.ireturn, 1) := by decide +kernel
theorem dX9_endsWith_38 : decode cX9_endsWith 38 = .ok (.iconst 0, 1) := by decide +kernel
theorem dX9_endsWith_39 : decode cX9_endsWith 39 = .ok (.istore 4, 2) := by decide +kernel
theorem dX9_endsWith_41 : decode cX9_endsWith 41 = .ok (.iload 4, 2) := by decide +kernel
theorem dX9_endsWith_43 : decode cX9_endsWith 43 = .ok (.aload_n 2, 1) := by decide +kernel
theorem dX9_endsWith_44 : decode cX9_endsWith 44 = .ok (.invokevirtual 194, 3) := by decide +kernel
theorem dX9_endsWith_47 : decode cX9_endsWith 47 = .ok (.if_icmp .ge 39, 3) := by decide +kernel
theorem dX9_endsWith_50 : decode cX9_endsWith 50 = .ok (.aload_n 0, 1) := by decide +kernel
theorem dX9_endsWith_51 : decode cX9_endsWith 51 = .ok (.getfield 18, 3) := by decide +kernel
theorem dX9_endsWith_54 : decode cX9_endsWith 54 = .ok (.bipush 48, 2) := by decide +kernel
theorem dX9_endsWith_56 : decode cX9_endsWith 56 = .ok (.iload_n 1, 1) := by decide +kernel
theorem dX9_endsWith_57 : decode cX9_endsWith 57 = .ok (.imul, 1) := by decide +kernel
theorem dX9_endsWith_58 : decode cX9_endsWith 58 = .ok (.iload_n 3, 1) := by decide +kernel
theorem dX9_endsWith_59 : decode cX9_endsWith 59 = .ok (.iadd, 1) := by decide +kernel
theorem dX9_endsWith_60 : decode cX9_endsWith 60 = .ok (.aload_n 2, 1) := by decide +kernel
theorem dX9_endsWith_61 : decode cX9_endsWith 61 = .ok (.invokevirtual 194, 3) := by decide +kernel
theorem dX9_endsWith_64 : decode cX9_endsWith 64 = .ok (.isub, 1) := by decide +kernel
theorem dX9_endsWith_65 : decode cX9_endsWith 65 = .ok (.iload 4, 2) := by decide +kernel
theorem dX9_endsWith_67 : decode cX9_endsWith 67 = .ok (.iadd, 1) := by decide +kernel
theorem dX9_endsWith_68 : decode cX9_endsWith 68 = .ok (.baload, 1) := by decide +kernel
theorem dX9_endsWith_69 : decode cX9_endsWith 69 = .ok (.aload_n 2, 1) := by decide +kernel
theorem dX9_endsWith_70 : decode cX9_endsWith 70 = .ok (.iload 4, 2) := by decide +kernel
theorem dX9_endsWith_72 : decode cX9_endsWith 72 = .ok (.invokevirtual 199, 3) := by decide +kernel
theorem dX9_endsWith_75 : decode cX9_endsWith 75 = .ok (.if_icmp .eq 5, 3) := by decide +kernel
theorem dX9_endsWith_78 : decode cX9_endsWith 78 = .ok (.iconst 0, 1) := by decide +kernel
theorem dX9_endsWith_79 : decode cX9_endsWith 79 = .ok (.ireturn, 1) := by decide +kernel
theorem dX9_endsWith_80 : decode cX9_endsWith 80 = .ok (.iinc 4 1, 3) := by decide +kernel
theorem dX9_endsWith_83 : decode cX9_endsWith 83 = .ok (.goto (-42), 3) := by decide +kernel
theorem dX9_endsWith_86 : decode cX9_endsWith 86 = .ok (.iconst 1, 1) := by decide +kernel
theorem dX9_endsWith_87 : decode cX9_endsWith 87 = .ok (.ireturn, 1) := by decide +kernel
set_option maxRecDepth 20000 in
theorem ggX9_type_X9_endsWith : GoodIn wsX9_type wsX9_endsWith := goodIn_r _ [5, 6, 7, 8, 9, 10, 11, 12, 13, 14, 15, 16, 17, 18, 19, 20, 21, 22, 23, 24, 25, 26, 27, 28, 29, 30, 31, 32, 33, 34, 35, 36, 37, 38, 39, 40, 41, 42, 43, 44, 45, 46, 47, 48, 49, 50, 51, 52, 53, 54, 55, 56, 57, 58, 59, 60, 61, 62, 63, 64, 65, 66, 67, 68, 69, 70, 71, 72, 73, 74, 75, 76, 77, 78, 79, 80, 81, 82, 83, 84, 85, 86, 87, 88, 89, 90, 91, 92, 93, 94] rfl (by decide +kernel)
set_option maxRecDepth 20000 in
theorem gX9_type_X9_endsWith : GoodIn wsX9_type (wsV RX9 291 RX9 yX9_endsWith wsX9_endsWith) := goodIn_app (goodIn_of _ (by decide +kernel)) ggX9_type_X9_endsWith
theorem dX9_type_0 : decode cX9_type 0 = .ok (.iload_n 1, 1) := by decide +kernel
theorem dX9_type_1 : decode cX9_type 1 = .ok (.ifCond .lt 14, 3) := by decide +kernel
theorem dX9_type_4 : decode cX9_type 4 = .ok (.aload_n 0, 1) := by decide +kernel
theorem dX9_type_5 : decode cX9_type 5 = .ok (.iload_n 1, 1) := by decide +kernel
theorem dX9_type_6 : decode cX9_type 6 = .ok (.ldc_w 289, 3) := by decide +kernel
theorem dX9_type_9 : decode cX9_type 9 = .ok (.invokevirtual 291, 3) := by decide +kernel
theorem dX9_type_12 : decode cX9_type 12 = .ok (.ifCond .eq 7, 3) := by decide +kernel
theorem dX9_type_15 : decode cX9_type 15 = .ok (.ldc_w 295, 3) := by decide +kernel
theorem dX9_type_18 : decode cX9_type 18 = .ok (.areturn, 1) := by decide +kernel
theorem dX9_type_19 : decode cX9_type 19 = .ok (.aload_n 0, 1) := by decide +kernel
theorem dX9_type_20 : decode cX9_type 20 = .ok (.iload_n 1, 1) := by decide +kernel
theorem dX9_type_21 : decode cX9_type 21 = .ok (.ldc_w 297, 3) := by decide +kernel
theorem dX9_type_24 : decode cX9_type 24 = .ok (.invokevirtual 291, 3) := by decide +kernel
theorem dX9_type_27 : decode cX9_type 27 = .ok (.ifCond .eq 7, 3) := by decide +kernel
theorem dX9_type_30 : decode cX9_type 30 = .ok (.ldc_w 299, 3) := by decide +kernel
theorem dX9_type_33 : decode cX9_type 33 = .ok (.areturn, 1) := by decide +kernel
theorem dX9_type_34 : decode cX9_type 34 = .ok (.aload_n 0, 1) := by decide +kernel
theorem dX9_type_35 : decode cX9_type 35 = .ok (.iload_n 1, 1) := by decide +kernel
theorem dX9_type_36 : decode cX9_type 36 = .ok (.ldc_w 301, 3) := by decide +kernel
theorem dX9_type_39 : decode cX9_type 39 = .ok (.invokevirtual 291, 3) := by decide +kernel
theorem dX9_type_42 : decode cX9_type 42 = .ok (.ifCond .eq 7, 3) := by decide +kernel
theorem dX9_type_45 : decode cX9_type 45 = .ok (.ldc_w 303, 3) := by decide +kernel
theorem dX9_type_48 : decode cX9_type 48 = .ok (.areturn, 1) := by decide +kernel
theorem dX9_type_49 : decode cX9_type 49 = .ok (.aload_n 0, 1) := by decide +kernel
theorem dX9_type_50 : decode cX9_type 50 = .ok (.iload_n 1, 1) := by decide +kernel
theorem dX9_type_51 : decode cX9_type 51 = .ok (.ldc_w 305, 3) := by decide +kernel
theorem dX9_type_54 : decode cX9_type 54 = .ok (.invokevirtual 291, 3) := by decide +kernel
theorem dX9_type_57 : decode cX9_type 57 = .ok (.ifCond .eq 7, 3) := by decide +kernel
theorem dX9_type_60 : decode cX9_type 60 = .ok (.ldc_w 307, 3) := by decide +kernel
theorem dX9_type_63 : decode cX9_type 63 = .ok (.areturn, 1) := by decide +kernel
theorem dX9_type_64 : decode cX9_type 64 = .ok (.aload_n 0, 1) := by decide +kernel
theorem dX9_type_65 : decode cX9_type 65 = .ok (.iload_n 1, 1) := by decide +kernel
theorem dX9_type_66 : decode cX9_type 66 = .ok (.ldc_w 309, 3) := by decide +kernel
theorem dX9_type_69 : decode cX9_type 69 = .ok (.invokevirtual 291, 3) := by decide +kernel
theorem dX9_type_72 : decode cX9_type 72 = .ok (.ifCond .eq 9, 3) := by decide +kernel
theorem dX9_type_75 : decode cX9_type 75 = .ok (.ldc_w 311, 3) := by decide +kernel
theorem dX9_type_78 : decode cX9_type 78 = .ok (.goto 6, 3) := by decide +kernel
theorem dX9_type_81 : decode cX9_type 81 = .ok (.ldc_w 313, 3) := by decide +kernel
theorem dX9_type_84 : decode cX9_type 84 = .ok (.areturn, 1) := by decide +kernel
set_option maxRecDepth 20000 in
theorem ggX9_make_X9_say : GoodIn wsX9_make wsX9_say := goodIn_r _ [14, 15, 16, 17, 18, 19, 20, 21, 22, 23, 24, 25, 26, 27, 28, 29, 30, 31, 32, 33, 34, 35, 36, 37, 38, 39, 40, 41, 42, 43, 44, 45, 46, 47, 48, 49, 50, 51, 52, 53, 54, 55, 56, 57, 58, 59, 60, 61, 62, 63, 64, 65, 66, 13, 67, 68, 1, 92, 93, 94, 95, 96, 97, 98, 99, 100, 101, 102, 103, 104, 105, 106, 107, 108, 109, 110, 111, 112, 113, 114, 115, 116, 117, 118, 119, 120, 121, 122, 123, 124, 125, 126, 127, 128, 129, 130] rfl (by decide +kernel)
set_option maxRecDepth 20000 in
theorem gX9_make_X9_say : GoodIn wsX9_make (wsV RX9 317 RX9 yX9_say wsX9_say) := goodIn_app (goodIn_of _ (by decide +kernel)) ggX9_make_X9_say
set_option maxRecDepth 20000 in
theorem ggX9_make_X9_sayNumber : GoodIn wsX9_make wsX9_sayNumber := goodIn_r _ [72, 64, 65, 66, 13, 67, 68, 1, 92, 93, 94, 95, 96, 97, 98, 99, 100, 101, 102, 103, 104, 105, 106, 107, 108, 109, 110, 111, 112, 113, 114, 115, 116, 117, 118, 119, 120, 121, 122, 123, 124, 125, 126, 127, 128, 129, 130] (by decide +kernel) (by decide +kernel)
set_option maxRecDepth 20000 in
theorem gX9_make_X9_sayNumber : GoodIn wsX9_make (wsV RX9 321 RX9 yX9_sayNumber wsX9_sayNumber) := goodIn_app (goodIn_of _ (by decide +kernel)) ggX9_make_X9_sayNumber
set_option maxRecDepth 20000 in
theorem ggX9_make_X9_code : GoodIn wsX9_make wsX9_code := goodIn_r _ [67, 68, 1, 92, 93, 94, 95, 96, 97, 98, 99, 100, 101, 102, 103, 104, 105, 106, 107, 108, 109, 110, 111, 112, 113, 114, 115, 116, 117, 118, 119, 120, 121, 122, 123, 124, 125, 126, 127, 128, 129, 130] (by decide +kernel) (by decide +kernel)
set_option maxRecDepth 20000 in
theorem gX9_make_X9_code : GoodIn wsX9_make (wsV RX9 268 RX9 yX9_code wsX9_code) := goodIn_app (goodIn_of _ (by decide +kernel)) ggX9_make_X9_code
set_option maxRecDepth 20000 in
theorem ggX9_make_X9_phrase : GoodIn wsX9_make wsX9_phrase := goodIn_r _ [75] (by decide +kernel) (by decide +kernel)
set_option maxRecDepth 20000 in
theorem gX9_make_X9_phrase : GoodIn wsX9_make (va_wsS RX9 324 yX9_phrase wsX9_phrase) := goodIn_app (goodIn_of _ (by decide +kernel)) ggX9_make_X9_phrase
set_option maxRecDepth 20000 in
theorem ggX9_make_X9_line : GoodIn wsX9_make wsX9_line := goodIn_r _ [79, 64, 65, 66, 13, 67, 68, 1, 92, 93, 94, 95, 96, 97, 98, 99, 100, 101, 102, 103, 104, 105, 106, 107, 108, 109, 110, 111, 112, 113, 114, 115, 116, 117, 118, 119, 120, 121, 122, 123, 124, 125, 126, 127, 128, 129, 130] (by decide +kernel) (by decide +kernel)
set_option maxRecDepth 20000 in
theorem gX9_make_X9_line : GoodIn wsX9_make (wsV RX9 328 RX9 yX9_line wsX9_line) := goodIn_app (goodIn_of _ (by decide +kernel)) ggX9_make_X9_line
set_option maxRecDepth 20000 in
theorem ggX9_make_J0_length_8abf5 : GoodIn wsX9_make wsJ0_length_8abf5 := goodIn_r _ [19, 20, 21, 22, 23, 18, 24, 25, 26] (by decide +kernel) (by decide +kernel)
set_option maxRecDepth 20000 in
theorem gX9_make_J0_length_8abf5 : GoodIn wsX9_make (wsV RX9 194 RJ0 yJ0_length_8abf5 wsJ0_length_8abf5) := goodIn_app (goodIn_of _ (by decide +kernel)) ggX9_make_J0_length_8abf5
set_option maxRecDepth 20000 in
theorem ggX9_make_X9_type : GoodIn wsX9_make wsX9_type := goodIn_r _ [83, 84, 85, 86, 13, 87, 88, 15, 16, 17, 18, 19, 20, 21, 22, 23, 24, 25, 26, 27, 28, 29, 30, 31, 32, 33, 34, 35, 36, 37, 38, 39, 40, 41, 42, 43, 44, 45, 46, 47, 48, 49, 50, 51, 52, 53, 54, 55, 56, 57, 58, 59, 60, 61, 62, 63, 92, 93, 94, 95, 96, 97, 98, 99, 100, 101, 102, 103, 104, 105, 106, 107, 108, 109, 110, 111, 112, 113, 114, 115, 116, 117, 118, 119, 120, 121, 122, 123, 124, 125, 126, 127, 128, 129, 130] rfl (by decide +kernel)
set_option maxRecDepth 20000 in
theorem gX9_make_X9_type : GoodIn wsX9_make (wsV RX9 335 RX9 yX9_type wsX9_type) := goodIn_app (goodIn_of _ (by decide +kernel)) ggX9_make_X9_type
set_option maxRecDepth 20000 in
theorem ggX9_make_X9_hexDigit : GoodIn wsX9_make wsX9_hexDigit := goodIn_r _ [91] (by decide +kernel) (by decide +kernel)
set_option maxRecDepth 20000 in
theorem gX9_make_X9_hexDigit : GoodIn wsX9_make (va_wsS RX9 265 yX9_hexDigit wsX9_hexDigit) := goodIn_app (goodIn_of _ (by decide +kernel)) ggX9_make_X9_hexDigit
theorem dX9_make_0 : decode cX9_make 0 = .ok (.aload_n 0, 1) := by decide +kernel
theorem dX9_make_1 : decode cX9_make 1 = .ok (.iconst 0, 1) := by decide +kernel
theorem dX9_make_2 : decode cX9_make 2 = .ok (.putfield 67, 3) := by decide +kernel
theorem dX9_make_5 : decode cX9_make 5 = .ok (.aload_n 0, 1) := by decide +kernel
theorem dX9_make_6 : decode cX9_make 6 = .ok (.ldc_w 315, 3) := by decide +kernel
theorem dX9_make_9 : decode cX9_make 9 = .ok (.invokevirtual 317, 3) := by decide +kernel
theorem dX9_make_12 : decode cX9_make 12 = .ok (.aload_n 0, 1) := by decide +kernel
theorem dX9_make_13 : decode cX9_make 13 = .ok (.aload_n 0, 1) := by decide +kernel
theorem dX9_make_14 : decode cX9_make 14 = .ok (.getfield 111, 3) := by decide +kernel
theorem dX9_make_17 : decode cX9_make 17 = .ok (.invokevirtual 321, 3) := by decide +kernel
theorem dX9_make_20 : decode cX9_make 20 = .ok (.aload_n 0, 1) := by decide +kernel
theorem dX9_make_21 : decode cX9_make 21 = .ok (.bipush 32, 2) := by decide +kernel
theorem dX9_make_23 : decode cX9_make 23 = .ok (.invokevirtual 268, 3) := by decide +kernel
theorem dX9_make_26 : decode cX9_make 26 = .ok (.aload_n 0, 1) := by decide +kernel
theorem dX9_make_27 : decode cX9_make 27 = .ok (.aload_n 0, 1) := by decide +kernel
theorem dX9_make_28 : decode cX9_make 28 = .ok (.getfield 111, 3) := by decide +kernel
theorem dX9_make_31 : decode cX9_make 31 = .ok (.invokestatic 324, 3) := by decide +kernel
theorem dX9_make_34 : decode cX9_make 34 = .ok (.invokevirtual 317, 3) := by decide +kernel
theorem dX9_make_37 : decode cX9_make 37 = .ok (.aload_n 0, 1) := by decide +kernel
theorem dX9_make_38 : decode cX9_make 38 = .ok (.invokevirtual 328, 3) := by decide +kernel
theorem dX9_make_41 : decode cX9_make 41 = .ok (.iload_n 1, 1) := by decide +kernel
theorem dX9_make_42 : decode cX9_make 42 = .ok (.ifCond .lt 12, 3) := by decide +kernel
theorem dX9_make_45 : decode cX9_make 45 = .ok (.aload_n 0, 1) := by decide +kernel
theorem dX9_make_46 : decode cX9_make 46 = .ok (.getfield 25, 3) := by decide +kernel
theorem dX9_make_49 : decode cX9_make 49 = .ok (.iload_n 1, 1) := by decide +kernel
theorem dX9_make_50 : decode cX9_make 50 = .ok (.iaload, 1) := by decide +kernel
theorem dX9_make_51 : decode cX9_make 51 = .ok (.goto 15, 3) := by decide +kernel
theorem dX9_make_54 : decode cX9_make 54 = .ok (.iconst 5, 1) := by decide +kernel
theorem dX9_make_55 : decode cX9_make 55 = .ok (.aload_n 0, 1) := by decide +kernel
theorem dX9_make_56 : decode cX9_make 56 = .ok (.getfield 111, 3) := by decide +kernel
theorem dX9_make_59 : decode cX9_make 59 = .ok (.invokestatic 324, 3) := by decide +kernel
theorem dX9_make_62 : decode cX9_make 62 = .ok (.invokevirtual 194, 3) := by decide +kernel
theorem dX9_make_65 : decode cX9_make 65 = .ok (.iadd, 1) := by decide +kernel
theorem dX9_make_66 : decode cX9_make 66 = .ok (.istore_n 3, 1) := by decide +kernel
theorem dX9_make_67 : decode cX9_make 67 = .ok (.aload_n 0, 1) := by decide +kernel
theorem dX9_make_68 : decode cX9_make 68 = .ok (.getfield 111, 3) := by decide +kernel
theorem dX9_make_71 : decode cX9_make 71 = .ok (.sipush 304, 3) := by decide +kernel
theorem dX9_make_74 : decode cX9_make 74 = .ok (.if_icmp .eq 39, 3) := by decide +kernel
theorem dX9_make_77 : decode cX9_make 77 = .ok (.aload_n 0, 1) := by decide +kernel
theorem dX9_make_78 : decode cX9_make 78 = .ok (.ldc_w 331, 3) := by decide +kernel
theorem dX9_make_81 : decode cX9_make 81 = .ok (.invokevirtual 317, 3) := by decide +kernel
theorem dX9_make_84 : decode cX9_make 84 = .ok (.aload_n 0, 1) := by decide +kernel
theorem dX9_make_85 : decode cX9_make 85 = .ok (.iload_n 3, 1) := by decide +kernel
theorem dX9_make_86 : decode cX9_make 86 = .ok (.invokevirtual 321, 3) := by decide +kernel
theorem dX9_make_89 : decode cX9_make 89 = .ok (.aload_n 0, 1) := by decide +kernel
theorem dX9_make_90 : decode cX9_make 90 = .ok (.invokevirtual 328, 3) := by decide +kernel
theorem dX9_make_93 : decode cX9_make 93 = .ok (.aload_n 0, 1) := by decide +kernel
theorem dX9_make_94 : decode cX9_make 94 = .ok (.ldc_w 333, 3) := by decide +kernel
theorem dX9_make_97 : decode cX9_make 97 = .ok (.invokevirtual 317, 3) := by decide +kernel
theorem dX9_make_100 : decode cX9_make 100 = .ok (.aload_n 0, 1) := by decide +kernel
theorem dX9_make_101 : decode cX9_make 101 = .ok (.aload_n 0, 1) := by decide +kernel
theorem dX9_make_102 : decode cX9_make 102 = .ok (.iload_n 1, 1) := by decide +kernel
theorem dX9_make_103 : decode cX9_make 103 = .ok (.invokevirtual 335, 3) := by decide +kernel
theorem dX9_make_106 : decode cX9_make 106 = .ok (.invokevirtual 317, 3) := by decide +kernel
theorem dX9_make_109 : decode cX9_make 109 = .ok (.aload_n 0, 1) := by decide +kernel
theorem dX9_make_110 : decode cX9_make 110 = .ok (.invokevirtual 328, 3) := by decide +kernel
theorem dX9_make_113 : decode cX9_make 113 = .ok (.iload_n 1, 1) := by decide +kernel
theorem dX9_make_114 : decode cX9_make 114 = .ok (.ifCond .lt 51, 3) := by decide +kernel
theorem dX9_make_117 : decode cX9_make 117 = .ok (.aload_n 0, 1) := by decide +kernel
theorem dX9_make_118 : decode cX9_make 118 = .ok (.ldc_w 338, 3) := by decide +kernel
theorem dX9_make_121 : decode cX9_make 121 = .ok (.invokevirtual 317, 3) := by decide +kernel
theorem dX9_make_124 : decode cX9_make 124 = .ok (.iconst 0, 1) := by decide +kernel
theorem dX9_make_125 : decode cX9_make 125 = .ok (.istore 4, 2) := by decide +kernel
theorem dX9_make_127 : decode cX9_make 127 = .ok (.iload 4, 2) := by decide +kernel
theorem dX9_make_129 : decode cX9_make 129 = .ok (.bipush 8, 2) := by decide +kernel
theorem dX9_make_131 : decode cX9_make 131 = .ok (.if_icmp .ge 24, 3) := by decide +kernel
theorem dX9_make_134 : decode cX9_make 134 = .ok (.aload_n 0, 1) := by decide +kernel
theorem dX9_make_135 : decode cX9_make 135 = .ok (.aload_n 0, 1) := by decide +kernel
theorem dX9_make_136 : decode cX9_make 136 = .ok (.getfield 28, 3) := by decide +kernel
theorem dX9_make_139 : decode cX9_make 139 = .ok (.iload_n 1, 1) := by decide +kernel
theorem dX9_make_140 : decode cX9_make 140 = .ok (.iaload, 1) := by decide +kernel
theorem dX9_make_141 : decode cX9_make 141 = .ok (.iload 4, 2) := by decide +kernel
theorem dX9_make_143 : decode cX9_make 143 = .ok (.invokestatic 265, 3) := by decide +kernel
theorem dX9_make_146 : decode cX9_make 146 = .ok (.invokevirtual 268, 3) := by decide +kernel
theorem dX9_make_149 : decode cX9_make 149 = .ok (.iinc 4 1, 3) := by decide +kernel
theorem dX9_make_152 : decode cX9_make 152 = .ok (.goto (-25), 3) := by decide +kernel
theorem dX9_make_155 : decode cX9_make 155 = .ok (.aload_n 0, 1) := by decide +kernel
theorem dX9_make_156 : decode cX9_make 156 = .ok (.bipush 34, 2) := by decide +kernel
theorem dX9_make_158 : decode cX9_make 158 = .ok (.invokevirtual 268, 3) := by decide +kernel
theorem dX9_make_161 : decode cX9_make 161 = .ok (.aload_n 0, 1) := by decide +kernel
theorem dX9_make_162 : decode cX9_make 162 = .ok (.invokevirtual 328, 3) := by decide +kernel
theorem dX9_make_165 : decode cX9_make 165 = .ok (.aload_n 0, 1) := by decide +kernel
theorem dX9_make_166 : decode cX9_make 166 = .ok (.getfield 111, 3) := by decide +kernel
theorem dX9_make_169 : decode cX9_make 169 = .ok (.sipush 405, 3) := by decide +kernel
theorem dX9_make_172 : decode cX9_make 172 = .ok (.if_icmp .ne 14, 3) := by decide +kernel
theorem dX9_make_175 : decode cX9_make 175 = .ok (.aload_n 0, 1) := by decide +kernel
theorem dX9_make_176 : decode cX9_make 176 = .ok (.ldc_w 340, 3) := by decide +kernel
theorem dX9_make_179 : decode cX9_make 179 = .ok (.invokevirtual 317, 3) := by decide +kernel
theorem dX9_make_182 : decode cX9_make 182 = .ok (.aload_n 0, 1) := by decide +kernel
theorem dX9_make_183 : decode cX9_make 183 = .ok (.invokevirtual 328, 3) := by decide +kernel
theorem dX9_make_186 : decode cX9_make 186 = .ok (.iload_n 2, 1) := by decide +kernel
theorem dX9_make_187 : decode cX9_make 187 = .ok (.ifCond .eq 14, 3) := by decide +kernel
theorem dX9_make_190 : decode cX9_make 190 = .ok (.aload_n 0, 1) := by decide +kernel
theorem dX9_make_191 : decode cX9_make 191 = .ok (.ldc_w 342, 3) := by decide +kernel
theorem dX9_make_194 : decode cX9_make 194 = .ok (.invokevirtual 317, 3) := by decide +kernel
theorem dX9_make_197 : decode cX9_make 197 = .ok (.aload_n 0, 1) := by decide +kernel
theorem dX9_make_198 : decode cX9_make 198 = .ok (.invokevirtual 328, 3) := by decide +kernel
theorem dX9_make_201 : decode cX9_make 201 = .ok (.aload_n 0, 1) := by decide +kernel
theorem dX9_make_202 : decode cX9_make 202 = .ok (.invokevirtual 328, 3) := by decide +kernel
theorem dX9_make_205 : decode cX9_make 205 = .ok (.aload_n 0, 1) := by decide +kernel
theorem dX9_make_206 : decode cX9_make 206 = .ok (.getfield 108, 3) := by decide +kernel
theorem dX9_make_209 : decode cX9_make 209 = .ok (.ifCond .ne 17, 3) := by decide +kernel
theorem dX9_make_212 : decode cX9_make 212 = .ok (.aload_n 0, 1) := by decide +kernel
theorem dX9_make_213 : decode cX9_make 213 = .ok (.getfield 111, 3) := by decide +kernel
theorem dX9_make_216 : decode cX9_make 216 = .ok (.sipush 304, 3) := by decide +kernel
theorem dX9_make_219 : decode cX9_make 219 = .ok (.if_icmp .eq 7, 3) := by decide +kernel
theorem dX9_make_222 : decode cX9_make 222 = .ok (.iconst 1, 1) := by decide +kernel
theorem dX9_make_223 : decode cX9_make 223 = .ok (.goto 4, 3) := by decide +kernel
theorem dX9_make_226 : decode cX9_make 226 = .ok (.iconst 0, 1) := by decide +kernel
theorem dX9_make_227 : decode cX9_make 227 = .ok (.istore 4, 2) := by decide +kernel
theorem dX9_make_229 : decode cX9_make 229 = .ok (.aload_n 0, 1) := by decide +kernel
theorem dX9_make_230 : decode cX9_make 230 = .ok (.iload 4, 2) := by decide +kernel
theorem dX9_make_232 : decode cX9_make 232 = .ok (.ifCond .eq 11, 3) := by decide +kernel
theorem dX9_make_235 : decode cX9_make 235 = .ok (.iload_n 1, 1) := by decide +kernel
theorem dX9_make_236 : decode cX9_make 236 = .ok (.ifCond .lt 7, 3) := by decide +kernel
theorem dX9_make_239 : decode cX9_make 239 = .ok (.iload_n 3, 1) := by decide +kernel
theorem dX9_make_240 : decode cX9_make 240 = .ok (.goto 4, 3) := by decide +kernel
theorem dX9_make_243 : decode cX9_make 243 = .ok (.iconst 0, 1) := by decide +kernel
theorem dX9_make_244 : decode cX9_make 244 = .ok (.putfield 70, 3) := by decide +kernel
theorem dX9_make_247 : decode cX9_make 247 = .ok (.iconst 0, 1) := by decide +kernel
theorem dX9_make_248 : decode cX9_make 248 = .ok (.istore 5, 2) := by decide +kernel
theorem dX9_make_250 : decode cX9_make 250 = .ok (.iload 5, 2) := by decide +kernel
theorem dX9_make_252 : decode cX9_make 252 = .ok (.aload_n 0, 1) := by decide +kernel
theorem dX9_make_253 : decode cX9_make 253 = .ok (.getfield 70, 3) := by decide +kernel
theorem dX9_make_256 : decode cX9_make 256 = .ok (.if_icmp .ge 30, 3) := by decide +kernel
theorem dX9_make_259 : decode cX9_make 259 = .ok (.aload_n 0, 1) := by decide +kernel
theorem dX9_make_260 : decode cX9_make 260 = .ok (.getfield 37, 3) := by decide +kernel
theorem dX9_make_263 : decode cX9_make 263 = .ok (.iload 5, 2) := by decide +kernel
theorem dX9_make_265 : decode cX9_make 265 = .ok (.aload_n 0, 1) := by decide +kernel
theorem dX9_make_266 : decode cX9_make 266 = .ok (.getfield 15, 3) := by decide +kernel
theorem dX9_make_269 : decode cX9_make 269 = .ok (.aload_n 0, 1) := by decide +kernel
theorem dX9_make_270 : decode cX9_make 270 = .ok (.getfield 21, 3) := by decide +kernel
theorem dX9_make_273 : decode cX9_make 273 = .ok (.iload_n 1, 1) := by decide +kernel
theorem dX9_make_274 : decode cX9_make 274 = .ok (.iaload, 1) := by decide +kernel
theorem dX9_make_275 : decode cX9_make 275 = .ok (.iload 5, 2) := by decide +kernel
theorem dX9_make_277 : decode cX9_make 277 = .ok (.iadd, 1) := by decide +kernel
theorem dX9_make_278 : decode cX9_make 278 = .ok (.baload, 1) := by decide +kernel
theorem dX9_make_279 : decode cX9_make 279 = .ok (.bastore, 1) := by decide +kernel
theorem dX9_make_280 : decode cX9_make 280 = .ok (.iinc 5 1, 3) := by decide +kernel
theorem dX9_make_283 : decode cX9_make 283 = .ok (.goto (-33), 3) := by decide +kernel
theorem dX9_make_286 : decode cX9_make 286 = .ok (.iload 4, 2) := by decide +kernel
theorem dX9_make_288 : decode cX9_make 288 = .ok (.ifCond .eq 38, 3) := by decide +kernel
theorem dX9_make_291 : decode cX9_make 291 = .ok (.iload_n 1, 1) := by decide +kernel
theorem dX9_make_292 : decode cX9_make 292 = .ok (.ifCond .ge 34, 3) := by decide +kernel
theorem dX9_make_295 : decode cX9_make 295 = .ok (.aload_n 0, 1) := by decide +kernel
theorem dX9_make_296 : decode cX9_make 296 = .ok (.aload_n 0, 1) := by decide +kernel
theorem dX9_make_297 : decode cX9_make 297 = .ok (.getfield 111, 3) := by decide +kernel
theorem dX9_make_300 : decode cX9_make 300 = .ok (.invokevirtual 321, 3) := by decide +kernel
theorem dX9_make_303 : decode cX9_make 303 = .ok (.aload_n 0, 1) := by decide +kernel
theorem dX9_make_304 : decode cX9_make 304 = .ok (.bipush 32, 2) := by decide +kernel
theorem dX9_make_306 : decode cX9_make 306 = .ok (.invokevirtual 268, 3) := by decide +kernel
theorem dX9_make_309 : decode cX9_make 309 = .ok (.aload_n 0, 1) := by decide +kernel
theorem dX9_make_310 : decode cX9_make 310 = .ok (.aload_n 0, 1) := by decide +kernel
theorem dX9_make_311 : decode cX9_make 311 = .ok (.getfield 111, 3) := by decide +kernel
theorem dX9_make_314 : decode cX9_make 314 = .ok (.invokestatic 324, 3) := by decide +kernel
theorem dX9_make_317 : decode cX9_make 317 = .ok (.invokevirtual 317, 3) := by decide +kernel
theorem dX9_make_320 : decode cX9_make 320 = .ok (.aload_n 0, 1) := by decide +kernel
theorem dX9_make_321 : decode cX9_make 321 = .ok (.bipush 10, 2) := by decide +kernel
theorem dX9_make_323 : decode cX9_make 323 = .ok (.invokevirtual 268, 3) := by decide +kernel
theorem dX9_make_326 : decode cX9_make 326 = .ok (.return_, 1) := by decide +kernel
theorem dX9_held_0 : decode cX9_held 0 = .ok (.aload_n 0, 1) := by decide +kernel
theorem dX9_held_1 : decode cX9_held 1 = .ok (.getfield 61, 3) := by decide +kernel
theorem dX9_held_4 : decode cX9_held 4 = .ok (.ireturn, 1) := by decide +kernel
theorem dX9_left_0 : decode cX9_left 0 = .ok (.aload_n 0, 1) := by decide +kernel
theorem dX9_left_1 : decode cX9_left 1 = .ok (.getfield 64, 3) := by decide +kernel
theorem dX9_left_4 : decode cX9_left 4 = .ok (.ireturn, 1) := by decide +kernel
theorem dX9_length_0 : decode cX9_length 0 = .ok (.aload_n 0, 1) := by decide +kernel
theorem dX9_length_1 : decode cX9_length 1 = .ok (.getfield 67, 3) := by decide +kernel
theorem dX9_length_4 : decode cX9_length 4 = .ok (.aload_n 0, 1) := by decide +kernel
theorem dX9_length_5 : decode cX9_length 5 = .ok (.getfield 70, 3) := by decide +kernel
theorem dX9_length_8 : decode cX9_length 8 = .ok (.iadd, 1) := by decide +kernel
theorem dX9_length_9 : decode cX9_length 9 = .ok (.ireturn, 1) := by decide +kernel
set_option maxRecDepth 20000 in
theorem ggX9_at_X9_length : GoodIn wsX9_at wsX9_length := goodIn_r _ [8, 1, 9, 10, 11, 12, 13, 14, 15, 16, 17, 18, 19, 20, 21, 22, 23, 24, 25, 26, 27, 28, 29, 30, 31, 32, 33, 34, 35, 36, 37, 38, 39, 40, 41, 42, 43, 44, 45, 46, 47, 48] (by decide +kernel) (by decide +kernel)
set_option maxRecDepth 20000 in
theorem gX9_at_X9_length : GoodIn wsX9_at (wsV RX9 344 RX9 yX9_length wsX9_length) := goodIn_app (goodIn_of _ (by decide +kernel)) ggX9_at_X9_length
theorem dX9_at_0 : decode cX9_at 0 = .ok (.iload_n 1, 1) := by decide +kernel
theorem dX9_at_1 : decode cX9_at 1 = .ok (.ifCond .lt 11, 3) := by decide +kernel
theorem dX9_at_4 : decode cX9_at 4 = .ok (.iload_n 1, 1) := by decide +kernel
theorem dX9_at_5 : decode cX9_at 5 = .ok (.aload_n 0, 1) := by decide +kernel
theorem dX9_at_6 : decode cX9_at 6 = .ok (.invokevirtual 344, 3) := by decide +kernel
theorem dX9_at_9 : decode cX9_at 9 = .ok (.if_icmp .lt 5, 3) := by decide +kernel
theorem dX9_at_12 : decode cX9_at 12 = .ok (.iconst (-1), 1) := by decide +kernel
theorem dX9_at_13 : decode cX9_at 13 = .ok (.ireturn, 1) := by decide +kernel
theorem dX9_at_14 : decode cX9_at 14 = .ok (.iload_n 1, 1) := by decide +kernel
theorem dX9_at_15 : decode cX9_at 15 = .ok (.aload_n 0, 1) := by decide +kernel
theorem dX9_at_16 : decode cX9_at 16 = .ok (.getfield 67, 3) := by decide +kernel
theorem dX9_at_19 : decode cX9_at 19 = .ok (.if_icmp .ge 12, 3) := by decide +kernel
theorem dX9_at_22 : decode cX9_at 22 = .ok (.aload_n 0, 1) := by decide +kernel
theorem dX9_at_23 : decode cX9_at 23 = .ok (.getfield 34, 3) := by decide +kernel
theorem dX9_at_26 : decode cX9_at 26 = .ok (.iload_n 1, 1) := by decide +kernel
theorem dX9_at_27 : decode cX9_at 27 = .ok (.baload, 1) := by decide +kernel
theorem dX9_at_28 : decode cX9_at 28 = .ok (.goto 14, 3) := by decide +kernel
theorem dX9_at_31 : decode cX9_at 31 = .ok (.aload_n 0, 1) := by decide +kernel
theorem dX9_at_32 : decode cX9_at 32 = .ok (.getfield 37, 3) := by decide +kernel
theorem dX9_at_35 : decode cX9_at 35 = .ok (.iload_n 1, 1) := by decide +kernel
theorem dX9_at_36 : decode cX9_at 36 = .ok (.aload_n 0, 1) := by decide +kernel
theorem dX9_at_37 : decode cX9_at 37 = .ok (.getfield 67, 3) := by decide +kernel
theorem dX9_at_40 : decode cX9_at 40 = .ok (.isub, 1) := by decide +kernel
theorem dX9_at_41 : decode cX9_at 41 = .ok (.baload, 1) := by decide +kernel
theorem dX9_at_42 : decode cX9_at 42 = .ok (.sipush 255, 3) := by decide +kernel
theorem dX9_at_45 : decode cX9_at 45 = .ok (.iand, 1) := by decide +kernel
theorem dX9_at_46 : decode cX9_at 46 = .ok (.ireturn, 1) := by decide +kernel
theorem dX9_damage_0 : decode cX9_damage 0 = .ok (.iload_n 1, 1) := by decide +kernel
theorem dX9_damage_1 : decode cX9_damage 1 = .ok (.ifCond .lt 11, 3) := by decide +kernel
theorem dX9_damage_4 : decode cX9_damage 4 = .ok (.iload_n 1, 1) := by decide +kernel
theorem dX9_damage_5 : decode cX9_damage 5 = .ok (.aload_n 0, 1) := by decide +kernel
theorem dX9_damage_6 : decode cX9_damage 6 = .ok (.getfield 54, 3) := by decide +kernel
theorem dX9_damage_9 : decode cX9_damage 9 = .ok (.if_icmp .lt 5, 3) := by decide +kernel
theorem dX9_damage_12 : decode cX9_damage 12 = .ok (.iconst 0, 1) := by decide +kernel
theorem dX9_damage_13 : decode cX9_damage 13 = .ok (.ireturn, 1) := by decide +kernel
theorem dX9_damage_14 : decode cX9_damage 14 = .ok (.aload_n 0, 1) := by decide +kernel
theorem dX9_damage_15 : decode cX9_damage 15 = .ok (.getfield 15, 3) := by decide +kernel
theorem dX9_damage_18 : decode cX9_damage 18 = .ok (.iload_n 1, 1) := by decide +kernel
theorem dX9_damage_19 : decode cX9_damage 19 = .ok (.iload_n 2, 1) := by decide +kernel
theorem dX9_damage_20 : decode cX9_damage 20 = .ok (.i2b, 1) := by decide +kernel
theorem dX9_damage_21 : decode cX9_damage 21 = .ok (.bastore, 1) := by decide +kernel
theorem dX9_damage_22 : decode cX9_damage 22 = .ok (.iconst 1, 1) := by decide +kernel
theorem dX9_damage_23 : decode cX9_damage 23 = .ok (.ireturn, 1) := by decide +kernel
theorem dJ11_isValidCodePoint_9a6ad_0 : decode cJ11_isValidCodePoint_9a6ad 0 = .ok (.iload_n 0, 1) := by decide +kernel
theorem dJ11_isValidCodePoint_9a6ad_1 : decode cJ11_isValidCodePoint_9a6ad 1 = .ok (.bipush 16, 2) := by decide +kernel
theorem dJ11_isValidCodePoint_9a6ad_3 : decode cJ11_isValidCodePoint_9a6ad 3 = .ok (.iushr, 1) := by decide +kernel
theorem dJ11_isValidCodePoint_9a6ad_4 : decode cJ11_isValidCodePoint_9a6ad 4 = .ok (.istore_n 1, 1) := by decide +kernel
theorem dJ11_isValidCodePoint_9a6ad_5 : decode cJ11_isValidCodePoint_9a6ad 5 = .ok (.iload_n 1, 1) := by decide +kernel
theorem dJ11_isValidCodePoint_9a6ad_6 : decode cJ11_isValidCodePoint_9a6ad 6 = .ok (.bipush 17, 2) := by decide +kernel
theorem dJ11_isValidCodePoint_9a6ad_8 : decode cJ11_isValidCodePoint_9a6ad 8 = .ok (.if_icmp .ge 7, 3) := by decide +kernel
theorem dJ11_isValidCodePoint_9a6ad_11 : decode cJ11_isValidCodePoint_9a6ad 11 = .ok (.iconst 1, 1) := by decide +kernel
theorem dJ11_isValidCodePoint_9a6ad_12 : decode cJ11_isValidCodePoint_9a6ad 12 = .ok (.goto 4, 3) := by decide +kernel
theorem dJ11_isValidCodePoint_9a6ad_15 : decode cJ11_isValidCodePoint_9a6ad 15 = .ok (.iconst 0, 1) := by decide +kernel
theorem dJ11_isValidCodePoint_9a6ad_16 : decode cJ11_isValidCodePoint_9a6ad 16 = .ok (.ireturn, 1) := by decide +kernel
theorem dJ11_highSurrogate_5068e_0 : decode cJ11_highSurrogate_5068e 0 = .ok (.iload_n 0, 1) := by decide +kernel
theorem dJ11_highSurrogate_5068e_1 : decode cJ11_highSurrogate_5068e 1 = .ok (.bipush 10, 2) := by decide +kernel
theorem dJ11_highSurrogate_5068e_3 : decode cJ11_highSurrogate_5068e 3 = .ok (.iushr, 1) := by decide +kernel
theorem dJ11_highSurrogate_5068e_4 : decode cJ11_highSurrogate_5068e 4 = .ok (.ldc 110, 2) := by decide +kernel
theorem dJ11_highSurrogate_5068e_6 : decode cJ11_highSurrogate_5068e 6 = .ok (.iadd, 1) := by decide +kernel
theorem dJ11_highSurrogate_5068e_7 : decode cJ11_highSurrogate_5068e 7 = .ok (.i2c, 1) := by decide +kernel
theorem dJ11_highSurrogate_5068e_8 : decode cJ11_highSurrogate_5068e 8 = .ok (.ireturn, 1) := by decide +kernel
theorem dJ11_lowSurrogate_5068e_0 : decode cJ11_lowSurrogate_5068e 0 = .ok (.iload_n 0, 1) := by decide +kernel
theorem dJ11_lowSurrogate_5068e_1 : decode cJ11_lowSurrogate_5068e 1 = .ok (.sipush 1023, 3) := by decide +kernel
theorem dJ11_lowSurrogate_5068e_4 : decode cJ11_lowSurrogate_5068e 4 = .ok (.iand, 1) := by decide +kernel
theorem dJ11_lowSurrogate_5068e_5 : decode cJ11_lowSurrogate_5068e 5 = .ok (.ldc 76, 2) := by decide +kernel
theorem dJ11_lowSurrogate_5068e_7 : decode cJ11_lowSurrogate_5068e 7 = .ok (.iadd, 1) := by decide +kernel
theorem dJ11_lowSurrogate_5068e_8 : decode cJ11_lowSurrogate_5068e 8 = .ok (.i2c, 1) := by decide +kernel
theorem dJ11_lowSurrogate_5068e_9 : decode cJ11_lowSurrogate_5068e 9 = .ok (.ireturn, 1) := by decide +kernel
theorem dJ9_max_7cf53_0 : decode cJ9_max_7cf53 0 = .ok (.iload_n 0, 1) := by decide +kernel
theorem dJ9_max_7cf53_1 : decode cJ9_max_7cf53 1 = .ok (.iload_n 1, 1) := by decide +kernel
theorem dJ9_max_7cf53_2 : decode cJ9_max_7cf53 2 = .ok (.if_icmp .lt 7, 3) := by decide +kernel
theorem dJ9_max_7cf53_5 : decode cJ9_max_7cf53 5 = .ok (.iload_n 0, 1) := by decide +kernel
theorem dJ9_max_7cf53_6 : decode cJ9_max_7cf53 6 = .ok (.goto 4, 3) := by decide +kernel
theorem dJ9_max_7cf53_9 : decode cJ9_max_7cf53 9 = .ok (.iload_n 1, 1) := by decide +kernel
theorem dJ9_max_7cf53_10 : decode cJ9_max_7cf53 10 = .ok (.ireturn, 1) := by decide +kernel
theorem dJ9_min_7cf53_0 : decode cJ9_min_7cf53 0 = .ok (.iload_n 0, 1) := by decide +kernel
theorem dJ9_min_7cf53_1 : decode cJ9_min_7cf53 1 = .ok (.iload_n 1, 1) := by decide +kernel
theorem dJ9_min_7cf53_2 : decode cJ9_min_7cf53 2 = .ok (.if_icmp .gt 7, 3) := by decide +kernel
theorem dJ9_min_7cf53_5 : decode cJ9_min_7cf53 5 = .ok (.iload_n 0, 1) := by decide +kernel
theorem dJ9_min_7cf53_6 : decode cJ9_min_7cf53 6 = .ok (.goto 4, 3) := by decide +kernel
theorem dJ9_min_7cf53_9 : decode cJ9_min_7cf53 9 = .ok (.iload_n 1, 1) := by decide +kernel
theorem dJ9_min_7cf53_10 : decode cJ9_min_7cf53 10 = .ok (.ireturn, 1) := by decide +kernel
set_option maxRecDepth 20000 in
theorem ggJ0_length_8abf5_J0_coder_7d493 : GoodIn wsJ0_length_8abf5 wsJ0_coder_7d493 := goodIn_r _ [6, 7, 8] (by decide +kernel) (by decide +kernel)
set_option maxRecDepth 20000 in
theorem gJ0_length_8abf5_J0_coder_7d493 : GoodIn wsJ0_length_8abf5 (wsV RJ0 335 RJ0 yJ0_coder_7d493 wsJ0_coder_7d493) := goodIn_app (goodIn_of _ (by decide +kernel)) ggJ0_length_8abf5_J0_coder_7d493
theorem dJ0_length_8abf5_0 : decode cJ0_length_8abf5 0 = .ok (.aload_n 0, 1) := by decide +kernel
theorem dJ0_length_8abf5_1 : decode cJ0_length_8abf5 1 = .ok (.getfield 9, 3) := by decide +kernel
theorem dJ0_length_8abf5_4 : decode cJ0_length_8abf5 4 = .ok (.arraylength, 1) := by decide +kernel
theorem dJ0_length_8abf5_5 : decode cJ0_length_8abf5 5 = .ok (.aload_n 0, 1) := by decide +kernel
theorem dJ0_length_8abf5_6 : decode cJ0_length_8abf5 6 = .ok (.invokevirtual 335, 3) := by decide +kernel
theorem dJ0_length_8abf5_9 : decode cJ0_length_8abf5 9 = .ok (.ishr, 1) := by decide +kernel
theorem dJ0_length_8abf5_10 : decode cJ0_length_8abf5 10 = .ok (.ireturn, 1) := by decide +kernel
set_option maxRecDepth 20000 in
theorem ggJ0_charAt_5068e_J0_isLatin1_aae02 : GoodIn wsJ0_charAt_5068e wsJ0_isLatin1_aae02 := goodIn_r _ [6, 7, 8] (by decide +kernel) (by decide +kernel)
set_option maxRecDepth 20000 in
theorem gJ0_charAt_5068e_J0_isLatin1_aae02 : GoodIn wsJ0_charAt_5068e (wsV RJ0 492 RJ0 yJ0_isLatin1_aae02 wsJ0_isLatin1_aae02) := goodIn_app (goodIn_of _ (by decide +kernel)) ggJ0_charAt_5068e_J0_isLatin1_aae02
set_option maxRecDepth 20000 in
theorem ggJ0_charAt_5068e_J1_charAt_3b067 : GoodIn wsJ0_charAt_5068e wsJ1_charAt_3b067 := goodIn_r _ [12, 13, 14, 5, 15, 16, 17, 18, 19, 20] (by decide +kernel) (by decide +kernel)
set_option maxRecDepth 20000 in
theorem gJ0_charAt_5068e_J1_charAt_3b067 : GoodIn wsJ0_charAt_5068e (va_wsS RJ0 495 yJ1_charAt_3b067 wsJ1_charAt_3b067) := goodIn_app (goodIn_of _ (by decide +kernel)) ggJ0_charAt_5068e_J1_charAt_3b067
set_option maxRecDepth 20000 in
theorem ggJ0_charAt_5068e_J2_charAt_3b067 : GoodIn wsJ0_charAt_5068e wsJ2_charAt_3b067 := goodIn_r _ [24, 25, 26, 23, 27, 28, 29, 30, 31, 14, 5, 15, 16, 17, 18, 19, 20, 32, 33, 34, 35, 36, 37] (by decide +kernel) (by decide +kernel)
set_option maxRecDepth 20000 in
theorem gJ0_charAt_5068e_J2_charAt_3b067 : GoodIn wsJ0_charAt_5068e (va_wsS RJ0 498 yJ2_charAt_3b067 wsJ2_charAt_3b067) := goodIn_app (goodIn_of _ (by decide +kernel)) ggJ0_charAt_5068e_J2_charAt_3b067
theorem dJ0_charAt_5068e_0 : decode cJ0_charAt_5068e 0 = .ok (.aload_n 0, 1) := by decide +kernel
theorem dJ0_charAt_5068e_1 : decode cJ0_charAt_5068e 1 = .ok (.invokevirtual 492, 3) := by decide +kernel
theorem dJ0_charAt_5068e_4 : decode cJ0_charAt_5068e 4 = .ok (.ifCond .eq 12, 3) := by decide +kernel
theorem dJ0_charAt_5068e_7 : decode cJ0_charAt_5068e 7 = .ok (.aload_n 0, 1) := by decide +kernel
theorem dJ0_charAt_5068e_8 : decode cJ0_charAt_5068e 8 = .ok (.getfield 9, 3) := by decide +kernel
theorem dJ0_charAt_5068e_11 : decode cJ0_charAt_5068e 11 = .ok (.iload_n 1, 1) := by decide +kernel
theorem dJ0_charAt_5068e_12 : decode cJ0_charAt_5068e 12 = .ok (.invokestatic 495, 3) := by decide +kernel
theorem dJ0_charAt_5068e_15 : decode cJ0_charAt_5068e 15 = .ok (.ireturn, 1) := by decide +kernel
theorem dJ0_charAt_5068e_16 : decode cJ0_charAt_5068e 16 = .ok (.aload_n 0, 1) := by decide +kernel
theorem dJ0_charAt_5068e_17 : decode cJ0_charAt_5068e 17 = .ok (.getfield 9, 3) := by decide +kernel
theorem dJ0_charAt_5068e_20 : decode cJ0_charAt_5068e 20 = .ok (.iload_n 1, 1) := by decide +kernel
theorem dJ0_charAt_5068e_21 : decode cJ0_charAt_5068e 21 = .ok (.invokestatic 498, 3) := by decide +kernel
theorem dJ0_charAt_5068e_24 : decode cJ0_charAt_5068e 24 = .ok (.ireturn, 1) := by decide +kernel
set_option maxRecDepth 20000 in
theorem ggJ0_indexOf_0f7a4_J0_indexOf_7cf53 : GoodIn wsJ0_indexOf_0f7a4 wsJ0_indexOf_7cf53 := goodIn_r _ [5, 6, 7, 8, 9, 4, 10, 11, 12, 13, 14, 15, 16, 17, 18, 19, 20, 21, 22, 23, 24, 25, 26, 27, 28, 29, 30, 31, 32, 33, 34, 35, 36, 37, 38, 39, 40, 41, 42, 43, 44, 45, 46, 47, 48, 49, 50, 51, 52, 53, 54, 55, 56, 57, 58, 59, 60, 61, 62, 63, 64, 65, 66, 67, 68, 69, 70, 71, 72, 73, 74, 75, 76, 77, 78, 79, 80, 81, 82, 83, 84, 85] rfl (by decide +kernel)
set_option maxRecDepth 20000 in
theorem gJ0_indexOf_0f7a4_J0_indexOf_7cf53 : GoodIn wsJ0_indexOf_0f7a4 (wsV RJ0 633 RJ0 yJ0_indexOf_7cf53 wsJ0_indexOf_7cf53) := goodIn_app (goodIn_of _ (by decide +kernel)) ggJ0_indexOf_0f7a4_J0_indexOf_7cf53
theorem dJ0_indexOf_0f7a4_0 : decode cJ0_indexOf_0f7a4 0 = .ok (.aload_n 0, 1) := by decide +kernel
theorem dJ0_indexOf_0f7a4_1 : decode cJ0_indexOf_0f7a4 1 = .ok (.iload_n 1, 1) := by decide +kernel
theorem dJ0_indexOf_0f7a4_2 : decode cJ0_indexOf_0f7a4 2 = .ok (.iconst 0, 1) := by decide +kernel
theorem dJ0_indexOf_0f7a4_3 : decode cJ0_indexOf_0f7a4 3 = .ok (.invokevirtual 633, 3) := by decide +kernel
theorem dJ0_indexOf_0f7a4_6 : decode cJ0_indexOf_0f7a4 6 = .ok (.ireturn, 1) := by decide +kernel
set_option maxRecDepth 20000 in
theorem ggJ0_indexOf_7cf53_J0_isLatin1_aae02 : GoodIn wsJ0_indexOf_7cf53 wsJ0_isLatin1_aae02 := goodIn_r _ [6, 7, 8] (by decide +kernel) (by decide +kernel)
set_option maxRecDepth 20000 in
theorem gJ0_indexOf_7cf53_J0_isLatin1_aae02 : GoodIn wsJ0_indexOf_7cf53 (wsV RJ0 492 RJ0 yJ0_isLatin1_aae02 wsJ0_isLatin1_aae02) := goodIn_app (goodIn_of _ (by decide +kernel)) ggJ0_indexOf_7cf53_J0_isLatin1_aae02
set_option maxRecDepth 20000 in
theorem ggJ0_indexOf_7cf53_J0_length_8abf5 : GoodIn wsJ0_indexOf_7cf53 wsJ0_length_8abf5 := goodIn_r _ [12, 1, 13, 14, 15, 5, 16, 7, 8] (by decide +kernel) (by decide +kernel)
set_option maxRecDepth 20000 in
theorem gJ0_indexOf_7cf53_J0_length_8abf5 : GoodIn wsJ0_indexOf_7cf53 (wsV RJ0 505 RJ0 yJ0_length_8abf5 wsJ0_length_8abf5) := goodIn_app (goodIn_of _ (by decide +kernel)) ggJ0_indexOf_7cf53_J0_length_8abf5
set_option maxRecDepth 20000 in
theorem ggJ0_indexOf_7cf53_J1_indexOf_4cfef : GoodIn wsJ0_indexOf_7cf53 wsJ1_indexOf_4cfef := goodIn_r _ [20, 21, 22, 23, 24, 25, 26, 27, 28, 29, 19, 30, 31, 32, 33] (by decide +kernel) (by decide +kernel)
set_option maxRecDepth 20000 in
theorem gJ0_indexOf_7cf53_J1_indexOf_4cfef : GoodIn wsJ0_indexOf_7cf53 (va_wsS RJ0 637 yJ1_indexOf_4cfef wsJ1_indexOf_4cfef) := goodIn_app (goodIn_of _ (by decide +kernel)) ggJ0_indexOf_7cf53_J1_indexOf_4cfef
set_option maxRecDepth 20000 in
theorem ggJ0_indexOf_7cf53_J2_indexOf_4cfef : GoodIn wsJ0_indexOf_7cf53 wsJ2_indexOf_4cfef := goodIn_r _ [37, 38, 22, 23, 24, 39, 26, 27, 40, 41, 42, 36, 43, 44, 45, 46, 47, 48, 49, 50, 51, 5, 52, 53, 54, 55, 56, 57, 58, 59, 60, 61, 62, 63, 64, 65, 66, 67, 68, 69, 70, 71, 72, 73, 74, 75, 76, 77, 78, 79, 80, 81] (by decide +kernel) (by decide +kernel)
set_option maxRecDepth 20000 in
theorem gJ0_indexOf_7cf53_J2_indexOf_4cfef : GoodIn wsJ0_indexOf_7cf53 (va_wsS RJ0 640 yJ2_indexOf_4cfef wsJ2_indexOf_4cfef) := goodIn_app (goodIn_of _ (by decide +kernel)) ggJ0_indexOf_7cf53_J2_indexOf_4cfef
theorem dJ0_indexOf_7cf53_0 : decode cJ0_indexOf_7cf53 0 = .ok (.aload_n 0, 1) := by decide +kernel
theorem dJ0_indexOf_7cf53_1 : decode cJ0_indexOf_7cf53 1 = .ok (.invokevirtual 492, 3) := by decide +kernel
theorem dJ0_indexOf_7cf53_4 : decode cJ0_indexOf_7cf53 4 = .ok (.ifCond .eq 19, 3) := by decide +kernel
theorem dJ0_indexOf_7cf53_7 : decode cJ0_indexOf_7cf53 7 = .ok (.aload_n 0, 1) := by decide +kernel
theorem dJ0_indexOf_7cf53_8 : decode cJ0_indexOf_7cf53 8 = .ok (.getfield 9, 3) := by decide +kernel
theorem dJ0_indexOf_7cf53_11 : decode cJ0_indexOf_7cf53 11 = .ok (.iload_n 1, 1) := by decide +kernel
theorem dJ0_indexOf_7cf53_12 : decode cJ0_indexOf_7cf53 12 = .ok (.iload_n 2, 1) := by decide +kernel
theorem dJ0_indexOf_7cf53_13 : decode cJ0_indexOf_7cf53 13 = .ok (.aload_n 0, 1) := by decide +kernel
theorem dJ0_indexOf_7cf53_14 : decode cJ0_indexOf_7cf53 14 = .ok (.invokevirtual 505, 3) := by decide +kernel
theorem dJ0_indexOf_7cf53_17 : decode cJ0_indexOf_7cf53 17 = .ok (.invokestatic 637, 3) := by decide +kernel
theorem dJ0_indexOf_7cf53_20 : decode cJ0_indexOf_7cf53 20 = .ok (.goto 16, 3) := by decide +kernel
theorem dJ0_indexOf_7cf53_23 : decode cJ0_indexOf_7cf53 23 = .ok (.aload_n 0, 1) := by decide +kernel
theorem dJ0_indexOf_7cf53_24 : decode cJ0_indexOf_7cf53 24 = .ok (.getfield 9, 3) := by decide +kernel
theorem dJ0_indexOf_7cf53_27 : decode cJ0_indexOf_7cf53 27 = .ok (.iload_n 1, 1) := by decide +kernel
theorem dJ0_indexOf_7cf53_28 : decode cJ0_indexOf_7cf53 28 = .ok (.iload_n 2, 1) := by decide +kernel
theorem dJ0_indexOf_7cf53_29 : decode cJ0_indexOf_7cf53 29 = .ok (.aload_n 0, 1) := by decide +kernel
theorem dJ0_indexOf_7cf53_30 : decode cJ0_indexOf_7cf53 30 = .ok (.invokevirtual 505, 3) := by decide +kernel
theorem dJ0_indexOf_7cf53_33 : decode cJ0_indexOf_7cf53 33 = .ok (.invokestatic 640, 3) := by decide +kernel
theorem dJ0_indexOf_7cf53_36 : decode cJ0_indexOf_7cf53 36 = .ok (.ireturn, 1) := by decide +kernel
theorem dJ0_coder_7d493_0 : decode cJ0_coder_7d493 0 = .ok (.getstatic 38, 3) := by decide +kernel
theorem dJ0_coder_7d493_3 : decode cJ0_coder_7d493 3 = .ok (.ifCond .eq 10, 3) := by decide +kernel
theorem dJ0_coder_7d493_6 : decode cJ0_coder_7d493 6 = .ok (.aload_n 0, 1) := by decide +kernel
theorem dJ0_coder_7d493_7 : decode cJ0_coder_7d493 7 = .ok (.getfield 15, 3) := by decide +kernel
theorem dJ0_coder_7d493_10 : decode cJ0_coder_7d493 10 = .ok (.goto 4, 3) := by decide +kernel
theorem dJ0_coder_7d493_13 : decode cJ0_coder_7d493 13 = .ok (.iconst 1, 1) := by decide +kernel
theorem dJ0_coder_7d493_14 : decode cJ0_coder_7d493 14 = .ok (.ireturn, 1) := by decide +kernel
theorem dJ0_isLatin1_aae02_0 : decode cJ0_isLatin1_aae02 0 = .ok (.getstatic 38, 3) := by decide +kernel
theorem dJ0_isLatin1_aae02_3 : decode cJ0_isLatin1_aae02 3 = .ok (.ifCond .eq 14, 3) := by decide +kernel
theorem dJ0_isLatin1_aae02_6 : decode cJ0_isLatin1_aae02 6 = .ok (.aload_n 0, 1) := by decide +kernel
theorem dJ0_isLatin1_aae02_7 : decode cJ0_isLatin1_aae02 7 = .ok (.getfield 15, 3) := by decide +kernel
theorem dJ0_isLatin1_aae02_10 : decode cJ0_isLatin1_aae02 10 = .ok (.ifCond .ne 7, 3) := by decide +kernel
theorem dJ0_isLatin1_aae02_13 : decode cJ0_isLatin1_aae02 13 = .ok (.iconst 1, 1) := by decide +kernel
theorem dJ0_isLatin1_aae02_14 : decode cJ0_isLatin1_aae02 14 = .ok (.goto 4, 3) := by decide +kernel
theorem dJ0_isLatin1_aae02_17 : decode cJ0_isLatin1_aae02 17 = .ok (.iconst 0, 1) := by decide +kernel
theorem dJ0_isLatin1_aae02_18 : decode cJ0_isLatin1_aae02 18 = .ok (.ireturn, 1) := by decide +kernel
set_option maxRecDepth 20000 in
theorem ggJ0_checkIndex_df160_J3_checkIndex_8e157 : GoodIn wsJ0_checkIndex_df160 wsJ3_checkIndex_8e157 := goodIn_r _ [5] (by decide +kernel) (by decide +kernel)
set_option maxRecDepth 20000 in
theorem gJ0_checkIndex_df160_J3_checkIndex_8e157 : GoodIn wsJ0_checkIndex_df160 (va_wsS RJ0 1059 yJ3_checkIndex_8e157 wsJ3_checkIndex_8e157) := goodIn_app (goodIn_of _ (by decide +kernel)) ggJ0_checkIndex_df160_J3_checkIndex_8e157
theorem dJ0_checkIndex_df160_0 : decode cJ0_checkIndex_df160 0 = .ok (.iload_n 0, 1) := by decide +kernel
theorem dJ0_checkIndex_df160_1 : decode cJ0_checkIndex_df160 1 = .ok (.iload_n 1, 1) := by decide +kernel
theorem dJ0_checkIndex_df160_2 : decode cJ0_checkIndex_df160 2 = .ok (.getstatic 1053, 3) := by decide +kernel
theorem dJ0_checkIndex_df160_5 : decode cJ0_checkIndex_df160 5 = .ok (.invokestatic 1059, 3) := by decide +kernel
theorem dJ0_checkIndex_df160_8 : decode cJ0_checkIndex_df160 8 = .ok (.pop, 1) := by decide +kernel
theorem dJ0_checkIndex_df160_9 : decode cJ0_checkIndex_df160 9 = .ok (.return_, 1) := by decide +kernel
set_option maxRecDepth 20000 in
theorem ggJ0_checkBoundsBeginEnd_23922_J3_checkFromToIndex_8c36e : GoodIn wsJ0_checkBoundsBeginEnd_23922 wsJ3_checkFromToIndex_8c36e := goodIn_r _ [5] (by decide +kernel) (by decide +kernel)
set_option maxRecDepth 20000 in
theorem gJ0_checkBoundsBeginEnd_23922_J3_checkFromToIndex_8c36e : GoodIn wsJ0_checkBoundsBeginEnd_23922 (va_wsS RJ0 1062 yJ3_checkFromToIndex_8c36e wsJ3_checkFromToIndex_8c36e) := goodIn_app (goodIn_of _ (by decide +kernel)) ggJ0_checkBoundsBeginEnd_23922_J3_checkFromToIndex_8c36e
theorem dJ0_checkBoundsBeginEnd_23922_0 : decode cJ0_checkBoundsBeginEnd_23922 0 = .ok (.iload_n 0, 1) := by decide +kernel
theorem dJ0_checkBoundsBeginEnd_23922_1 : decode cJ0_checkBoundsBeginEnd_23922 1 = .ok (.iload_n 1, 1) := by decide +kernel
theorem dJ0_checkBoundsBeginEnd_23922_2 : decode cJ0_checkBoundsBeginEnd_23922 2 = .ok (.iload_n 2, 1) := by decide +kernel
theorem dJ0_checkBoundsBeginEnd_23922_3 : decode cJ0_checkBoundsBeginEnd_23922 3 = .ok (.getstatic 1053, 3) := by decide +kernel
theorem dJ0_checkBoundsBeginEnd_23922_6 : decode cJ0_checkBoundsBeginEnd_23922 6 = .ok (.invokestatic 1062, 3) := by decide +kernel
theorem dJ0_checkBoundsBeginEnd_23922_9 : decode cJ0_checkBoundsBeginEnd_23922 9 = .ok (.pop, 1) := by decide +kernel
theorem dJ0_checkBoundsBeginEnd_23922_10 : decode cJ0_checkBoundsBeginEnd_23922 10 = .ok (.return_, 1) := by decide +kernel
set_option maxRecDepth 20000 in
theorem ggJ1_charAt_3b067_J0_checkIndex_df160 : GoodIn wsJ1_charAt_3b067 wsJ0_checkIndex_df160 := goodIn_r _ [4, 5, 6, 7, 8, 9] (by decide +kernel) (by decide +kernel)
set_option maxRecDepth 20000 in
theorem gJ1_charAt_3b067_J0_checkIndex_df160 : GoodIn wsJ1_charAt_3b067 (va_wsS RJ1 9 yJ0_checkIndex_df160 wsJ0_checkIndex_df160) := goodIn_app (goodIn_of _ (by decide +kernel)) ggJ1_charAt_3b067_J0_checkIndex_df160
theorem dJ1_charAt_3b067_0 : decode cJ1_charAt_3b067 0 = .ok (.iload_n 1, 1) := by decide +kernel
theorem dJ1_charAt_3b067_1 : decode cJ1_charAt_3b067 1 = .ok (.aload_n 0, 1) := by decide +kernel
theorem dJ1_charAt_3b067_2 : decode cJ1_charAt_3b067 2 = .ok (.arraylength, 1) := by decide +kernel
theorem dJ1_charAt_3b067_3 : decode cJ1_charAt_3b067 3 = .ok (.invokestatic 9, 3) := by decide +kernel
theorem dJ1_charAt_3b067_6 : decode cJ1_charAt_3b067 6 = .ok (.aload_n 0, 1) := by decide +kernel
theorem dJ1_charAt_3b067_7 : decode cJ1_charAt_3b067 7 = .ok (.iload_n 1, 1) := by decide +kernel
theorem dJ1_charAt_3b067_8 : decode cJ1_charAt_3b067 8 = .ok (.baload, 1) := by decide +kernel
theorem dJ1_charAt_3b067_9 : decode cJ1_charAt_3b067 9 = .ok (.sipush 255, 3) := by decide +kernel
theorem dJ1_charAt_3b067_12 : decode cJ1_charAt_3b067 12 = .ok (.iand, 1) := by decide +kernel
theorem dJ1_charAt_3b067_13 : decode cJ1_charAt_3b067 13 = .ok (.i2c, 1) := by decide +kernel
theorem dJ1_charAt_3b067_14 : decode cJ1_charAt_3b067 14 = .ok (.ireturn, 1) := by decide +kernel
theorem dJ1_canEncode_9a6ad_0 : decode cJ1_canEncode_9a6ad 0 = .ok (.iload_n 0, 1) := by decide +kernel
theorem dJ1_canEncode_9a6ad_1 : decode cJ1_canEncode_9a6ad 1 = .ok (.ifCond .lt 14, 3) := by decide +kernel
theorem dJ1_canEncode_9a6ad_4 : decode cJ1_canEncode_9a6ad 4 = .ok (.iload_n 0, 1) := by decide +kernel
theorem dJ1_canEncode_9a6ad_5 : decode cJ1_canEncode_9a6ad 5 = .ok (.sipush 255, 3) := by decide +kernel
theorem dJ1_canEncode_9a6ad_8 : decode cJ1_canEncode_9a6ad 8 = .ok (.if_icmp .gt 7, 3) := by decide +kernel
theorem dJ1_canEncode_9a6ad_11 : decode cJ1_canEncode_9a6ad 11 = .ok (.iconst 1, 1) := by decide +kernel
theorem dJ1_canEncode_9a6ad_12 : decode cJ1_canEncode_9a6ad 12 = .ok (.goto 4, 3) := by decide +kernel
theorem dJ1_canEncode_9a6ad_15 : decode cJ1_canEncode_9a6ad 15 = .ok (.iconst 0, 1) := by decide +kernel
theorem dJ1_canEncode_9a6ad_16 : decode cJ1_canEncode_9a6ad 16 = .ok (.ireturn, 1) := by decide +kernel
set_option maxRecDepth 20000 in
theorem ggJ1_indexOf_4cfef_J1_canEncode_9a6ad : GoodIn wsJ1_indexOf_4cfef wsJ1_canEncode_9a6ad := goodIn_r _ [11] (by decide +kernel) (by decide +kernel)
set_option maxRecDepth 20000 in
theorem gJ1_indexOf_4cfef_J1_canEncode_9a6ad : GoodIn wsJ1_indexOf_4cfef (va_wsS RJ1 88 yJ1_canEncode_9a6ad wsJ1_canEncode_9a6ad) := goodIn_app (goodIn_of _ (by decide +kernel)) ggJ1_indexOf_4cfef_J1_canEncode_9a6ad
set_option maxRecDepth 20000 in
theorem ggJ1_indexOf_4cfef_J1_indexOfChar_4cfef : GoodIn wsJ1_indexOf_4cfef wsJ1_indexOfChar_4cfef := goodIn_r _ [14] (by decide +kernel) (by decide +kernel)
set_option maxRecDepth 20000 in
theorem gJ1_indexOf_4cfef_J1_indexOfChar_4cfef : GoodIn wsJ1_indexOf_4cfef (va_wsS RJ1 95 yJ1_indexOfChar_4cfef wsJ1_indexOfChar_4cfef) := goodIn_app (goodIn_of _ (by decide +kernel)) ggJ1_indexOf_4cfef_J1_indexOfChar_4cfef
theorem dJ1_indexOf_4cfef_0 : decode cJ1_indexOf_4cfef 0 = .ok (.iload_n 1, 1) := by decide +kernel
theorem dJ1_indexOf_4cfef_1 : decode cJ1_indexOf_4cfef 1 = .ok (.invokestatic 88, 3) := by decide +kernel
theorem dJ1_indexOf_4cfef_4 : decode cJ1_indexOf_4cfef 4 = .ok (.ifCond .ne 5, 3) := by decide +kernel
theorem dJ1_indexOf_4cfef_7 : decode cJ1_indexOf_4cfef 7 = .ok (.iconst (-1), 1) := by decide +kernel
theorem dJ1_indexOf_4cfef_8 : decode cJ1_indexOf_4cfef 8 = .ok (.ireturn, 1) := by decide +kernel
theorem dJ1_indexOf_4cfef_9 : decode cJ1_indexOf_4cfef 9 = .ok (.iload_n 2, 1) := by decide +kernel
theorem dJ1_indexOf_4cfef_10 : decode cJ1_indexOf_4cfef 10 = .ok (.iconst 0, 1) := by decide +kernel
theorem dJ1_indexOf_4cfef_11 : decode cJ1_indexOf_4cfef 11 = .ok (.invokestatic 92, 3) := by decide +kernel
theorem dJ1_indexOf_4cfef_14 : decode cJ1_indexOf_4cfef 14 = .ok (.istore_n 2, 1) := by decide +kernel
theorem dJ1_indexOf_4cfef_15 : decode cJ1_indexOf_4cfef 15 = .ok (.iload_n 3, 1) := by decide +kernel
theorem dJ1_indexOf_4cfef_16 : decode cJ1_indexOf_4cfef 16 = .ok (.aload_n 0, 1) := by decide +kernel
theorem dJ1_indexOf_4cfef_17 : decode cJ1_indexOf_4cfef 17 = .ok (.arraylength, 1) := by decide +kernel
theorem dJ1_indexOf_4cfef_18 : decode cJ1_indexOf_4cfef 18 = .ok (.invokestatic 38, 3) := by decide +kernel
theorem dJ1_indexOf_4cfef_21 : decode cJ1_indexOf_4cfef 21 = .ok (.istore_n 3, 1) := by decide +kernel
theorem dJ1_indexOf_4cfef_22 : decode cJ1_indexOf_4cfef 22 = .ok (.iload_n 2, 1) := by decide +kernel
theorem dJ1_indexOf_4cfef_23 : decode cJ1_indexOf_4cfef 23 = .ok (.iload_n 3, 1) := by decide +kernel
theorem dJ1_indexOf_4cfef_24 : decode cJ1_indexOf_4cfef 24 = .ok (.if_icmp .lt 5, 3) := by decide +kernel
theorem dJ1_indexOf_4cfef_27 : decode cJ1_indexOf_4cfef 27 = .ok (.iconst (-1), 1) := by decide +kernel
theorem dJ1_indexOf_4cfef_28 : decode cJ1_indexOf_4cfef 28 = .ok (.ireturn, 1) := by decide +kernel
theorem dJ1_indexOf_4cfef_29 : decode cJ1_indexOf_4cfef 29 = .ok (.aload_n 0, 1) := by decide +kernel
theorem dJ1_indexOf_4cfef_30 : decode cJ1_indexOf_4cfef 30 = .ok (.iload_n 1, 1) := by decide +kernel
theorem dJ1_indexOf_4cfef_31 : decode cJ1_indexOf_4cfef 31 = .ok (.iload_n 2, 1) := by decide +kernel
theorem dJ1_indexOf_4cfef_32 : decode cJ1_indexOf_4cfef 32 = .ok (.iload_n 3, 1) := by decide +kernel
theorem dJ1_indexOf_4cfef_33 : decode cJ1_indexOf_4cfef 33 = .ok (.invokestatic 95, 3) := by decide +kernel
theorem dJ1_indexOf_4cfef_36 : decode cJ1_indexOf_4cfef 36 = .ok (.ireturn, 1) := by decide +kernel
theorem dJ1_indexOfChar_4cfef_0 : decode cJ1_indexOfChar_4cfef 0 = .ok (.iload_n 1, 1) := by decide +kernel
theorem dJ1_indexOfChar_4cfef_1 : decode cJ1_indexOfChar_4cfef 1 = .ok (.i2b, 1) := by decide +kernel
theorem dJ1_indexOfChar_4cfef_2 : decode cJ1_indexOfChar_4cfef 2 = .ok (.istore 4, 2) := by decide +kernel
theorem dJ1_indexOfChar_4cfef_4 : decode cJ1_indexOfChar_4cfef 4 = .ok (.iload_n 2, 1) := by decide +kernel
theorem dJ1_indexOfChar_4cfef_5 : decode cJ1_indexOfChar_4cfef 5 = .ok (.istore 5, 2) := by decide +kernel
theorem dJ1_indexOfChar_4cfef_7 : decode cJ1_indexOfChar_4cfef 7 = .ok (.iload 5, 2) := by decide +kernel
theorem dJ1_indexOfChar_4cfef_9 : decode cJ1_indexOfChar_4cfef 9 = .ok (.iload_n 3, 1) := by decide +kernel
theorem dJ1_indexOfChar_4cfef_10 : decode cJ1_indexOfChar_4cfef 10 = .ok (.if_icmp .ge 21, 3) := by decide +kernel
theorem dJ1_indexOfChar_4cfef_13 : decode cJ1_indexOfChar_4cfef 13 = .ok (.aload_n 0, 1) := by decide +kernel
theorem dJ1_indexOfChar_4cfef_14 : decode cJ1_indexOfChar_4cfef 14 = .ok (.iload 5, 2) := by decide +kernel
theorem dJ1_indexOfChar_4cfef_16 : decode cJ1_indexOfChar_4cfef 16 = .ok (.baload, 1) := by decide +kernel
theorem dJ1_indexOfChar_4cfef_17 : decode cJ1_indexOfChar_4cfef 17 = .ok (.iload 4, 2) := by decide +kernel
theorem dJ1_indexOfChar_4cfef_19 : decode cJ1_indexOfChar_4cfef 19 = .ok (.if_icmp .ne 6, 3) := by decide +kernel
theorem dJ1_indexOfChar_4cfef_22 : decode cJ1_indexOfChar_4cfef 22 = .ok (.iload 5, 2) := by decide +kernel
theorem dJ1_indexOfChar_4cfef_24 : decode cJ1_indexOfChar_4cfef 24 = .ok (.ireturn, 1) := by decide +kernel
theorem dJ1_indexOfChar_4cfef_25 : decode cJ1_indexOfChar_4cfef 25 = .ok (.iinc 5 1, 3) := by decide +kernel
theorem dJ1_indexOfChar_4cfef_28 : decode cJ1_indexOfChar_4cfef 28 = .ok (.goto (-21), 3) := by decide +kernel
theorem dJ1_indexOfChar_4cfef_31 : decode cJ1_indexOfChar_4cfef 31 = .ok (.iconst (-1), 1) := by decide +kernel
theorem dJ1_indexOfChar_4cfef_32 : decode cJ1_indexOfChar_4cfef 32 = .ok (.ireturn, 1) := by decide +kernel
set_option maxRecDepth 20000 in
theorem ggJ2_getChar_3b067_J2_length_9d52b : GoodIn wsJ2_getChar_3b067 wsJ2_length_9d52b := goodIn_r _ [7] (by decide +kernel) (by decide +kernel)
set_option maxRecDepth 20000 in
theorem gJ2_getChar_3b067_J2_length_9d52b : GoodIn wsJ2_getChar_3b067 (va_wsS RJ2 48 yJ2_length_9d52b wsJ2_length_9d52b) := goodIn_app (goodIn_of _ (by decide +kernel)) ggJ2_getChar_3b067_J2_length_9d52b
theorem dJ2_getChar_3b067_0 : decode cJ2_getChar_3b067 0 = .ok (.getstatic 44, 3) := by decide +kernel
theorem dJ2_getChar_3b067_3 : decode cJ2_getChar_3b067 3 = .ok (.ifCond .ne 25, 3) := by decide +kernel
theorem dJ2_getChar_3b067_6 : decode cJ2_getChar_3b067 6 = .ok (.iload_n 1, 1) := by decide +kernel
theorem dJ2_getChar_3b067_7 : decode cJ2_getChar_3b067 7 = .ok (.ifCond .lt 11, 3) := by decide +kernel
theorem dJ2_getChar_3b067_10 : decode cJ2_getChar_3b067 10 = .ok (.iload_n 1, 1) := by decide +kernel
theorem dJ2_getChar_3b067_11 : decode cJ2_getChar_3b067 11 = .ok (.aload_n 0, 1) := by decide +kernel
theorem dJ2_getChar_3b067_12 : decode cJ2_getChar_3b067 12 = .ok (.invokestatic 48, 3) := by decide +kernel
theorem dJ2_getChar_3b067_15 : decode cJ2_getChar_3b067 15 = .ok (.if_icmp .lt 13, 3) := by decide +kernel
theorem dJ2_getChar_3b067_18 : decode cJ2_getChar_3b067 18 = .ok (.new 52, 3) := by decide +kernel
theorem dJ2_getChar_3b067_21 : decode cJ2_getChar_3b067 21 = .ok (.dup, 1) := by decide +kernel
theorem dJ2_getChar_3b067_22 : decode cJ2_getChar_3b067 22 = .ok (.ldc 54, 2) := by decide +kernel
theorem dJ2_getChar_3b067_24 : decode cJ2_getChar_3b067 24 = .ok (.invokespecial 56, 3) := by decide +kernel
theorem dJ2_getChar_3b067_27 : decode cJ2_getChar_3b067 27 = .ok (.athrow, 1) := by decide +kernel
theorem dJ2_getChar_3b067_28 : decode cJ2_getChar_3b067 28 = .ok (.iload_n 1, 1) := by decide +kernel
theorem dJ2_getChar_3b067_29 : decode cJ2_getChar_3b067 29 = .ok (.iconst 1, 1) := by decide +kernel
theorem dJ2_getChar_3b067_30 : decode cJ2_getChar_3b067 30 = .ok (.ishl, 1) := by decide +kernel
theorem dJ2_getChar_3b067_31 : decode cJ2_getChar_3b067 31 = .ok (.istore_n 1, 1) := by decide +kernel
theorem dJ2_getChar_3b067_32 : decode cJ2_getChar_3b067 32 = .ok (.aload_n 0, 1) := by decide +kernel
theorem dJ2_getChar_3b067_33 : decode cJ2_getChar_3b067 33 = .ok (.iload_n 1, 1) := by decide +kernel
theorem dJ2_getChar_3b067_34 : decode cJ2_getChar_3b067 34 = .ok (.iinc 1 1, 3) := by decide +kernel
theorem dJ2_getChar_3b067_37 : decode cJ2_getChar_3b067 37 = .ok (.baload, 1) := by decide +kernel
theorem dJ2_getChar_3b067_38 : decode cJ2_getChar_3b067 38 = .ok (.sipush 255, 3) := by decide +kernel
theorem dJ2_getChar_3b067_41 : decode cJ2_getChar_3b067 41 = .ok (.iand, 1) := by decide +kernel
theorem dJ2_getChar_3b067_42 : decode cJ2_getChar_3b067 42 = .ok (.getstatic 59, 3) := by decide +kernel
theorem dJ2_getChar_3b067_45 : decode cJ2_getChar_3b067 45 = .ok (.ishl, 1) := by decide +kernel
theorem dJ2_getChar_3b067_46 : decode cJ2_getChar_3b067 46 = .ok (.aload_n 0, 1) := by decide +kernel
theorem dJ2_getChar_3b067_47 : decode cJ2_getChar_3b067 47 = .ok (.iload_n 1, 1) := by decide +kernel
theorem dJ2_getChar_3b067_48 : decode cJ2_getChar_3b067 48 = .ok (.baload, 1) := by decide +kernel
theorem dJ2_getChar_3b067_49 : decode cJ2_getChar_3b067 49 = .ok (.sipush 255, 3) := by decide +kernel
theorem dJ2_getChar_3b067_52 : decode cJ2_getChar_3b067 52 = .ok (.iand, 1) := by decide +kernel
theorem dJ2_getChar_3b067_53 : decode cJ2_getChar_3b067 53 = .ok (.getstatic 63, 3) := by decide +kernel
theorem dJ2_getChar_3b067_56 : decode cJ2_getChar_3b067 56 = .ok (.ishl, 1) := by decide +kernel
theorem dJ2_getChar_3b067_57 : decode cJ2_getChar_3b067 57 = .ok (.ior, 1) := by decide +kernel
theorem dJ2_getChar_3b067_58 : decode cJ2_getChar_3b067 58 = .ok (.i2c, 1) := by decide +kernel
theorem dJ2_getChar_3b067_59 : decode cJ2_getChar_3b067 59 = .ok (.ireturn, 1) := by decide +kernel
theorem dJ2_length_9d52b_0 : decode cJ2_length_9d52b 0 = .ok (.aload_n 0, 1) := by decide +kernel
theorem dJ2_length_9d52b_1 : decode cJ2_length_9d52b 1 = .ok (.arraylength, 1) := by decide +kernel
theorem dJ2_length_9d52b_2 : decode cJ2_length_9d52b 2 = .ok (.iconst 1, 1) := by decide +kernel
theorem dJ2_length_9d52b_3 : decode cJ2_length_9d52b 3 = .ok (.ishr, 1) := by decide +kernel
theorem dJ2_length_9d52b_4 : decode cJ2_length_9d52b 4 = .ok (.ireturn, 1) := by decide +kernel
set_option maxRecDepth 20000 in
theorem ggJ2_indexOf_4cfef_J2_indexOfChar_4cfef : GoodIn wsJ2_indexOf_4cfef wsJ2_indexOfChar_4cfef := goodIn_r _ [12, 13, 14, 11, 15, 16, 17, 18, 19, 20, 21, 22, 23, 24, 25, 26, 27, 28, 29, 30, 31, 32, 33, 34, 35, 36] (by decide +kernel) (by decide +kernel)
set_option maxRecDepth 20000 in
theorem gJ2_indexOf_4cfef_J2_indexOfChar_4cfef : GoodIn wsJ2_indexOf_4cfef (va_wsS RJ2 228 yJ2_indexOfChar_4cfef wsJ2_indexOfChar_4cfef) := goodIn_app (goodIn_of _ (by decide +kernel)) ggJ2_indexOf_4cfef_J2_indexOfChar_4cfef
set_option maxRecDepth 20000 in
theorem ggJ2_indexOf_4cfef_J2_indexOfSupplementary_4cfef : GoodIn wsJ2_indexOf_4cfef wsJ2_indexOfSupplementary_4cfef := goodIn_r _ [39, 40, 41, 42, 43, 44, 45, 46, 47, 48, 49, 50, 51, 13, 14, 11, 15, 16, 17, 18, 19, 20, 21, 22, 23, 24, 25, 26, 27, 31, 32, 33, 34, 35, 36] (by decide +kernel) (by decide +kernel)
set_option maxRecDepth 20000 in
theorem gJ2_indexOf_4cfef_J2_indexOfSupplementary_4cfef : GoodIn wsJ2_indexOf_4cfef (va_wsS RJ2 232 yJ2_indexOfSupplementary_4cfef wsJ2_indexOfSupplementary_4cfef) := goodIn_app (goodIn_of _ (by decide +kernel)) ggJ2_indexOf_4cfef_J2_indexOfSupplementary_4cfef
theorem dJ2_indexOf_4cfef_0 : decode cJ2_indexOf_4cfef 0 = .ok (.iload_n 2, 1) := by decide +kernel
theorem dJ2_indexOf_4cfef_1 : decode cJ2_indexOf_4cfef 1 = .ok (.iconst 0, 1) := by decide +kernel
theorem dJ2_indexOf_4cfef_2 : decode cJ2_indexOf_4cfef 2 = .ok (.invokestatic 224, 3) := by decide +kernel
theorem dJ2_indexOf_4cfef_5 : decode cJ2_indexOf_4cfef 5 = .ok (.istore_n 2, 1) := by decide +kernel
theorem dJ2_indexOf_4cfef_6 : decode cJ2_indexOf_4cfef 6 = .ok (.iload_n 3, 1) := by decide +kernel
theorem dJ2_indexOf_4cfef_7 : decode cJ2_indexOf_4cfef 7 = .ok (.aload_n 0, 1) := by decide +kernel
theorem dJ2_indexOf_4cfef_8 : decode cJ2_indexOf_4cfef 8 = .ok (.arraylength, 1) := by decide +kernel
theorem dJ2_indexOf_4cfef_9 : decode cJ2_indexOf_4cfef 9 = .ok (.iconst 1, 1) := by decide +kernel
theorem dJ2_indexOf_4cfef_10 : decode cJ2_indexOf_4cfef 10 = .ok (.ishr, 1) := by decide +kernel
theorem dJ2_indexOf_4cfef_11 : decode cJ2_indexOf_4cfef 11 = .ok (.invokestatic 183, 3) := by decide +kernel
theorem dJ2_indexOf_4cfef_14 : decode cJ2_indexOf_4cfef 14 = .ok (.istore_n 3, 1) := by decide +kernel
theorem dJ2_indexOf_4cfef_15 : decode cJ2_indexOf_4cfef 15 = .ok (.iload_n 2, 1) := by decide +kernel
theorem dJ2_indexOf_4cfef_16 : decode cJ2_indexOf_4cfef 16 = .ok (.iload_n 3, 1) := by decide +kernel
theorem dJ2_indexOf_4cfef_17 : decode cJ2_indexOf_4cfef 17 = .ok (.if_icmp .lt 5, 3) := by decide +kernel
theorem dJ2_indexOf_4cfef_20 : decode cJ2_indexOf_4cfef 20 = .ok (.iconst (-1), 1) := by decide +kernel
theorem dJ2_indexOf_4cfef_21 : decode cJ2_indexOf_4cfef 21 = .ok (.ireturn, 1) := by decide +kernel
theorem dJ2_indexOf_4cfef_22 : decode cJ2_indexOf_4cfef 22 = .ok (.iload_n 1, 1) := by decide +kernel
theorem dJ2_indexOf_4cfef_23 : decode cJ2_indexOf_4cfef 23 = .ok (.ldc 227, 2) := by decide +kernel
theorem dJ2_indexOf_4cfef_25 : decode cJ2_indexOf_4cfef 25 = .ok (.if_icmp .ge 11, 3) := by decide +kernel
theorem dJ2_indexOf_4cfef_28 : decode cJ2_indexOf_4cfef 28 = .ok (.aload_n 0, 1) := by decide +kernel
theorem dJ2_indexOf_4cfef_29 : decode cJ2_indexOf_4cfef 29 = .ok (.iload_n 1, 1) := by decide +kernel
theorem dJ2_indexOf_4cfef_30 : decode cJ2_indexOf_4cfef 30 = .ok (.iload_n 2, 1) := by decide +kernel
theorem dJ2_indexOf_4cfef_31 : decode cJ2_indexOf_4cfef 31 = .ok (.iload_n 3, 1) := by decide +kernel
theorem dJ2_indexOf_4cfef_32 : decode cJ2_indexOf_4cfef 32 = .ok (.invokestatic 228, 3) := by decide +kernel
theorem dJ2_indexOf_4cfef_35 : decode cJ2_indexOf_4cfef 35 = .ok (.ireturn, 1) := by decide +kernel
theorem dJ2_indexOf_4cfef_36 : decode cJ2_indexOf_4cfef 36 = .ok (.aload_n 0, 1) := by decide +kernel
theorem dJ2_indexOf_4cfef_37 : decode cJ2_indexOf_4cfef 37 = .ok (.iload_n 1, 1) := by decide +kernel
theorem dJ2_indexOf_4cfef_38 : decode cJ2_indexOf_4cfef 38 = .ok (.iload_n 2, 1) := by decide +kernel
theorem dJ2_indexOf_4cfef_39 : decode cJ2_indexOf_4cfef 39 = .ok (.iload_n 3, 1) := by decide +kernel
theorem dJ2_indexOf_4cfef_40 : decode cJ2_indexOf_4cfef 40 = .ok (.invokestatic 232, 3) := by decide +kernel
theorem dJ2_indexOf_4cfef_43 : decode cJ2_indexOf_4cfef 43 = .ok (.ireturn, 1) := by decide +kernel
set_option maxRecDepth 20000 in
theorem ggJ2_indexOfChar_4cfef_J2_checkBoundsBeginEnd_d044e : GoodIn wsJ2_indexOfChar_4cfef wsJ2_checkBoundsBeginEnd_d044e := goodIn_r _ [4, 5, 6, 3, 7, 8, 9, 10, 11, 12, 13, 14, 15, 16] (by decide +kernel) (by decide +kernel)
set_option maxRecDepth 20000 in
theorem gJ2_indexOfChar_4cfef_J2_checkBoundsBeginEnd_d044e : GoodIn wsJ2_indexOfChar_4cfef (va_wsS RJ2 96 yJ2_checkBoundsBeginEnd_d044e wsJ2_checkBoundsBeginEnd_d044e) := goodIn_app (goodIn_of _ (by decide +kernel)) ggJ2_indexOfChar_4cfef_J2_checkBoundsBeginEnd_d044e
set_option maxRecDepth 20000 in
theorem ggJ2_indexOfChar_4cfef_J2_indexOfCharUnsafe_4cfef : GoodIn wsJ2_indexOfChar_4cfef wsJ2_indexOfCharUnsafe_4cfef := goodIn_r _ [19, 20, 21, 3, 22, 23, 24, 25, 5, 6, 7] (by decide +kernel) (by decide +kernel)
set_option maxRecDepth 20000 in
theorem gJ2_indexOfChar_4cfef_J2_indexOfCharUnsafe_4cfef : GoodIn wsJ2_indexOfChar_4cfef (va_wsS RJ2 244 yJ2_indexOfCharUnsafe_4cfef wsJ2_indexOfCharUnsafe_4cfef) := goodIn_app (goodIn_of _ (by decide +kernel)) ggJ2_indexOfChar_4cfef_J2_indexOfCharUnsafe_4cfef
theorem dJ2_indexOfChar_4cfef_0 : decode cJ2_indexOfChar_4cfef 0 = .ok (.iload_n 2, 1) := by decide +kernel
theorem dJ2_indexOfChar_4cfef_1 : decode cJ2_indexOfChar_4cfef 1 = .ok (.iload_n 3, 1) := by decide +kernel
theorem dJ2_indexOfChar_4cfef_2 : decode cJ2_indexOfChar_4cfef 2 = .ok (.aload_n 0, 1) := by decide +kernel
theorem dJ2_indexOfChar_4cfef_3 : decode cJ2_indexOfChar_4cfef 3 = .ok (.invokestatic 96, 3) := by decide +kernel
theorem dJ2_indexOfChar_4cfef_6 : decode cJ2_indexOfChar_4cfef 6 = .ok (.aload_n 0, 1) := by decide +kernel
theorem dJ2_indexOfChar_4cfef_7 : decode cJ2_indexOfChar_4cfef 7 = .ok (.iload_n 1, 1) := by decide +kernel
theorem dJ2_indexOfChar_4cfef_8 : decode cJ2_indexOfChar_4cfef 8 = .ok (.iload_n 2, 1) := by decide +kernel
theorem dJ2_indexOfChar_4cfef_9 : decode cJ2_indexOfChar_4cfef 9 = .ok (.iload_n 3, 1) := by decide +kernel
theorem dJ2_indexOfChar_4cfef_10 : decode cJ2_indexOfChar_4cfef 10 = .ok (.invokestatic 244, 3) := by decide +kernel
theorem dJ2_indexOfChar_4cfef_13 : decode cJ2_indexOfChar_4cfef 13 = .ok (.ireturn, 1) := by decide +kernel
set_option maxRecDepth 20000 in
theorem ggJ2_indexOfCharUnsafe_4cfef_J2_getChar_3b067 : GoodIn wsJ2_indexOfCharUnsafe_4cfef wsJ2_getChar_3b067 := goodIn_r _ [4, 5, 6, 7, 8, 9, 3, 10] (by decide +kernel) (by decide +kernel)
set_option maxRecDepth 20000 in
theorem gJ2_indexOfCharUnsafe_4cfef_J2_getChar_3b067 : GoodIn wsJ2_indexOfCharUnsafe_4cfef (va_wsS RJ2 71 yJ2_getChar_3b067 wsJ2_getChar_3b067) := goodIn_app (goodIn_of _ (by decide +kernel)) ggJ2_indexOfCharUnsafe_4cfef_J2_getChar_3b067
theorem dJ2_indexOfCharUnsafe_4cfef_0 : decode cJ2_indexOfCharUnsafe_4cfef 0 = .ok (.iload_n 2, 1) := by decide +kernel
theorem dJ2_indexOfCharUnsafe_4cfef_1 : decode cJ2_indexOfCharUnsafe_4cfef 1 = .ok (.istore 4, 2) := by decide +kernel
theorem dJ2_indexOfCharUnsafe_4cfef_3 : decode cJ2_indexOfCharUnsafe_4cfef 3 = .ok (.iload 4, 2) := by decide +kernel
theorem dJ2_indexOfCharUnsafe_4cfef_5 : decode cJ2_indexOfCharUnsafe_4cfef 5 = .ok (.iload_n 3, 1) := by decide +kernel
theorem dJ2_indexOfCharUnsafe_4cfef_6 : decode cJ2_indexOfCharUnsafe_4cfef 6 = .ok (.if_icmp .ge 22, 3) := by decide +kernel
theorem dJ2_indexOfCharUnsafe_4cfef_9 : decode cJ2_indexOfCharUnsafe_4cfef 9 = .ok (.aload_n 0, 1) := by decide +kernel
theorem dJ2_indexOfCharUnsafe_4cfef_10 : decode cJ2_indexOfCharUnsafe_4cfef 10 = .ok (.iload 4, 2) := by decide +kernel
theorem dJ2_indexOfCharUnsafe_4cfef_12 : decode cJ2_indexOfCharUnsafe_4cfef 12 = .ok (.invokestatic 71, 3) := by decide +kernel
theorem dJ2_indexOfCharUnsafe_4cfef_15 : decode cJ2_indexOfCharUnsafe_4cfef 15 = .ok (.iload_n 1, 1) := by decide +kernel
theorem dJ2_indexOfCharUnsafe_4cfef_16 : decode cJ2_indexOfCharUnsafe_4cfef 16 = .ok (.if_icmp .ne 6, 3) := by decide +kernel
theorem dJ2_indexOfCharUnsafe_4cfef_19 : decode cJ2_indexOfCharUnsafe_4cfef 19 = .ok (.iload 4, 2) := by decide +kernel
theorem dJ2_indexOfCharUnsafe_4cfef_21 : decode cJ2_indexOfCharUnsafe_4cfef 21 = .ok (.ireturn, 1) := by decide +kernel
theorem dJ2_indexOfCharUnsafe_4cfef_22 : decode cJ2_indexOfCharUnsafe_4cfef 22 = .ok (.iinc 4 1, 3) := by decide +kernel
theorem dJ2_indexOfCharUnsafe_4cfef_25 : decode cJ2_indexOfCharUnsafe_4cfef 25 = .ok (.goto (-22), 3) := by decide +kernel
theorem dJ2_indexOfCharUnsafe_4cfef_28 : decode cJ2_indexOfCharUnsafe_4cfef 28 = .ok (.iconst (-1), 1) := by decide +kernel
theorem dJ2_indexOfCharUnsafe_4cfef_29 : decode cJ2_indexOfCharUnsafe_4cfef 29 = .ok (.ireturn, 1) := by decide +kernel
set_option maxRecDepth 20000 in
theorem ggJ2_indexOfSupplementary_4cfef_J11_isValidCodePoint_9a6ad : GoodIn wsJ2_indexOfSupplementary_4cfef wsJ11_isValidCodePoint_9a6ad := goodIn_r _ [4] (by decide +kernel) (by decide +kernel)
set_option maxRecDepth 20000 in
theorem gJ2_indexOfSupplementary_4cfef_J11_isValidCodePoint_9a6ad : GoodIn wsJ2_indexOfSupplementary_4cfef (va_wsS RJ2 164 yJ11_isValidCodePoint_9a6ad wsJ11_isValidCodePoint_9a6ad) := goodIn_app (goodIn_of _ (by decide +kernel)) ggJ2_indexOfSupplementary_4cfef_J11_isValidCodePoint_9a6ad
set_option maxRecDepth 20000 in
theorem ggJ2_indexOfSupplementary_4cfef_J11_highSurrogate_5068e : GoodIn wsJ2_indexOfSupplementary_4cfef wsJ11_highSurrogate_5068e := goodIn_r _ [7, 8] (by decide +kernel) (by decide +kernel)
set_option maxRecDepth 20000 in
theorem gJ2_indexOfSupplementary_4cfef_J11_highSurrogate_5068e : GoodIn wsJ2_indexOfSupplementary_4cfef (va_wsS RJ2 157 yJ11_highSurrogate_5068e wsJ11_highSurrogate_5068e) := goodIn_app (goodIn_of _ (by decide +kernel)) ggJ2_indexOfSupplementary_4cfef_J11_highSurrogate_5068e
set_option maxRecDepth 20000 in
theorem ggJ2_indexOfSupplementary_4cfef_J11_lowSurrogate_5068e : GoodIn wsJ2_indexOfSupplementary_4cfef wsJ11_lowSurrogate_5068e := goodIn_r _ [11, 12] (by decide +kernel) (by decide +kernel)
set_option maxRecDepth 20000 in
theorem gJ2_indexOfSupplementary_4cfef_J11_lowSurrogate_5068e : GoodIn wsJ2_indexOfSupplementary_4cfef (va_wsS RJ2 161 yJ11_lowSurrogate_5068e wsJ11_lowSurrogate_5068e) := goodIn_app (goodIn_of _ (by decide +kernel)) ggJ2_indexOfSupplementary_4cfef_J11_lowSurrogate_5068e
set_option maxRecDepth 20000 in
theorem ggJ2_indexOfSupplementary_4cfef_J2_checkBoundsBeginEnd_d044e : GoodIn wsJ2_indexOfSupplementary_4cfef wsJ2_checkBoundsBeginEnd_d044e := goodIn_r _ [16, 17, 18, 15, 19, 20, 21, 22, 23, 24, 25, 26, 27, 28] (by decide +kernel) (by decide +kernel)
set_option maxRecDepth 20000 in
theorem gJ2_indexOfSupplementary_4cfef_J2_checkBoundsBeginEnd_d044e : GoodIn wsJ2_indexOfSupplementary_4cfef (va_wsS RJ2 96 yJ2_checkBoundsBeginEnd_d044e wsJ2_checkBoundsBeginEnd_d044e) := goodIn_app (goodIn_of _ (by decide +kernel)) ggJ2_indexOfSupplementary_4cfef_J2_checkBoundsBeginEnd_d044e
set_option maxRecDepth 20000 in
theorem ggJ2_indexOfSupplementary_4cfef_J2_getChar_3b067 : GoodIn wsJ2_indexOfSupplementary_4cfef wsJ2_getChar_3b067 := goodIn_r _ [31, 32, 33, 34, 17, 18, 15, 19] (by decide +kernel) (by decide +kernel)
set_option maxRecDepth 20000 in
theorem gJ2_indexOfSupplementary_4cfef_J2_getChar_3b067 : GoodIn wsJ2_indexOfSupplementary_4cfef (va_wsS RJ2 71 yJ2_getChar_3b067 wsJ2_getChar_3b067) := goodIn_app (goodIn_of _ (by decide +kernel)) ggJ2_indexOfSupplementary_4cfef_J2_getChar_3b067
theorem dJ2_indexOfSupplementary_4cfef_0 : decode cJ2_indexOfSupplementary_4cfef 0 = .ok (.iload_n 1, 1) := by decide +kernel
theorem dJ2_indexOfSupplementary_4cfef_1 : decode cJ2_indexOfSupplementary_4cfef 1 = .ok (.invokestatic 164, 3) := by decide +kernel
theorem dJ2_indexOfSupplementary_4cfef_4 : decode cJ2_indexOfSupplementary_4cfef 4 = .ok (.ifCond .eq 65, 3) := by decide +kernel
theorem dJ2_indexOfSupplementary_4cfef_7 : decode cJ2_indexOfSupplementary_4cfef 7 = .ok (.iload_n 1, 1) := by decide +kernel
theorem dJ2_indexOfSupplementary_4cfef_8 : decode cJ2_indexOfSupplementary_4cfef 8 = .ok (.invokestatic 157, 3) := by decide +kernel
theorem dJ2_indexOfSupplementary_4cfef_11 : decode cJ2_indexOfSupplementary_4cfef 11 = .ok (.istore 4, 2) := by decide +kernel
theorem dJ2_indexOfSupplementary_4cfef_13 : decode cJ2_indexOfSupplementary_4cfef 13 = .ok (.iload_n 1, 1) := by decide +kernel
theorem dJ2_indexOfSupplementary_4cfef_14 : decode cJ2_indexOfSupplementary_4cfef 14 = .ok (.invokestatic 161, 3) := by decide +kernel
theorem dJ2_indexOfSupplementary_4cfef_17 : decode cJ2_indexOfSupplementary_4cfef 17 = .ok (.istore 5, 2) := by decide +kernel
theorem dJ2_indexOfSupplementary_4cfef_19 : decode cJ2_indexOfSupplementary_4cfef 19 = .ok (.iload_n 2, 1) := by decide +kernel
theorem dJ2_indexOfSupplementary_4cfef_20 : decode cJ2_indexOfSupplementary_4cfef 20 = .ok (.iload_n 3, 1) := by decide +kernel
theorem dJ2_indexOfSupplementary_4cfef_21 : decode cJ2_indexOfSupplementary_4cfef 21 = .ok (.aload_n 0, 1) := by decide +kernel
theorem dJ2_indexOfSupplementary_4cfef_22 : decode cJ2_indexOfSupplementary_4cfef 22 = .ok (.invokestatic 96, 3) := by decide +kernel
theorem dJ2_indexOfSupplementary_4cfef_25 : decode cJ2_indexOfSupplementary_4cfef 25 = .ok (.iload_n 2, 1) := by decide +kernel
theorem dJ2_indexOfSupplementary_4cfef_26 : decode cJ2_indexOfSupplementary_4cfef 26 = .ok (.istore 6, 2) := by decide +kernel
theorem dJ2_indexOfSupplementary_4cfef_28 : decode cJ2_indexOfSupplementary_4cfef 28 = .ok (.iload 6, 2) := by decide +kernel
theorem dJ2_indexOfSupplementary_4cfef_30 : decode cJ2_indexOfSupplementary_4cfef 30 = .ok (.iload_n 3, 1) := by decide +kernel
theorem dJ2_indexOfSupplementary_4cfef_31 : decode cJ2_indexOfSupplementary_4cfef 31 = .ok (.iconst 1, 1) := by decide +kernel
theorem dJ2_indexOfSupplementary_4cfef_32 : decode cJ2_indexOfSupplementary_4cfef 32 = .ok (.isub, 1) := by decide +kernel
theorem dJ2_indexOfSupplementary_4cfef_33 : decode cJ2_indexOfSupplementary_4cfef 33 = .ok (.if_icmp .ge 36, 3) := by decide +kernel
theorem dJ2_indexOfSupplementary_4cfef_36 : decode cJ2_indexOfSupplementary_4cfef 36 = .ok (.aload_n 0, 1) := by decide +kernel
theorem dJ2_indexOfSupplementary_4cfef_37 : decode cJ2_indexOfSupplementary_4cfef 37 = .ok (.iload 6, 2) := by decide +kernel
theorem dJ2_indexOfSupplementary_4cfef_39 : decode cJ2_indexOfSupplementary_4cfef 39 = .ok (.invokestatic 71, 3) := by decide +kernel
theorem dJ2_indexOfSupplementary_4cfef_42 : decode cJ2_indexOfSupplementary_4cfef 42 = .ok (.iload 4, 2) := by decide +kernel
theorem dJ2_indexOfSupplementary_4cfef_44 : decode cJ2_indexOfSupplementary_4cfef 44 = .ok (.if_icmp .ne 19, 3) := by decide +kernel
theorem dJ2_indexOfSupplementary_4cfef_47 : decode cJ2_indexOfSupplementary_4cfef 47 = .ok (.aload_n 0, 1) := by decide +kernel
theorem dJ2_indexOfSupplementary_4cfef_48 : decode cJ2_indexOfSupplementary_4cfef 48 = .ok (.iload 6, 2) := by decide +kernel
theorem dJ2_indexOfSupplementary_4cfef_50 : decode cJ2_indexOfSupplementary_4cfef 50 = .ok (.iconst 1, 1) := by decide +kernel
theorem dJ2_indexOfSupplementary_4cfef_51 : decode cJ2_indexOfSupplementary_4cfef 51 = .ok (.iadd, 1) := by decide +kernel
theorem dJ2_indexOfSupplementary_4cfef_52 : decode cJ2_indexOfSupplementary_4cfef 52 = .ok (.invokestatic 71, 3) := by decide +kernel
theorem dJ2_indexOfSupplementary_4cfef_55 : decode cJ2_indexOfSupplementary_4cfef 55 = .ok (.iload 5, 2) := by decide +kernel
theorem dJ2_indexOfSupplementary_4cfef_57 : decode cJ2_indexOfSupplementary_4cfef 57 = .ok (.if_icmp .ne 6, 3) := by decide +kernel
theorem dJ2_indexOfSupplementary_4cfef_60 : decode cJ2_indexOfSupplementary_4cfef 60 = .ok (.iload 6, 2) := by decide +kernel
theorem dJ2_indexOfSupplementary_4cfef_62 : decode cJ2_indexOfSupplementary_4cfef 62 = .ok (.ireturn, 1) := by decide +kernel
theorem dJ2_indexOfSupplementary_4cfef_63 : decode cJ2_indexOfSupplementary_4cfef 63 = .ok (.iinc 6 1, 3) := by decide +kernel
theorem dJ2_indexOfSupplementary_4cfef_66 : decode cJ2_indexOfSupplementary_4cfef 66 = .ok (.goto (-38), 3) := by decide +kernel
theorem dJ2_indexOfSupplementary_4cfef_69 : decode cJ2_indexOfSupplementary_4cfef 69 = .ok (.iconst (-1), 1) := by decide +kernel
theorem dJ2_indexOfSupplementary_4cfef_70 : decode cJ2_indexOfSupplementary_4cfef 70 = .ok (.ireturn, 1) := by decide +kernel
set_option maxRecDepth 20000 in
theorem ggJ2_charAt_3b067_J2_checkIndex_2214a : GoodIn wsJ2_charAt_3b067 wsJ2_checkIndex_2214a := goodIn_r _ [4, 5, 6, 3, 7, 8, 9, 10, 11, 12, 13, 14, 15, 16] (by decide +kernel) (by decide +kernel)
set_option maxRecDepth 20000 in
theorem gJ2_charAt_3b067_J2_checkIndex_2214a : GoodIn wsJ2_charAt_3b067 (va_wsS RJ2 67 yJ2_checkIndex_2214a wsJ2_checkIndex_2214a) := goodIn_app (goodIn_of _ (by decide +kernel)) ggJ2_charAt_3b067_J2_checkIndex_2214a
set_option maxRecDepth 20000 in
theorem ggJ2_charAt_3b067_J2_getChar_3b067 : GoodIn wsJ2_charAt_3b067 wsJ2_getChar_3b067 := goodIn_r _ [19, 20, 21, 22, 5, 6, 3, 7] (by decide +kernel) (by decide +kernel)
set_option maxRecDepth 20000 in
theorem gJ2_charAt_3b067_J2_getChar_3b067 : GoodIn wsJ2_charAt_3b067 (va_wsS RJ2 71 yJ2_getChar_3b067 wsJ2_getChar_3b067) := goodIn_app (goodIn_of _ (by decide +kernel)) ggJ2_charAt_3b067_J2_getChar_3b067
theorem dJ2_charAt_3b067_0 : decode cJ2_charAt_3b067 0 = .ok (.iload_n 1, 1) := by decide +kernel
theorem dJ2_charAt_3b067_1 : decode cJ2_charAt_3b067 1 = .ok (.aload_n 0, 1) := by decide +kernel
theorem dJ2_charAt_3b067_2 : decode cJ2_charAt_3b067 2 = .ok (.invokestatic 67, 3) := by decide +kernel
theorem dJ2_charAt_3b067_5 : decode cJ2_charAt_3b067 5 = .ok (.aload_n 0, 1) := by decide +kernel
theorem dJ2_charAt_3b067_6 : decode cJ2_charAt_3b067 6 = .ok (.iload_n 1, 1) := by decide +kernel
theorem dJ2_charAt_3b067_7 : decode cJ2_charAt_3b067 7 = .ok (.invokestatic 71, 3) := by decide +kernel
theorem dJ2_charAt_3b067_10 : decode cJ2_charAt_3b067 10 = .ok (.ireturn, 1) := by decide +kernel
set_option maxRecDepth 20000 in
theorem ggJ2_checkIndex_2214a_J2_length_9d52b : GoodIn wsJ2_checkIndex_2214a wsJ2_length_9d52b := goodIn_r _ [4] (by decide +kernel) (by decide +kernel)
set_option maxRecDepth 20000 in
theorem gJ2_checkIndex_2214a_J2_length_9d52b : GoodIn wsJ2_checkIndex_2214a (va_wsS RJ2 48 yJ2_length_9d52b wsJ2_length_9d52b) := goodIn_app (goodIn_of _ (by decide +kernel)) ggJ2_checkIndex_2214a_J2_length_9d52b
set_option maxRecDepth 20000 in
theorem ggJ2_checkIndex_2214a_J0_checkIndex_df160 : GoodIn wsJ2_checkIndex_2214a wsJ0_checkIndex_df160 := goodIn_r _ [8, 9, 10, 11, 12, 13] (by decide +kernel) (by decide +kernel)
set_option maxRecDepth 20000 in
theorem gJ2_checkIndex_2214a_J0_checkIndex_df160 : GoodIn wsJ2_checkIndex_2214a (va_wsS RJ2 414 yJ0_checkIndex_df160 wsJ0_checkIndex_df160) := goodIn_app (goodIn_of _ (by decide +kernel)) ggJ2_checkIndex_2214a_J0_checkIndex_df160
theorem dJ2_checkIndex_2214a_0 : decode cJ2_checkIndex_2214a 0 = .ok (.iload_n 0, 1) := by decide +kernel
theorem dJ2_checkIndex_2214a_1 : decode cJ2_checkIndex_2214a 1 = .ok (.aload_n 1, 1) := by decide +kernel
theorem dJ2_checkIndex_2214a_2 : decode cJ2_checkIndex_2214a 2 = .ok (.invokestatic 48, 3) := by decide +kernel
theorem dJ2_checkIndex_2214a_5 : decode cJ2_checkIndex_2214a 5 = .ok (.invokestatic 414, 3) := by decide +kernel
theorem dJ2_checkIndex_2214a_8 : decode cJ2_checkIndex_2214a 8 = .ok (.return_, 1) := by decide +kernel
set_option maxRecDepth 20000 in
theorem ggJ2_checkBoundsBeginEnd_d044e_J2_length_9d52b : GoodIn wsJ2_checkBoundsBeginEnd_d044e wsJ2_length_9d52b := goodIn_r _ [4] (by decide +kernel) (by decide +kernel)
set_option maxRecDepth 20000 in
theorem gJ2_checkBoundsBeginEnd_d044e_J2_length_9d52b : GoodIn wsJ2_checkBoundsBeginEnd_d044e (va_wsS RJ2 48 yJ2_length_9d52b wsJ2_length_9d52b) := goodIn_app (goodIn_of _ (by decide +kernel)) ggJ2_checkBoundsBeginEnd_d044e_J2_length_9d52b
set_option maxRecDepth 20000 in
theorem ggJ2_checkBoundsBeginEnd_d044e_J0_checkBoundsBeginEnd_23922 : GoodIn wsJ2_checkBoundsBeginEnd_d044e wsJ0_checkBoundsBeginEnd_23922 := goodIn_r _ [8, 9, 10, 11, 12, 13] (by decide +kernel) (by decide +kernel)
set_option maxRecDepth 20000 in
theorem gJ2_checkBoundsBeginEnd_d044e_J0_checkBoundsBeginEnd_23922 : GoodIn wsJ2_checkBoundsBeginEnd_d044e (va_wsS RJ2 241 yJ0_checkBoundsBeginEnd_23922 wsJ0_checkBoundsBeginEnd_23922) := goodIn_app (goodIn_of _ (by decide +kernel)) ggJ2_checkBoundsBeginEnd_d044e_J0_checkBoundsBeginEnd_23922
theorem dJ2_checkBoundsBeginEnd_d044e_0 : decode cJ2_checkBoundsBeginEnd_d044e 0 = .ok (.iload_n 0, 1) := by decide +kernel
theorem dJ2_checkBoundsBeginEnd_d044e_1 : decode cJ2_checkBoundsBeginEnd_d044e 1 = .ok (.iload_n 1, 1) := by decide +kernel
theorem dJ2_checkBoundsBeginEnd_d044e_2 : decode cJ2_checkBoundsBeginEnd_d044e 2 = .ok (.aload_n 2, 1) := by decide +kernel
theorem dJ2_checkBoundsBeginEnd_d044e_3 : decode cJ2_checkBoundsBeginEnd_d044e 3 = .ok (.invokestatic 48, 3) := by decide +kernel
theorem dJ2_checkBoundsBeginEnd_d044e_6 : decode cJ2_checkBoundsBeginEnd_d044e 6 = .ok (.invokestatic 241, 3) := by decide +kernel
theorem dJ2_checkBoundsBeginEnd_d044e_9 : decode cJ2_checkBoundsBeginEnd_d044e 9 = .ok (.return_, 1) := by decide +kernel
theorem dJ3_checkIndex_8e157_0 : decode cJ3_checkIndex_8e157 0 = .ok (.iload_n 0, 1) := by decide +kernel
theorem dJ3_checkIndex_8e157_1 : decode cJ3_checkIndex_8e157 1 = .ok (.ifCond .lt 8, 3) := by decide +kernel
theorem dJ3_checkIndex_8e157_4 : decode cJ3_checkIndex_8e157 4 = .ok (.iload_n 0, 1) := by decide +kernel
theorem dJ3_checkIndex_8e157_5 : decode cJ3_checkIndex_8e157 5 = .ok (.iload_n 1, 1) := by decide +kernel
theorem dJ3_checkIndex_8e157_6 : decode cJ3_checkIndex_8e157 6 = .ok (.if_icmp .lt 10, 3) := by decide +kernel
theorem dJ3_checkIndex_8e157_9 : decode cJ3_checkIndex_8e157 9 = .ok (.aload_n 2, 1) := by decide +kernel
theorem dJ3_checkIndex_8e157_10 : decode cJ3_checkIndex_8e157 10 = .ok (.iload_n 0, 1) := by decide +kernel
theorem dJ3_checkIndex_8e157_11 : decode cJ3_checkIndex_8e157 11 = .ok (.iload_n 1, 1) := by decide +kernel
theorem dJ3_checkIndex_8e157_12 : decode cJ3_checkIndex_8e157 12 = .ok (.invokestatic 95, 3) := by decide +kernel
theorem dJ3_checkIndex_8e157_15 : decode cJ3_checkIndex_8e157 15 = .ok (.athrow, 1) := by decide +kernel
theorem dJ3_checkIndex_8e157_16 : decode cJ3_checkIndex_8e157 16 = .ok (.iload_n 0, 1) := by decide +kernel
theorem dJ3_checkIndex_8e157_17 : decode cJ3_checkIndex_8e157 17 = .ok (.ireturn, 1) := by decide +kernel
theorem dJ3_checkFromToIndex_8c36e_0 : decode cJ3_checkFromToIndex_8c36e 0 = .ok (.iload_n 0, 1) := by decide +kernel
theorem dJ3_checkFromToIndex_8c36e_1 : decode cJ3_checkFromToIndex_8c36e 1 = .ok (.ifCond .lt 13, 3) := by decide +kernel
theorem dJ3_checkFromToIndex_8c36e_4 : decode cJ3_checkFromToIndex_8c36e 4 = .ok (.iload_n 0, 1) := by decide +kernel
theorem dJ3_checkFromToIndex_8c36e_5 : decode cJ3_checkFromToIndex_8c36e 5 = .ok (.iload_n 1, 1) := by decide +kernel
theorem dJ3_checkFromToIndex_8c36e_6 : decode cJ3_checkFromToIndex_8c36e 6 = .ok (.if_icmp .gt 8, 3) := by decide +kernel
theorem dJ3_checkFromToIndex_8c36e_9 : decode cJ3_checkFromToIndex_8c36e 9 = .ok (.iload_n 1, 1) := by decide +kernel
theorem dJ3_checkFromToIndex_8c36e_10 : decode cJ3_checkFromToIndex_8c36e 10 = .ok (.iload_n 2, 1) := by decide +kernel
theorem dJ3_checkFromToIndex_8c36e_11 : decode cJ3_checkFromToIndex_8c36e 11 = .ok (.if_icmp .le 11, 3) := by decide +kernel
theorem dJ3_checkFromToIndex_8c36e_14 : decode cJ3_checkFromToIndex_8c36e 14 = .ok (.aload_n 3, 1) := by decide +kernel
theorem dJ3_checkFromToIndex_8c36e_15 : decode cJ3_checkFromToIndex_8c36e 15 = .ok (.iload_n 0, 1) := by decide +kernel
theorem dJ3_checkFromToIndex_8c36e_16 : decode cJ3_checkFromToIndex_8c36e 16 = .ok (.iload_n 1, 1) := by decide +kernel
theorem dJ3_checkFromToIndex_8c36e_17 : decode cJ3_checkFromToIndex_8c36e 17 = .ok (.iload_n 2, 1) := by decide +kernel
theorem dJ3_checkFromToIndex_8c36e_18 : decode cJ3_checkFromToIndex_8c36e 18 = .ok (.invokestatic 99, 3) := by decide +kernel
theorem dJ3_checkFromToIndex_8c36e_21 : decode cJ3_checkFromToIndex_8c36e 21 = .ok (.athrow, 1) := by decide +kernel
theorem dJ3_checkFromToIndex_8c36e_22 : decode cJ3_checkFromToIndex_8c36e 22 = .ok (.iload_n 0, 1) := by decide +kernel
theorem dJ3_checkFromToIndex_8c36e_23 : decode cJ3_checkFromToIndex_8c36e 23 = .ok (.ireturn, 1) := by decide +kernel
set_option maxRecDepth 20000 in
theorem ggL_law_X8_init : GoodIn wsL_law wsX8_init := goodIn_r _ [8, 9, 10, 11, 12, 13, 14, 15, 16, 17, 18, 19, 20, 21, 22, 23, 24, 25, 26, 27, 28, 29, 30, 31, 32, 33, 34, 35, 36, 37, 38, 39, 40, 41, 42, 43, 44, 45, 46, 47, 48, 49, 50, 51, 52, 53, 54, 55, 56, 57, 58, 59, 60, 61, 62, 63, 64, 65, 66, 67, 68, 69, 70, 71, 72, 73, 74, 75, 76, 77, 78, 79, 80, 81, 82, 83, 84, 85, 86, 87, 88, 89, 90, 91, 92, 93, 94, 95, 838, 839, 840, 792, 793, 794, 795, 796, 797, 798, 841, 842, 843, 844, 845, 846, 847, 848, 849, 850, 851, 852, 853, 854, 855, 856, 857, 858, 859, 860, 861] rfl (by decide +kernel)
set_option maxRecDepth 20000 in
theorem gL_law_X8_init : GoodIn wsL_law (wsX8_init) := ggL_law_X8_init
set_option maxRecDepth 20000 in
theorem ggL_law_X9_init : GoodIn wsL_law wsX9_init := goodIn_r _ [98, 99, 10, 11, 100, 43, 101, 102, 103, 104, 105, 106, 107, 108, 109, 110, 111, 112, 113, 799, 800, 801, 802, 803, 804, 805, 806, 807, 808, 809, 810, 811, 812, 813, 814, 815, 816, 817, 818, 819, 820, 821, 822, 823, 824, 825, 826, 827, 828, 829, 830, 831, 832, 833, 834, 835, 836, 837] (by decide +kernel) (by decide +kernel)
set_option maxRecDepth 20000 in
theorem gL_law_X9_init : GoodIn wsL_law (wsX9_init) := ggL_law_X9_init
set_option maxRecDepth 20000 in
theorem ggL_law_X8_feed : GoodIn wsL_law wsX8_feed := goodIn_r _ [117, 16, 118, 119, 120, 121, 14, 122, 45, 123, 124, 125, 126, 127, 128, 129, 130, 44, 131, 132, 133, 134, 42, 135, 136, 137, 138, 139, 140, 141, 43, 142, 143, 144, 145, 792, 793, 794, 795, 796, 797, 798, 838, 839, 840] (by decide +kernel) (by decide +kernel)
set_option maxRecDepth 20000 in
theorem gL_law_X8_feed : GoodIn wsL_law (wsV RL 13 RX8 yX8_feed wsX8_feed) := goodIn_app (goodIn_of _ (by decide +kernel)) ggL_law_X8_feed
set_option maxRecDepth 20000 in
theorem ggL_law_X9_feed : GoodIn wsL_law wsX9_feed := goodIn_r _ [149, 150, 100, 151, 152, 153, 5, 154, 101, 799, 800, 801, 802, 803, 804, 805, 806, 807, 808, 809, 810, 811, 812, 813, 814, 815, 816, 817, 818, 819, 820, 821, 822, 823, 824, 825, 826, 827, 828, 829, 830, 831, 832, 833, 834, 835, 836, 837] (by decide +kernel) (by decide +kernel)
set_option maxRecDepth 20000 in
theorem gL_law_X9_feed : GoodIn wsL_law (wsV RL 17 RX9 yX9_feed wsX9_feed) := goodIn_app (goodIn_of _ (by decide +kernel)) ggL_law_X9_feed
set_option maxRecDepth 20000 in
theorem ggL_law_X8_end : GoodIn wsL_law wsX8_end := goodIn_r _ [158, 16, 119, 120, 121, 14, 122, 45, 159, 160, 161, 162, 792, 793, 794, 795, 796, 797, 798, 838, 839, 840] (by decide +kernel) (by decide +kernel)
set_option maxRecDepth 20000 in
theorem gL_law_X8_end : GoodIn wsL_law (wsV RL 18 RX8 yX8_end wsX8_end) := goodIn_app (goodIn_of _ (by decide +kernel)) ggL_law_X8_end
set_option maxRecDepth 20000 in
theorem ggL_law_X9_end : GoodIn wsL_law wsX9_end := goodIn_r _ [166, 150, 799, 800, 801, 802, 803, 804, 805, 806, 807, 808, 809, 810, 811, 812, 813, 814, 815, 816, 817, 818, 819, 820, 821, 822, 823, 824, 825, 826, 827, 828, 829, 830, 831, 832, 833, 834, 835, 836, 837] (by decide +kernel) (by decide +kernel)
set_option maxRecDepth 20000 in
theorem gL_law_X9_end : GoodIn wsL_law (wsV RL 22 RX9 yX9_end wsX9_end) := goodIn_app (goodIn_of _ (by decide +kernel)) ggL_law_X9_end
set_option maxRecDepth 20000 in
theorem ggL_law_X8_install : GoodIn wsL_law wsX8_install := goodIn_r _ [170, 16, 171, 20, 24, 36, 119, 120, 121, 14, 122, 45, 172, 173, 174, 19, 175, 52, 53, 54, 176, 160, 161, 162, 177, 178, 179, 180, 181, 44, 142, 143, 144, 145, 131, 132, 133, 134, 42, 135, 136, 137, 138, 139, 140, 141, 43, 159, 182, 183, 184, 23, 185, 61, 62, 186, 187, 188, 189, 35, 190, 94, 191, 792, 793, 794, 795, 796, 797, 798, 841, 842, 843, 838, 839, 840, 844, 845, 861] rfl (by decide +kernel)
set_option maxRecDepth 20000 in
theorem gL_law_X8_install : GoodIn wsL_law (wsV RL 23 RX8 yX8_install wsX8_install) := goodIn_app (goodIn_of _ (by decide +kernel)) ggL_law_X8_install
set_option maxRecDepth 20000 in
theorem ggL_law_X9_install : GoodIn wsL_law wsX9_install := goodIn_r _ [195, 150, 102, 103, 101, 196, 197, 198, 199, 200, 201, 799, 800, 801, 802, 803, 804, 805, 806, 807, 808, 809, 810, 811, 812, 813, 814, 815, 816, 817, 818, 819, 820, 821, 822, 823, 824, 825, 826, 827, 828, 829, 830, 831, 832, 833, 834, 835, 836, 837] (by decide +kernel) (by decide +kernel)
set_option maxRecDepth 20000 in
theorem gL_law_X9_install : GoodIn wsL_law (wsV RL 27 RX9 yX9_install wsX9_install) := goodIn_app (goodIn_of _ (by decide +kernel)) ggL_law_X9_install
set_option maxRecDepth 20000 in
theorem ggL_law_X8_open : GoodIn wsL_law wsX8_open := goodIn_r _ [205, 20, 206, 207, 208, 19, 209, 52, 53, 54, 210, 211, 212, 14, 213, 45, 44, 214, 215, 216, 217, 177, 120, 121, 122, 218, 219, 220, 221, 222, 76, 77, 78, 79, 80, 81, 82, 83, 84, 85, 86, 223, 224, 225, 226, 227, 228, 229, 230, 231, 232, 233, 234, 235, 236, 237, 238, 239, 240, 241, 242, 243, 244, 245, 246, 247, 248, 249, 250, 251, 252, 253, 254, 255, 256, 257, 258, 259, 260, 261, 262, 263, 264, 265, 266, 267, 268, 269, 270, 271, 272, 273, 274, 275, 276, 277, 278, 279, 280, 281, 282, 283, 284, 285, 286, 287, 288, 289, 290, 291, 292, 293, 294, 176, 160, 161, 162, 178, 179, 180, 181, 142, 143, 144, 145, 131, 132, 133, 134, 42, 135, 136, 137, 138, 139, 140, 141, 43, 792, 793, 794, 795, 796, 797, 798, 841, 842, 843, 838, 839, 840] rfl (by decide +kernel)
set_option maxRecDepth 20000 in
theorem gL_law_X8_open : GoodIn wsL_law (wsV RL 28 RX8 yX8_open wsX8_open) := goodIn_app (goodIn_of _ (by decide +kernel)) ggL_law_X8_open
set_option maxRecDepth 20000 in
theorem ggL_law_X9_open : GoodIn wsL_law wsX9_open := goodIn_r _ [298, 197, 299, 104, 103, 106, 107, 108, 300, 301, 302, 5, 303, 196, 304, 305, 306, 307, 308, 309, 310, 311, 312, 799, 800, 801, 802, 803, 804, 805, 806, 807, 808, 809, 810, 811, 812, 813, 814, 815, 816, 817, 818, 819, 820, 821, 822, 823, 824, 825, 826, 827, 828, 829, 830, 831, 832, 833, 834, 835, 836, 837] rfl (by decide +kernel)
set_option maxRecDepth 20000 in
theorem gL_law_X9_open : GoodIn wsL_law (wsV RL 31 RX9 yX9_open wsX9_open) := goodIn_app (goodIn_of _ (by decide +kernel)) ggL_law_X9_open
set_option maxRecDepth 20000 in
theorem ggL_law_X8_come : GoodIn wsL_law wsX8_come := goodIn_r _ [316, 20, 16, 24, 119, 120, 121, 14, 122, 45, 317, 179, 180, 181, 44, 142, 143, 144, 145, 131, 132, 133, 134, 42, 135, 136, 137, 138, 139, 140, 141, 43, 159, 160, 161, 162, 792, 793, 794, 795, 796, 797, 798, 841, 842, 843, 844, 845, 838, 839, 840] (by decide +kernel) (by decide +kernel)
set_option maxRecDepth 20000 in
theorem gL_law_X8_come : GoodIn wsL_law (wsV RL 32 RX8 yX8_come wsX8_come) := goodIn_app (goodIn_of _ (by decide +kernel)) ggL_law_X8_come
set_option maxRecDepth 20000 in
theorem ggL_law_X9_come : GoodIn wsL_law wsX9_come := goodIn_r _ [321, 197, 198, 150, 109, 101, 799, 800, 801, 802, 803, 804, 805, 806, 807, 808, 809, 810, 811, 812, 813, 814, 815, 816, 817, 818, 819, 820, 821, 822, 823, 824, 825, 826, 827, 828, 829, 830, 831, 832, 833, 834, 835, 836, 837] (by decide +kernel) (by decide +kernel)
set_option maxRecDepth 20000 in
theorem gL_law_X9_come : GoodIn wsL_law (wsV RL 35 RX9 yX9_come wsX9_come) := goodIn_app (goodIn_of _ (by decide +kernel)) ggL_law_X9_come
set_option maxRecDepth 20000 in
theorem ggL_law_X8_look : GoodIn wsL_law wsX8_look := goodIn_r _ [325, 20, 24, 28, 326, 36, 37, 32, 327, 328, 329, 23, 330, 62, 61, 331, 136, 137, 138, 332, 120, 121, 14, 122, 45, 333, 334, 335, 336, 44, 142, 143, 144, 145, 337, 338, 339, 340, 341, 211, 212, 213, 342, 343, 344, 345, 346, 347, 348, 349, 223, 119, 350, 351, 352, 27, 353, 354, 355, 356, 357, 358, 68, 359, 360, 361, 362, 363, 364, 365, 366, 367, 368, 369, 370, 371, 372, 373, 374, 375, 376, 377, 280, 281, 282, 378, 219, 220, 221, 222, 76, 77, 78, 79, 80, 81, 82, 83, 84, 85, 86, 224, 225, 226, 227, 228, 229, 230, 231, 232, 233, 234, 235, 236, 237, 238, 239, 240, 241, 242, 243, 244, 245, 246, 247, 248, 249, 250, 251, 252, 253, 254, 255, 256, 257, 258, 259, 260, 379, 380, 381, 382, 383, 285, 384, 385, 386, 387, 388, 389, 284, 286, 390, 391, 392, 393, 394, 395, 396, 397, 398, 399, 400, 401, 402, 403, 404, 405, 406, 407, 408, 409, 410, 411, 412, 413, 414, 140, 141, 415, 416, 417, 418, 419, 420, 421, 422, 423, 424, 425, 426, 427, 428, 429, 430, 431, 432, 433, 434, 435, 436, 437, 438, 439, 440, 441, 442, 443, 444, 445, 446, 447, 448, 449, 450, 451, 452, 453, 454, 455, 456, 457, 458, 459, 460, 461, 462, 463, 464, 465, 466, 467, 468, 469, 470, 471, 472, 473, 474, 475, 476, 477, 478, 479, 480, 481, 482, 483, 2, 484, 485, 486, 487, 488, 489, 490, 491, 492, 493, 494, 495, 496, 497, 498, 499, 500, 501, 502, 31, 503, 74, 504, 160, 161, 162, 505, 506, 507, 508, 509, 510, 511, 512, 513, 514, 128, 129, 130, 131, 132, 133, 134, 42, 135, 139, 43, 515, 516, 517, 518, 519, 520, 521, 522, 523, 127, 524, 525, 526, 19, 527, 53, 177, 528, 529, 530, 531, 210, 532, 533, 534, 535, 52, 536, 537, 538, 539, 266, 267, 268, 269, 540, 541, 542, 543, 261, 262, 263, 264, 265, 544, 545, 546, 547, 548, 549, 550, 551, 552, 553, 554, 555, 556, 557, 558, 559, 560, 561, 562, 563, 564, 565, 566, 567, 35, 568, 94, 569, 570, 571, 191, 572, 573, 574, 575, 576, 577, 578, 579, 580, 581, 582, 583, 584, 585, 586, 587, 588, 589, 590, 591, 592, 593, 594, 595, 596, 597, 598, 599, 179, 180, 181, 600, 792, 793, 794, 795, 796, 797, 798, 841, 842, 843, 844, 845, 846, 847, 848, 849, 850, 851, 852, 853, 854, 855, 856, 857, 858, 859, 838, 839, 840, 860, 861] rfl (by decide +kernel)
set_option maxRecDepth 20000 in
theorem gL_law_X8_look : GoodIn wsL_law (wsV RL 36 RX8 yX8_look wsX8_look) := goodIn_app (goodIn_of _ (by decide +kernel)) ggL_law_X8_look
set_option maxRecDepth 20000 in
theorem ggL_law_X9_look : GoodIn wsL_law wsX9_look := goodIn_r _ [604, 197, 199, 198, 605, 136, 137, 138, 606, 607, 608, 609, 610, 5, 611, 109, 612, 613, 614, 615, 616, 617, 618, 619, 620, 621, 622, 623, 624, 112, 625, 626, 627, 628, 629, 630, 631, 632, 633, 634, 635, 636, 637, 638, 639, 640, 641, 642, 643, 644, 645, 646, 647, 648, 649, 650, 651, 652, 653, 654, 655, 656, 657, 658, 659, 76, 77, 78, 79, 80, 81, 82, 83, 84, 85, 86, 660, 225, 226, 227, 228, 229, 230, 231, 232, 233, 234, 235, 236, 237, 238, 239, 240, 241, 242, 243, 244, 245, 246, 247, 248, 249, 250, 251, 252, 253, 254, 255, 256, 257, 258, 259, 260, 661, 662, 663, 664, 665, 666, 667, 668, 669, 670, 671, 672, 673, 674, 675, 676, 677, 678, 679, 680, 681, 682, 683, 684, 685, 686, 687, 688, 689, 690, 691, 692, 693, 694, 695, 106, 107, 108, 696, 697, 698, 699, 700, 113, 701, 702, 703, 704, 705, 706, 707, 299, 104, 304, 305, 306, 307, 103, 308, 708, 709, 710, 711, 712, 713, 714, 715, 716, 717, 718, 200, 201, 111, 719, 720, 721, 722, 723, 724, 725, 726, 110, 727, 728, 729, 730, 731, 732, 733, 734, 735, 736, 737, 738, 739, 740, 741, 742, 743, 744, 745, 799, 800, 801, 802, 803, 804, 805, 806, 807, 808, 809, 810, 811, 812, 813, 814, 815, 816, 817, 818, 819, 820, 821, 822, 823, 824, 825, 826, 827, 828, 829, 830, 831, 832, 833, 834, 835, 836, 837] rfl (by decide +kernel)
set_option maxRecDepth 20000 in
theorem gL_law_X9_look : GoodIn wsL_law (wsV RL 39 RX9 yX9_look wsX9_look) := goodIn_app (goodIn_of _ (by decide +kernel)) ggL_law_X9_look
set_option maxRecDepth 20000 in
theorem ggL_law_X8_held : GoodIn wsL_law wsX8_held := goodIn_r _ [749, 24, 119, 120, 121, 14, 122, 45, 792, 793, 794, 795, 796, 797, 798, 844, 845, 838, 839, 840] (by decide +kernel) (by decide +kernel)
set_option maxRecDepth 20000 in
theorem gL_law_X8_held : GoodIn wsL_law (wsV RL 40 RX8 yX8_held wsX8_held) := goodIn_app (goodIn_of _ (by decide +kernel)) ggL_law_X8_held
set_option maxRecDepth 20000 in
theorem ggL_law_X9_held : GoodIn wsL_law wsX9_held := goodIn_r _ [753, 198, 799, 800, 801, 802, 803, 804, 805, 806, 807, 808, 809, 810, 811, 812, 813, 814, 815, 816, 817, 818, 819, 820, 821, 822, 823, 824, 825, 826, 827, 828, 829, 830, 831, 832, 833, 834, 835, 836, 837] (by decide +kernel) (by decide +kernel)
set_option maxRecDepth 20000 in
theorem gL_law_X9_held : GoodIn wsL_law (wsV RL 43 RX9 yX9_held wsX9_held) := goodIn_app (goodIn_of _ (by decide +kernel)) ggL_law_X9_held
set_option maxRecDepth 20000 in
theorem ggL_law_X8_left : GoodIn wsL_law wsX8_left := goodIn_r _ [757, 24, 792, 793, 794, 795, 796, 797, 798, 844, 845] (by decide +kernel) (by decide +kernel)
set_option maxRecDepth 20000 in
theorem gL_law_X8_left : GoodIn wsL_law (wsV RL 44 RX8 yX8_left wsX8_left) := goodIn_app (goodIn_of _ (by decide +kernel)) ggL_law_X8_left
set_option maxRecDepth 20000 in
theorem ggL_law_X9_left : GoodIn wsL_law wsX9_left := goodIn_r _ [761, 199, 799, 800, 801, 802, 803, 804, 805, 806, 807, 808, 809, 810, 811, 812, 813, 814, 815, 816, 817, 818, 819, 820, 821, 822, 823, 824, 825, 826, 827, 828, 829, 830, 831, 832, 833, 834, 835, 836, 837] (by decide +kernel) (by decide +kernel)
set_option maxRecDepth 20000 in
theorem gL_law_X9_left : GoodIn wsL_law (wsV RL 47 RX9 yX9_left wsX9_left) := goodIn_app (goodIn_of _ (by decide +kernel)) ggL_law_X9_left
set_option maxRecDepth 20000 in
theorem ggL_law_X8_length : GoodIn wsL_law wsX8_length := goodIn_r _ [765, 36, 119, 120, 121, 14, 122, 45, 792, 793, 794, 795, 796, 797, 798, 861, 838, 839, 840] (by decide +kernel) (by decide +kernel)
set_option maxRecDepth 20000 in
theorem gL_law_X8_length : GoodIn wsL_law (wsV RL 48 RX8 yX8_length wsX8_length) := goodIn_app (goodIn_of _ (by decide +kernel)) ggL_law_X8_length
set_option maxRecDepth 20000 in
theorem ggL_law_X9_length : GoodIn wsL_law wsX9_length := goodIn_r _ [769, 200, 201, 799, 800, 801, 802, 803, 804, 805, 806, 807, 808, 809, 810, 811, 812, 813, 814, 815, 816, 817, 818, 819, 820, 821, 822, 823, 824, 825, 826, 827, 828, 829, 830, 831, 832, 833, 834, 835, 836, 837] (by decide +kernel) (by decide +kernel)
set_option maxRecDepth 20000 in
theorem gL_law_X9_length : GoodIn wsL_law (wsV RL 51 RX9 yX9_length wsX9_length) := goodIn_app (goodIn_of _ (by decide +kernel)) ggL_law_X9_length
set_option maxRecDepth 20000 in
theorem ggL_law_X8_at : GoodIn wsL_law wsX8_at := goodIn_r _ [773, 36, 774, 211, 212, 14, 213, 45, 44, 792, 793, 794, 795, 796, 797, 798, 861, 838, 839, 840] (by decide +kernel) (by decide +kernel)
set_option maxRecDepth 20000 in
theorem gL_law_X8_at : GoodIn wsL_law (wsV RL 52 RX8 yX8_at wsX8_at) := goodIn_app (goodIn_of _ (by decide +kernel)) ggL_law_X8_at
set_option maxRecDepth 20000 in
theorem ggL_law_X9_at : GoodIn wsL_law wsX9_at := goodIn_r _ [778, 200, 110, 111, 779, 767, 768, 5, 769, 201, 799, 800, 801, 802, 803, 804, 805, 806, 807, 808, 809, 810, 811, 812, 813, 814, 815, 816, 817, 818, 819, 820, 821, 822, 823, 824, 825, 826, 827, 828, 829, 830, 831, 832, 833, 834, 835, 836, 837] (by decide +kernel) (by decide +kernel)
set_option maxRecDepth 20000 in
theorem gL_law_X9_at : GoodIn wsL_law (wsV RL 55 RX9 yX9_at wsX9_at) := goodIn_app (goodIn_of _ (by decide +kernel)) ggL_law_X9_at
set_option maxRecDepth 20000 in
theorem ggL_law_X8_damage : GoodIn wsL_law wsX8_damage := goodIn_r _ [783, 20, 784, 785, 786, 14, 787, 45, 44, 792, 793, 794, 795, 796, 797, 798, 841, 842, 843, 838, 839, 840] (by decide +kernel) (by decide +kernel)
set_option maxRecDepth 20000 in
theorem gL_law_X8_damage : GoodIn wsL_law (wsV RL 56 RX8 yX8_damage wsX8_damage) := goodIn_app (goodIn_of _ (by decide +kernel)) ggL_law_X8_damage
set_option maxRecDepth 20000 in
theorem ggL_law_X9_damage : GoodIn wsL_law wsX9_damage := goodIn_r _ [791, 196, 103, 799, 800, 801, 802, 803, 804, 805, 806, 807, 808, 809, 810, 811, 812, 813, 814, 815, 816, 817, 818, 819, 820, 821, 822, 823, 824, 825, 826, 827, 828, 829, 830, 831, 832, 833, 834, 835, 836, 837] (by decide +kernel) (by decide +kernel)
set_option maxRecDepth 20000 in
theorem gL_law_X9_damage : GoodIn wsL_law (wsV RL 60 RX9 yX9_damage wsX9_damage) := goodIn_app (goodIn_of _ (by decide +kernel)) ggL_law_X9_damage
theorem dL_law_0 : decode cL_law 0 = .ok (.new 7, 3) := by decide +kernel
theorem dL_law_3 : decode cL_law 3 = .ok (.dup, 1) := by decide +kernel
theorem dL_law_4 : decode cL_law 4 = .ok (.invokespecial 9, 3) := by decide +kernel
theorem dL_law_7 : decode cL_law 7 = .ok (.astore_n 1, 1) := by decide +kernel
theorem dL_law_8 : decode cL_law 8 = .ok (.new 10, 3) := by decide +kernel
theorem dL_law_11 : decode cL_law 11 = .ok (.dup, 1) := by decide +kernel
theorem dL_law_12 : decode cL_law 12 = .ok (.invokespecial 12, 3) := by decide +kernel
theorem dL_law_15 : decode cL_law 15 = .ok (.astore_n 2, 1) := by decide +kernel
theorem dL_law_16 : decode cL_law 16 = .ok (.iconst 0, 1) := by decide +kernel
theorem dL_law_17 : decode cL_law 17 = .ok (.istore_n 3, 1) := by decide +kernel
theorem dL_law_18 : decode cL_law 18 = .ok (.iload_n 3, 1) := by decide +kernel
theorem dL_law_19 : decode cL_law 19 = .ok (.aload_n 0, 1) := by decide +kernel
theorem dL_law_20 : decode cL_law 20 = .ok (.arraylength, 1) := by decide +kernel
theorem dL_law_21 : decode cL_law 21 = .ok (.bipush 6, 2) := by decide +kernel
theorem dL_law_23 : decode cL_law 23 = .ok (.isub, 1) := by decide +kernel
theorem dL_law_24 : decode cL_law 24 = .ok (.if_icmp .gt 307, 3) := by decide +kernel
theorem dL_law_27 : decode cL_law 27 = .ok (.aload_n 0, 1) := by decide +kernel
theorem dL_law_28 : decode cL_law 28 = .ok (.iload_n 3, 1) := by decide +kernel
theorem dL_law_29 : decode cL_law 29 = .ok (.iaload, 1) := by decide +kernel
theorem dL_law_30 : decode cL_law 30 = .ok (.bipush 15, 2) := by decide +kernel
theorem dL_law_32 : decode cL_law 32 = .ok (.iand, 1) := by decide +kernel
theorem dL_law_33 : decode cL_law 33 = .ok (.tableswitch 292 0 10 #[59, 122, 145, 158, 171, 184, 197, 210, 223, 236, 259], 59) := by decide +kernel
theorem dL_law_92 : decode cL_law 92 = .ok (.aload_n 1, 1) := by decide +kernel
theorem dL_law_93 : decode cL_law 93 = .ok (.aload_n 0, 1) := by decide +kernel
theorem dL_law_94 : decode cL_law 94 = .ok (.iload_n 3, 1) := by decide +kernel
theorem dL_law_95 : decode cL_law 95 = .ok (.iconst 1, 1) := by decide +kernel
theorem dL_law_96 : decode cL_law 96 = .ok (.iadd, 1) := by decide +kernel
theorem dL_law_97 : decode cL_law 97 = .ok (.iaload, 1) := by decide +kernel
theorem dL_law_98 : decode cL_law 98 = .ok (.aload_n 0, 1) := by decide +kernel
theorem dL_law_99 : decode cL_law 99 = .ok (.iload_n 3, 1) := by decide +kernel
theorem dL_law_100 : decode cL_law 100 = .ok (.iconst 2, 1) := by decide +kernel
theorem dL_law_101 : decode cL_law 101 = .ok (.iadd, 1) := by decide +kernel
theorem dL_law_102 : decode cL_law 102 = .ok (.iaload, 1) := by decide +kernel
theorem dL_law_103 : decode cL_law 103 = .ok (.aload_n 0, 1) := by decide +kernel
theorem dL_law_104 : decode cL_law 104 = .ok (.iload_n 3, 1) := by decide +kernel
theorem dL_law_105 : decode cL_law 105 = .ok (.iconst 3, 1) := by decide +kernel
theorem dL_law_106 : decode cL_law 106 = .ok (.iadd, 1) := by decide +kernel
theorem dL_law_107 : decode cL_law 107 = .ok (.iaload, 1) := by decide +kernel
theorem dL_law_108 : decode cL_law 108 = .ok (.aload_n 0, 1) := by decide +kernel
theorem dL_law_109 : decode cL_law 109 = .ok (.iload_n 3, 1) := by decide +kernel
theorem dL_law_110 : decode cL_law 110 = .ok (.iconst 4, 1) := by decide +kernel
theorem dL_law_111 : decode cL_law 111 = .ok (.iadd, 1) := by decide +kernel
theorem dL_law_112 : decode cL_law 112 = .ok (.iaload, 1) := by decide +kernel
theorem dL_law_113 : decode cL_law 113 = .ok (.aload_n 0, 1) := by decide +kernel
theorem dL_law_114 : decode cL_law 114 = .ok (.iload_n 3, 1) := by decide +kernel
theorem dL_law_115 : decode cL_law 115 = .ok (.iconst 5, 1) := by decide +kernel
theorem dL_law_116 : decode cL_law 116 = .ok (.iadd, 1) := by decide +kernel
theorem dL_law_117 : decode cL_law 117 = .ok (.iaload, 1) := by decide +kernel
theorem dL_law_118 : decode cL_law 118 = .ok (.invokevirtual 13, 3) := by decide +kernel
theorem dL_law_121 : decode cL_law 121 = .ok (.aload_n 2, 1) := by decide +kernel
theorem dL_law_122 : decode cL_law 122 = .ok (.aload_n 0, 1) := by decide +kernel
theorem dL_law_123 : decode cL_law 123 = .ok (.iload_n 3, 1) := by decide +kernel
theorem dL_law_124 : decode cL_law 124 = .ok (.iconst 1, 1) := by decide +kernel
theorem dL_law_125 : decode cL_law 125 = .ok (.iadd, 1) := by decide +kernel
theorem dL_law_126 : decode cL_law 126 = .ok (.iaload, 1) := by decide +kernel
theorem dL_law_127 : decode cL_law 127 = .ok (.aload_n 0, 1) := by decide +kernel
theorem dL_law_128 : decode cL_law 128 = .ok (.iload_n 3, 1) := by decide +kernel
theorem dL_law_129 : decode cL_law 129 = .ok (.iconst 2, 1) := by decide +kernel
theorem dL_law_130 : decode cL_law 130 = .ok (.iadd, 1) := by decide +kernel
theorem dL_law_131 : decode cL_law 131 = .ok (.iaload, 1) := by decide +kernel
theorem dL_law_132 : decode cL_law 132 = .ok (.aload_n 0, 1) := by decide +kernel
theorem dL_law_133 : decode cL_law 133 = .ok (.iload_n 3, 1) := by decide +kernel
theorem dL_law_134 : decode cL_law 134 = .ok (.iconst 3, 1) := by decide +kernel
theorem dL_law_135 : decode cL_law 135 = .ok (.iadd, 1) := by decide +kernel
theorem dL_law_136 : decode cL_law 136 = .ok (.iaload, 1) := by decide +kernel
theorem dL_law_137 : decode cL_law 137 = .ok (.aload_n 0, 1) := by decide +kernel
theorem dL_law_138 : decode cL_law 138 = .ok (.iload_n 3, 1) := by decide +kernel
theorem dL_law_139 : decode cL_law 139 = .ok (.iconst 4, 1) := by decide +kernel
theorem dL_law_140 : decode cL_law 140 = .ok (.iadd, 1) := by decide +kernel
theorem dL_law_141 : decode cL_law 141 = .ok (.iaload, 1) := by decide +kernel
theorem dL_law_142 : decode cL_law 142 = .ok (.aload_n 0, 1) := by decide +kernel
theorem dL_law_143 : decode cL_law 143 = .ok (.iload_n 3, 1) := by decide +kernel
theorem dL_law_144 : decode cL_law 144 = .ok (.iconst 5, 1) := by decide +kernel
theorem dL_law_145 : decode cL_law 145 = .ok (.iadd, 1) := by decide +kernel
theorem dL_law_146 : decode cL_law 146 = .ok (.iaload, 1) := by decide +kernel
theorem dL_law_147 : decode cL_law 147 = .ok (.invokevirtual 17, 3) := by decide +kernel
theorem dL_law_150 : decode cL_law 150 = .ok (.if_icmp .eq 175, 3) := by decide +kernel
theorem dL_law_153 : decode cL_law 153 = .ok (.iconst 0, 1) := by decide +kernel
theorem dL_law_154 : decode cL_law 154 = .ok (.ireturn, 1) := by decide +kernel
theorem dL_law_155 : decode cL_law 155 = .ok (.aload_n 1, 1) := by decide +kernel
theorem dL_law_156 : decode cL_law 156 = .ok (.aload_n 0, 1) := by decide +kernel
theorem dL_law_157 : decode cL_law 157 = .ok (.iload_n 3, 1) := by decide +kernel
theorem dL_law_158 : decode cL_law 158 = .ok (.iconst 1, 1) := by decide +kernel
theorem dL_law_159 : decode cL_law 159 = .ok (.iadd, 1) := by decide +kernel
theorem dL_law_160 : decode cL_law 160 = .ok (.iaload, 1) := by decide +kernel
theorem dL_law_161 : decode cL_law 161 = .ok (.invokevirtual 18, 3) := by decide +kernel
theorem dL_law_164 : decode cL_law 164 = .ok (.aload_n 2, 1) := by decide +kernel
theorem dL_law_165 : decode cL_law 165 = .ok (.aload_n 0, 1) := by decide +kernel
theorem dL_law_166 : decode cL_law 166 = .ok (.iload_n 3, 1) := by decide +kernel
theorem dL_law_167 : decode cL_law 167 = .ok (.iconst 1, 1) := by decide +kernel
theorem dL_law_168 : decode cL_law 168 = .ok (.iadd, 1) := by decide +kernel
theorem dL_law_169 : decode cL_law 169 = .ok (.iaload, 1) := by decide +kernel
theorem dL_law_170 : decode cL_law 170 = .ok (.invokevirtual 22, 3) := by decide +kernel
theorem dL_law_173 : decode cL_law 173 = .ok (.if_icmp .eq 152, 3) := by decide +kernel
theorem dL_law_176 : decode cL_law 176 = .ok (.iconst 0, 1) := by decide +kernel
theorem dL_law_177 : decode cL_law 177 = .ok (.ireturn, 1) := by decide +kernel
theorem dL_law_178 : decode cL_law 178 = .ok (.aload_n 1, 1) := by decide +kernel
theorem dL_law_179 : decode cL_law 179 = .ok (.invokevirtual 23, 3) := by decide +kernel
theorem dL_law_182 : decode cL_law 182 = .ok (.aload_n 2, 1) := by decide +kernel
theorem dL_law_183 : decode cL_law 183 = .ok (.invokevirtual 27, 3) := by decide +kernel
theorem dL_law_186 : decode cL_law 186 = .ok (.if_icmp .eq 139, 3) := by decide +kernel
theorem dL_law_189 : decode cL_law 189 = .ok (.iconst 0, 1) := by decide +kernel
theorem dL_law_190 : decode cL_law 190 = .ok (.ireturn, 1) := by decide +kernel
theorem dL_law_191 : decode cL_law 191 = .ok (.aload_n 1, 1) := by decide +kernel
theorem dL_law_192 : decode cL_law 192 = .ok (.invokevirtual 28, 3) := by decide +kernel
theorem dL_law_195 : decode cL_law 195 = .ok (.aload_n 2, 1) := by decide +kernel
theorem dL_law_196 : decode cL_law 196 = .ok (.invokevirtual 31, 3) := by decide +kernel
theorem dL_law_199 : decode cL_law 199 = .ok (.if_icmp .eq 126, 3) := by decide +kernel
theorem dL_law_202 : decode cL_law 202 = .ok (.iconst 0, 1) := by decide +kernel
theorem dL_law_203 : decode cL_law 203 = .ok (.ireturn, 1) := by decide +kernel
theorem dL_law_204 : decode cL_law 204 = .ok (.aload_n 1, 1) := by decide +kernel
theorem dL_law_205 : decode cL_law 205 = .ok (.invokevirtual 32, 3) := by decide +kernel
theorem dL_law_208 : decode cL_law 208 = .ok (.aload_n 2, 1) := by decide +kernel
theorem dL_law_209 : decode cL_law 209 = .ok (.invokevirtual 35, 3) := by decide +kernel
theorem dL_law_212 : decode cL_law 212 = .ok (.if_icmp .eq 113, 3) := by decide +kernel
theorem dL_law_215 : decode cL_law 215 = .ok (.iconst 0, 1) := by decide +kernel
theorem dL_law_216 : decode cL_law 216 = .ok (.ireturn, 1) := by decide +kernel
theorem dL_law_217 : decode cL_law 217 = .ok (.aload_n 1, 1) := by decide +kernel
theorem dL_law_218 : decode cL_law 218 = .ok (.invokevirtual 36, 3) := by decide +kernel
theorem dL_law_221 : decode cL_law 221 = .ok (.aload_n 2, 1) := by decide +kernel
theorem dL_law_222 : decode cL_law 222 = .ok (.invokevirtual 39, 3) := by decide +kernel
theorem dL_law_225 : decode cL_law 225 = .ok (.if_icmp .eq 100, 3) := by decide +kernel
theorem dL_law_228 : decode cL_law 228 = .ok (.iconst 0, 1) := by decide +kernel
theorem dL_law_229 : decode cL_law 229 = .ok (.ireturn, 1) := by decide +kernel
theorem dL_law_230 : decode cL_law 230 = .ok (.aload_n 1, 1) := by decide +kernel
theorem dL_law_231 : decode cL_law 231 = .ok (.invokevirtual 40, 3) := by decide +kernel
theorem dL_law_234 : decode cL_law 234 = .ok (.aload_n 2, 1) := by decide +kernel
theorem dL_law_235 : decode cL_law 235 = .ok (.invokevirtual 43, 3) := by decide +kernel
theorem dL_law_238 : decode cL_law 238 = .ok (.if_icmp .eq 87, 3) := by decide +kernel
theorem dL_law_241 : decode cL_law 241 = .ok (.iconst 0, 1) := by decide +kernel
theorem dL_law_242 : decode cL_law 242 = .ok (.ireturn, 1) := by decide +kernel
theorem dL_law_243 : decode cL_law 243 = .ok (.aload_n 1, 1) := by decide +kernel
theorem dL_law_244 : decode cL_law 244 = .ok (.invokevirtual 44, 3) := by decide +kernel
theorem dL_law_247 : decode cL_law 247 = .ok (.aload_n 2, 1) := by decide +kernel
theorem dL_law_248 : decode cL_law 248 = .ok (.invokevirtual 47, 3) := by decide +kernel
theorem dL_law_251 : decode cL_law 251 = .ok (.if_icmp .eq 74, 3) := by decide +kernel
theorem dL_law_254 : decode cL_law 254 = .ok (.iconst 0, 1) := by decide +kernel
theorem dL_law_255 : decode cL_law 255 = .ok (.ireturn, 1) := by decide +kernel
theorem dL_law_256 : decode cL_law 256 = .ok (.aload_n 1, 1) := by decide +kernel
theorem dL_law_257 : decode cL_law 257 = .ok (.invokevirtual 48, 3) := by decide +kernel
theorem dL_law_260 : decode cL_law 260 = .ok (.aload_n 2, 1) := by decide +kernel
theorem dL_law_261 : decode cL_law 261 = .ok (.invokevirtual 51, 3) := by decide +kernel
theorem dL_law_264 : decode cL_law 264 = .ok (.if_icmp .eq 61, 3) := by decide +kernel
theorem dL_law_267 : decode cL_law 267 = .ok (.iconst 0, 1) := by decide +kernel
theorem dL_law_268 : decode cL_law 268 = .ok (.ireturn, 1) := by decide +kernel
theorem dL_law_269 : decode cL_law 269 = .ok (.aload_n 1, 1) := by decide +kernel
theorem dL_law_270 : decode cL_law 270 = .ok (.aload_n 0, 1) := by decide +kernel
theorem dL_law_271 : decode cL_law 271 = .ok (.iload_n 3, 1) := by decide +kernel
theorem dL_law_272 : decode cL_law 272 = .ok (.iconst 1, 1) := by decide +kernel
theorem dL_law_273 : decode cL_law 273 = .ok (.iadd, 1) := by decide +kernel
theorem dL_law_274 : decode cL_law 274 = .ok (.iaload, 1) := by decide +kernel
theorem dL_law_275 : decode cL_law 275 = .ok (.invokevirtual 52, 3) := by decide +kernel
theorem dL_law_278 : decode cL_law 278 = .ok (.aload_n 2, 1) := by decide +kernel
theorem dL_law_279 : decode cL_law 279 = .ok (.aload_n 0, 1) := by decide +kernel
theorem dL_law_280 : decode cL_law 280 = .ok (.iload_n 3, 1) := by decide +kernel
theorem dL_law_281 : decode cL_law 281 = .ok (.iconst 1, 1) := by decide +kernel
theorem dL_law_282 : decode cL_law 282 = .ok (.iadd, 1) := by decide +kernel
theorem dL_law_283 : decode cL_law 283 = .ok (.iaload, 1) := by decide +kernel
theorem dL_law_284 : decode cL_law 284 = .ok (.invokevirtual 55, 3) := by decide +kernel
theorem dL_law_287 : decode cL_law 287 = .ok (.if_icmp .eq 38, 3) := by decide +kernel
theorem dL_law_290 : decode cL_law 290 = .ok (.iconst 0, 1) := by decide +kernel
theorem dL_law_291 : decode cL_law 291 = .ok (.ireturn, 1) := by decide +kernel
theorem dL_law_292 : decode cL_law 292 = .ok (.aload_n 1, 1) := by decide +kernel
theorem dL_law_293 : decode cL_law 293 = .ok (.aload_n 0, 1) := by decide +kernel
theorem dL_law_294 : decode cL_law 294 = .ok (.iload_n 3, 1) := by decide +kernel
theorem dL_law_295 : decode cL_law 295 = .ok (.iconst 1, 1) := by decide +kernel
theorem dL_law_296 : decode cL_law 296 = .ok (.iadd, 1) := by decide +kernel
theorem dL_law_297 : decode cL_law 297 = .ok (.iaload, 1) := by decide +kernel
theorem dL_law_298 : decode cL_law 298 = .ok (.aload_n 0, 1) := by decide +kernel
theorem dL_law_299 : decode cL_law 299 = .ok (.iload_n 3, 1) := by decide +kernel
theorem dL_law_300 : decode cL_law 300 = .ok (.iconst 2, 1) := by decide +kernel
theorem dL_law_301 : decode cL_law 301 = .ok (.iadd, 1) := by decide +kernel
theorem dL_law_302 : decode cL_law 302 = .ok (.iaload, 1) := by decide +kernel
theorem dL_law_303 : decode cL_law 303 = .ok (.invokevirtual 56, 3) := by decide +kernel
theorem dL_law_306 : decode cL_law 306 = .ok (.aload_n 2, 1) := by decide +kernel
theorem dL_law_307 : decode cL_law 307 = .ok (.aload_n 0, 1) := by decide +kernel
theorem dL_law_308 : decode cL_law 308 = .ok (.iload_n 3, 1) := by decide +kernel
theorem dL_law_309 : decode cL_law 309 = .ok (.iconst 1, 1) := by decide +kernel
theorem dL_law_310 : decode cL_law 310 = .ok (.iadd, 1) := by decide +kernel
theorem dL_law_311 : decode cL_law 311 = .ok (.iaload, 1) := by decide +kernel
theorem dL_law_312 : decode cL_law 312 = .ok (.aload_n 0, 1) := by decide +kernel
theorem dL_law_313 : decode cL_law 313 = .ok (.iload_n 3, 1) := by decide +kernel
theorem dL_law_314 : decode cL_law 314 = .ok (.iconst 2, 1) := by decide +kernel
theorem dL_law_315 : decode cL_law 315 = .ok (.iadd, 1) := by decide +kernel
theorem dL_law_316 : decode cL_law 316 = .ok (.iaload, 1) := by decide +kernel
theorem dL_law_317 : decode cL_law 317 = .ok (.invokevirtual 60, 3) := by decide +kernel
theorem dL_law_320 : decode cL_law 320 = .ok (.if_icmp .eq 5, 3) := by decide +kernel
theorem dL_law_323 : decode cL_law 323 = .ok (.iconst 0, 1) := by decide +kernel
theorem dL_law_324 : decode cL_law 324 = .ok (.ireturn, 1) := by decide +kernel
theorem dL_law_325 : decode cL_law 325 = .ok (.iinc 3 6, 3) := by decide +kernel
theorem dL_law_328 : decode cL_law 328 = .ok (.goto (-310), 3) := by decide +kernel
theorem dL_law_331 : decode cL_law 331 = .ok (.iconst 1, 1) := by decide +kernel
theorem dL_law_332 : decode cL_law 332 = .ok (.ireturn, 1) := by decide +kernel
abbrev vwCl : List vw_C := [(RX0, TX0, 1), (RX2, TX2, 14), (RX3, TX3, 1), (RX4, TX4, 3), (RX6, TX6, 3), (RX7, TX7, 2), (RX8, TX8, 7), (RX9, TX9, 39)]
