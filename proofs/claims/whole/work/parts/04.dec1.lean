theorem dX0_init_0 : decode cX0_init 0 = .ok (.aload_n 0, 1) := by decide +kernel
theorem dX0_init_1 : decode cX0_init 1 = .ok (.invokespecial 3, 3) := by decide +kernel
theorem dX0_init_4 : decode cX0_init 4 = .ok (.aload_n 0, 1) := by decide +kernel
theorem dX0_init_5 : decode cX0_init 5 = .ok (.bipush 20, 2) := by decide +kernel
theorem dX0_init_7 : decode cX0_init 7 = .ok (.newarray .int, 2) := by decide +kernel
theorem dX0_init_9 : decode cX0_init 9 = .ok (.putfield 9, 3) := by decide +kernel
theorem dX0_init_12 : decode cX0_init 12 = .ok (.aload_n 0, 1) := by decide +kernel
theorem dX0_init_13 : decode cX0_init 13 = .ok (.iconst 0, 1) := by decide +kernel
theorem dX0_init_14 : decode cX0_init 14 = .ok (.putfield 15, 3) := by decide +kernel
theorem dX0_init_17 : decode cX0_init 17 = .ok (.aload_n 0, 1) := by decide +kernel
theorem dX0_init_18 : decode cX0_init 18 = .ok (.iconst 0, 1) := by decide +kernel
theorem dX0_init_19 : decode cX0_init 19 = .ok (.putfield 19, 3) := by decide +kernel
theorem dX0_init_22 : decode cX0_init 22 = .ok (.aload_n 0, 1) := by decide +kernel
theorem dX0_init_23 : decode cX0_init 23 = .ok (.iconst 0, 1) := by decide +kernel
theorem dX0_init_24 : decode cX0_init 24 = .ok (.putfield 22, 3) := by decide +kernel
theorem dX0_init_27 : decode cX0_init 27 = .ok (.aload_n 0, 1) := by decide +kernel
theorem dX0_init_28 : decode cX0_init 28 = .ok (.iconst 0, 1) := by decide +kernel
theorem dX0_init_29 : decode cX0_init 29 = .ok (.putfield 25, 3) := by decide +kernel
theorem dX0_init_32 : decode cX0_init 32 = .ok (.return_, 1) := by decide +kernel
theorem dX0_doneBy_0 : decode cX0_doneBy 0 = .ok (.aload_n 0, 1) := by decide +kernel
theorem dX0_doneBy_1 : decode cX0_doneBy 1 = .ok (.iload_n 1, 1) := by decide +kernel
theorem dX0_doneBy_2 : decode cX0_doneBy 2 = .ok (.putfield 19, 3) := by decide +kernel
theorem dX0_doneBy_5 : decode cX0_doneBy 5 = .ok (.aload_n 0, 1) := by decide +kernel
theorem dX0_doneBy_6 : decode cX0_doneBy 6 = .ok (.iload_n 2, 1) := by decide +kernel
theorem dX0_doneBy_7 : decode cX0_doneBy 7 = .ok (.putfield 22, 3) := by decide +kernel
theorem dX0_doneBy_10 : decode cX0_doneBy 10 = .ok (.aload_n 0, 1) := by decide +kernel
theorem dX0_doneBy_11 : decode cX0_doneBy 11 = .ok (.iload_n 3, 1) := by decide +kernel
theorem dX0_doneBy_12 : decode cX0_doneBy 12 = .ok (.putfield 25, 3) := by decide +kernel
theorem dX0_doneBy_15 : decode cX0_doneBy 15 = .ok (.aload_n 0, 1) := by decide +kernel
theorem dX0_doneBy_16 : decode cX0_doneBy 16 = .ok (.iload 4, 2) := by decide +kernel
theorem dX0_doneBy_18 : decode cX0_doneBy 18 = .ok (.iload_n 2, 1) := by decide +kernel
theorem dX0_doneBy_19 : decode cX0_doneBy 19 = .ok (.iload 5, 2) := by decide +kernel
theorem dX0_doneBy_21 : decode cX0_doneBy 21 = .ok (.iconst 0, 1) := by decide +kernel
theorem dX0_doneBy_22 : decode cX0_doneBy 22 = .ok (.invokestatic 28, 3) := by decide +kernel
theorem dX0_doneBy_25 : decode cX0_doneBy 25 = .ok (.ireturn, 1) := by decide +kernel
theorem dX0_run_0 : decode cX0_run 0 = .ok (.iload 4, 2) := by decide +kernel
theorem dX0_run_2 : decode cX0_run 2 = .ok (.bipush 20, 2) := by decide +kernel
theorem dX0_run_4 : decode cX0_run 4 = .ok (.if_icmp .le 5, 3) := by decide +kernel
theorem dX0_run_7 : decode cX0_run 7 = .ok (.iconst 0, 1) := by decide +kernel
theorem dX0_run_8 : decode cX0_run 8 = .ok (.ireturn, 1) := by decide +kernel
theorem dX0_run_9 : decode cX0_run 9 = .ok (.iload 4, 2) := by decide +kernel
theorem dX0_run_11 : decode cX0_run 11 = .ok (.iconst 1, 1) := by decide +kernel
theorem dX0_run_12 : decode cX0_run 12 = .ok (.iadd, 1) := by decide +kernel
theorem dX0_run_13 : decode cX0_run 13 = .ok (.istore 5, 2) := by decide +kernel
theorem dX0_run_15 : decode cX0_run 15 = .ok (.iload_n 1, 1) := by decide +kernel
theorem dX0_run_16 : decode cX0_run 16 = .ok (.iload_n 2, 1) := by decide +kernel
theorem dX0_run_17 : decode cX0_run 17 = .ok (.invokestatic 32, 3) := by decide +kernel
theorem dX0_run_20 : decode cX0_run 20 = .ok (.istore 6, 2) := by decide +kernel
theorem dX0_run_22 : decode cX0_run 22 = .ok (.aload_n 0, 1) := by decide +kernel
theorem dX0_run_23 : decode cX0_run 23 = .ok (.getfield 9, 3) := by decide +kernel
theorem dX0_run_26 : decode cX0_run 26 = .ok (.aload_n 0, 1) := by decide +kernel
theorem dX0_run_27 : decode cX0_run 27 = .ok (.getfield 15, 3) := by decide +kernel
theorem dX0_run_30 : decode cX0_run 30 = .ok (.iload 6, 2) := by decide +kernel
theorem dX0_run_32 : decode cX0_run 32 = .ok (.invokestatic 36, 3) := by decide +kernel
theorem dX0_run_35 : decode cX0_run 35 = .ok (.aload_n 0, 1) := by decide +kernel
theorem dX0_run_36 : decode cX0_run 36 = .ok (.dup, 1) := by decide +kernel
theorem dX0_run_37 : decode cX0_run 37 = .ok (.getfield 15, 3) := by decide +kernel
theorem dX0_run_40 : decode cX0_run 40 = .ok (.iconst 1, 1) := by decide +kernel
theorem dX0_run_41 : decode cX0_run 41 = .ok (.iadd, 1) := by decide +kernel
theorem dX0_run_42 : decode cX0_run 42 = .ok (.putfield 15, 3) := by decide +kernel
theorem dX0_run_45 : decode cX0_run 45 = .ok (.iload 6, 2) := by decide +kernel
theorem dX0_run_47 : decode cX0_run 47 = .ok (.lookupswitch 197 #[(2, 73), (3, 91), (11, 106), (21, 118), (31, 129), (41, 142), (51, 167), (61, 182)], 73) := by decide +kernel
theorem dX0_run_120 : decode cX0_run 120 = .ok (.aload_n 0, 1) := by decide +kernel
theorem dX0_run_121 : decode cX0_run 121 = .ok (.iconst 0, 1) := by decide +kernel
theorem dX0_run_122 : decode cX0_run 122 = .ok (.aload_n 0, 1) := by decide +kernel
theorem dX0_run_123 : decode cX0_run 123 = .ok (.getfield 22, 3) := by decide +kernel
theorem dX0_run_126 : decode cX0_run 126 = .ok (.iload_n 3, 1) := by decide +kernel
theorem dX0_run_127 : decode cX0_run 127 = .ok (.iload 5, 2) := by decide +kernel
theorem dX0_run_129 : decode cX0_run 129 = .ok (.invokestatic 28, 3) := by decide +kernel
theorem dX0_run_132 : decode cX0_run 132 = .ok (.aload_n 0, 1) := by decide +kernel
theorem dX0_run_133 : decode cX0_run 133 = .ok (.getfield 25, 3) := by decide +kernel
theorem dX0_run_136 : decode cX0_run 136 = .ok (.isub, 1) := by decide +kernel
theorem dX0_run_137 : decode cX0_run 137 = .ok (.ireturn, 1) := by decide +kernel
theorem dX0_run_138 : decode cX0_run 138 = .ok (.aload_n 0, 1) := by decide +kernel
theorem dX0_run_139 : decode cX0_run 139 = .ok (.iconst 1, 1) := by decide +kernel
theorem dX0_run_140 : decode cX0_run 140 = .ok (.aload_n 0, 1) := by decide +kernel
theorem dX0_run_141 : decode cX0_run 141 = .ok (.getfield 22, 3) := by decide +kernel
theorem dX0_run_144 : decode cX0_run 144 = .ok (.iload_n 3, 1) := by decide +kernel
theorem dX0_run_145 : decode cX0_run 145 = .ok (.iload 5, 2) := by decide +kernel
theorem dX0_run_147 : decode cX0_run 147 = .ok (.invokestatic 28, 3) := by decide +kernel
theorem dX0_run_150 : decode cX0_run 150 = .ok (.iconst 2, 1) := by decide +kernel
theorem dX0_run_151 : decode cX0_run 151 = .ok (.imul, 1) := by decide +kernel
theorem dX0_run_152 : decode cX0_run 152 = .ok (.ireturn, 1) := by decide +kernel
theorem dX0_run_153 : decode cX0_run 153 = .ok (.aload_n 0, 1) := by decide +kernel
theorem dX0_run_154 : decode cX0_run 154 = .ok (.iconst 0, 1) := by decide +kernel
theorem dX0_run_155 : decode cX0_run 155 = .ok (.iconst 0, 1) := by decide +kernel
theorem dX0_run_156 : decode cX0_run 156 = .ok (.iload_n 3, 1) := by decide +kernel
theorem dX0_run_157 : decode cX0_run 157 = .ok (.iconst 3, 1) := by decide +kernel
theorem dX0_run_158 : decode cX0_run 158 = .ok (.imul, 1) := by decide +kernel
theorem dX0_run_159 : decode cX0_run 159 = .ok (.iload 5, 2) := by decide +kernel
theorem dX0_run_161 : decode cX0_run 161 = .ok (.invokestatic 28, 3) := by decide +kernel
theorem dX0_run_164 : decode cX0_run 164 = .ok (.ireturn, 1) := by decide +kernel
theorem dX0_run_165 : decode cX0_run 165 = .ok (.aload_n 0, 1) := by decide +kernel
theorem dX0_run_166 : decode cX0_run 166 = .ok (.iconst 1, 1) := by decide +kernel
theorem dX0_run_167 : decode cX0_run 167 = .ok (.iconst 0, 1) := by decide +kernel
theorem dX0_run_168 : decode cX0_run 168 = .ok (.iload_n 3, 1) := by decide +kernel
theorem dX0_run_169 : decode cX0_run 169 = .ok (.iload 5, 2) := by decide +kernel
theorem dX0_run_171 : decode cX0_run 171 = .ok (.invokestatic 28, 3) := by decide +kernel
theorem dX0_run_174 : decode cX0_run 174 = .ok (.ineg, 1) := by decide +kernel
theorem dX0_run_175 : decode cX0_run 175 = .ok (.ireturn, 1) := by decide +kernel
theorem dX0_run_176 : decode cX0_run 176 = .ok (.aload_n 0, 1) := by decide +kernel
theorem dX0_run_177 : decode cX0_run 177 = .ok (.iconst 2, 1) := by decide +kernel
theorem dX0_run_178 : decode cX0_run 178 = .ok (.iconst 0, 1) := by decide +kernel
theorem dX0_run_179 : decode cX0_run 179 = .ok (.iload_n 3, 1) := by decide +kernel
theorem dX0_run_180 : decode cX0_run 180 = .ok (.iload 5, 2) := by decide +kernel
theorem dX0_run_182 : decode cX0_run 182 = .ok (.invokestatic 28, 3) := by decide +kernel
theorem dX0_run_185 : decode cX0_run 185 = .ok (.bipush 7, 2) := by decide +kernel
theorem dX0_run_187 : decode cX0_run 187 = .ok (.ixor, 1) := by decide +kernel
theorem dX0_run_188 : decode cX0_run 188 = .ok (.ireturn, 1) := by decide +kernel
theorem dX0_run_189 : decode cX0_run 189 = .ok (.aload_n 0, 1) := by decide +kernel
theorem dX0_run_190 : decode cX0_run 190 = .ok (.iconst 2, 1) := by decide +kernel
theorem dX0_run_191 : decode cX0_run 191 = .ok (.iconst 1, 1) := by decide +kernel
theorem dX0_run_192 : decode cX0_run 192 = .ok (.iload_n 3, 1) := by decide +kernel
theorem dX0_run_193 : decode cX0_run 193 = .ok (.iconst 1, 1) := by decide +kernel
theorem dX0_run_194 : decode cX0_run 194 = .ok (.isub, 1) := by decide +kernel
theorem dX0_run_195 : decode cX0_run 195 = .ok (.iload 5, 2) := by decide +kernel
theorem dX0_run_197 : decode cX0_run 197 = .ok (.invokestatic 28, 3) := by decide +kernel
theorem dX0_run_200 : decode cX0_run 200 = .ok (.aload_n 0, 1) := by decide +kernel
theorem dX0_run_201 : decode cX0_run 201 = .ok (.iconst 0, 1) := by decide +kernel
theorem dX0_run_202 : decode cX0_run 202 = .ok (.aload_n 0, 1) := by decide +kernel
theorem dX0_run_203 : decode cX0_run 203 = .ok (.getfield 22, 3) := by decide +kernel
theorem dX0_run_206 : decode cX0_run 206 = .ok (.iconst 2, 1) := by decide +kernel
theorem dX0_run_207 : decode cX0_run 207 = .ok (.iload 5, 2) := by decide +kernel
theorem dX0_run_209 : decode cX0_run 209 = .ok (.invokestatic 28, 3) := by decide +kernel
theorem dX0_run_212 : decode cX0_run 212 = .ok (.iadd, 1) := by decide +kernel
theorem dX0_run_213 : decode cX0_run 213 = .ok (.ireturn, 1) := by decide +kernel
theorem dX0_run_214 : decode cX0_run 214 = .ok (.aload_n 0, 1) := by decide +kernel
theorem dX0_run_215 : decode cX0_run 215 = .ok (.iconst 0, 1) := by decide +kernel
theorem dX0_run_216 : decode cX0_run 216 = .ok (.iconst 2, 1) := by decide +kernel
theorem dX0_run_217 : decode cX0_run 217 = .ok (.iload_n 3, 1) := by decide +kernel
theorem dX0_run_218 : decode cX0_run 218 = .ok (.iload 5, 2) := by decide +kernel
theorem dX0_run_220 : decode cX0_run 220 = .ok (.invokestatic 28, 3) := by decide +kernel
theorem dX0_run_223 : decode cX0_run 223 = .ok (.aload_n 0, 1) := by decide +kernel
theorem dX0_run_224 : decode cX0_run 224 = .ok (.getfield 19, 3) := by decide +kernel
theorem dX0_run_227 : decode cX0_run 227 = .ok (.ixor, 1) := by decide +kernel
theorem dX0_run_228 : decode cX0_run 228 = .ok (.ireturn, 1) := by decide +kernel
theorem dX0_run_229 : decode cX0_run 229 = .ok (.aload_n 0, 1) := by decide +kernel
theorem dX0_run_230 : decode cX0_run 230 = .ok (.iconst 1, 1) := by decide +kernel
theorem dX0_run_231 : decode cX0_run 231 = .ok (.iconst 3, 1) := by decide +kernel
theorem dX0_run_232 : decode cX0_run 232 = .ok (.iload_n 3, 1) := by decide +kernel
theorem dX0_run_233 : decode cX0_run 233 = .ok (.iload 5, 2) := by decide +kernel
theorem dX0_run_235 : decode cX0_run 235 = .ok (.invokestatic 28, 3) := by decide +kernel
theorem dX0_run_238 : decode cX0_run 238 = .ok (.aload_n 0, 1) := by decide +kernel
theorem dX0_run_239 : decode cX0_run 239 = .ok (.getfield 25, 3) := by decide +kernel
theorem dX0_run_242 : decode cX0_run 242 = .ok (.iadd, 1) := by decide +kernel
theorem dX0_run_243 : decode cX0_run 243 = .ok (.ireturn, 1) := by decide +kernel
theorem dX0_run_244 : decode cX0_run 244 = .ok (.iload_n 3, 1) := by decide +kernel
theorem dX0_run_245 : decode cX0_run 245 = .ok (.aload_n 0, 1) := by decide +kernel
theorem dX0_run_246 : decode cX0_run 246 = .ok (.getfield 19, 3) := by decide +kernel
theorem dX0_run_249 : decode cX0_run 249 = .ok (.iadd, 1) := by decide +kernel
theorem dX0_run_250 : decode cX0_run 250 = .ok (.ireturn, 1) := by decide +kernel
theorem dX0_bodyOf_0 : decode cX0_bodyOf 0 = .ok (.iload_n 1, 1) := by decide +kernel
theorem dX0_bodyOf_1 : decode cX0_bodyOf 1 = .ok (.istore_n 2, 1) := by decide +kernel
theorem dX0_bodyOf_2 : decode cX0_bodyOf 2 = .ok (.iconst 0, 1) := by decide +kernel
theorem dX0_bodyOf_3 : decode cX0_bodyOf 3 = .ok (.istore_n 3, 1) := by decide +kernel
theorem dX0_bodyOf_4 : decode cX0_bodyOf 4 = .ok (.iload_n 3, 1) := by decide +kernel
theorem dX0_bodyOf_5 : decode cX0_bodyOf 5 = .ok (.bipush 7, 2) := by decide +kernel
theorem dX0_bodyOf_7 : decode cX0_bodyOf 7 = .ok (.if_icmp .ge 43, 3) := by decide +kernel
theorem dX0_bodyOf_10 : decode cX0_bodyOf 10 = .ok (.iload_n 2, 1) := by decide +kernel
theorem dX0_bodyOf_11 : decode cX0_bodyOf 11 = .ok (.ifCond .eq 39, 3) := by decide +kernel
theorem dX0_bodyOf_14 : decode cX0_bodyOf 14 = .ok (.getstatic 40, 3) := by decide +kernel
theorem dX0_bodyOf_17 : decode cX0_bodyOf 17 = .ok (.iload_n 0, 1) := by decide +kernel
theorem dX0_bodyOf_18 : decode cX0_bodyOf 18 = .ok (.bipush 7, 2) := by decide +kernel
theorem dX0_bodyOf_20 : decode cX0_bodyOf 20 = .ok (.imul, 1) := by decide +kernel
theorem dX0_bodyOf_21 : decode cX0_bodyOf 21 = .ok (.iload_n 2, 1) := by decide +kernel
theorem dX0_bodyOf_22 : decode cX0_bodyOf 22 = .ok (.iadd, 1) := by decide +kernel
theorem dX0_bodyOf_23 : decode cX0_bodyOf 23 = .ok (.invokestatic 43, 3) := by decide +kernel
theorem dX0_bodyOf_26 : decode cX0_bodyOf 26 = .ok (.istore 4, 2) := by decide +kernel
theorem dX0_bodyOf_28 : decode cX0_bodyOf 28 = .ok (.iload 4, 2) := by decide +kernel
theorem dX0_bodyOf_30 : decode cX0_bodyOf 30 = .ok (.ifCond .eq 6, 3) := by decide +kernel
theorem dX0_bodyOf_33 : decode cX0_bodyOf 33 = .ok (.iload 4, 2) := by decide +kernel
theorem dX0_bodyOf_35 : decode cX0_bodyOf 35 = .ok (.ireturn, 1) := by decide +kernel
theorem dX0_bodyOf_36 : decode cX0_bodyOf 36 = .ok (.getstatic 47, 3) := by decide +kernel
theorem dX0_bodyOf_39 : decode cX0_bodyOf 39 = .ok (.iload_n 2, 1) := by decide +kernel
theorem dX0_bodyOf_40 : decode cX0_bodyOf 40 = .ok (.invokestatic 43, 3) := by decide +kernel
theorem dX0_bodyOf_43 : decode cX0_bodyOf 43 = .ok (.istore_n 2, 1) := by decide +kernel
theorem dX0_bodyOf_44 : decode cX0_bodyOf 44 = .ok (.iinc 3 1, 3) := by decide +kernel
theorem dX0_bodyOf_47 : decode cX0_bodyOf 47 = .ok (.goto (-43), 3) := by decide +kernel
theorem dX0_bodyOf_50 : decode cX0_bodyOf 50 = .ok (.getstatic 40, 3) := by decide +kernel
theorem dX0_bodyOf_53 : decode cX0_bodyOf 53 = .ok (.iload_n 0, 1) := by decide +kernel
theorem dX0_bodyOf_54 : decode cX0_bodyOf 54 = .ok (.bipush 7, 2) := by decide +kernel
theorem dX0_bodyOf_56 : decode cX0_bodyOf 56 = .ok (.imul, 1) := by decide +kernel
theorem dX0_bodyOf_57 : decode cX0_bodyOf 57 = .ok (.invokestatic 43, 3) := by decide +kernel
theorem dX0_bodyOf_60 : decode cX0_bodyOf 60 = .ok (.ireturn, 1) := by decide +kernel
theorem dX1_init_0 : decode cX1_init 0 = .ok (.aload_n 0, 1) := by decide +kernel
theorem dX1_init_1 : decode cX1_init 1 = .ok (.invokespecial 3, 3) := by decide +kernel
theorem dX1_init_4 : decode cX1_init 4 = .ok (.aload_n 0, 1) := by decide +kernel
theorem dX1_init_5 : decode cX1_init 5 = .ok (.sipush 4096, 3) := by decide +kernel
theorem dX1_init_8 : decode cX1_init 8 = .ok (.newarray .int, 2) := by decide +kernel
theorem dX1_init_10 : decode cX1_init 10 = .ok (.putfield 11, 3) := by decide +kernel
theorem dX1_init_13 : decode cX1_init 13 = .ok (.aload_n 0, 1) := by decide +kernel
theorem dX1_init_14 : decode cX1_init 14 = .ok (.sipush 840, 3) := by decide +kernel
theorem dX1_init_17 : decode cX1_init 17 = .ok (.newarray .int, 2) := by decide +kernel
theorem dX1_init_19 : decode cX1_init 19 = .ok (.putfield 15, 3) := by decide +kernel
theorem dX1_init_22 : decode cX1_init 22 = .ok (.aload_n 0, 1) := by decide +kernel
theorem dX1_init_23 : decode cX1_init 23 = .ok (.iconst 0, 1) := by decide +kernel
theorem dX1_init_24 : decode cX1_init 24 = .ok (.putfield 18, 3) := by decide +kernel
theorem dX1_init_27 : decode cX1_init 27 = .ok (.aload_n 0, 1) := by decide +kernel
theorem dX1_init_28 : decode cX1_init 28 = .ok (.iconst 0, 1) := by decide +kernel
theorem dX1_init_29 : decode cX1_init 29 = .ok (.putfield 22, 3) := by decide +kernel
theorem dX1_init_32 : decode cX1_init 32 = .ok (.return_, 1) := by decide +kernel
theorem dX1_search_0 : decode cX1_search 0 = .ok (.aload_n 0, 1) := by decide +kernel
theorem dX1_search_1 : decode cX1_search 1 = .ok (.getfield 11, 3) := by decide +kernel
theorem dX1_search_4 : decode cX1_search 4 = .ok (.bipush (-5), 2) := by decide +kernel
theorem dX1_search_6 : decode cX1_search 6 = .ok (.invokestatic 25, 3) := by decide +kernel
theorem dX1_search_9 : decode cX1_search 9 = .ok (.aload_n 0, 1) := by decide +kernel
theorem dX1_search_10 : decode cX1_search 10 = .ok (.iconst 0, 1) := by decide +kernel
theorem dX1_search_11 : decode cX1_search 11 = .ok (.putfield 18, 3) := by decide +kernel
theorem dX1_search_14 : decode cX1_search 14 = .ok (.aload_n 0, 1) := by decide +kernel
theorem dX1_search_15 : decode cX1_search 15 = .ok (.aload_n 1, 1) := by decide +kernel
theorem dX1_search_16 : decode cX1_search 16 = .ok (.getfield 31, 3) := by decide +kernel
theorem dX1_search_19 : decode cX1_search 19 = .ok (.putfield 22, 3) := by decide +kernel
theorem dX1_search_22 : decode cX1_search 22 = .ok (.aload_n 0, 1) := by decide +kernel
theorem dX1_search_23 : decode cX1_search 23 = .ok (.aload_n 1, 1) := by decide +kernel
theorem dX1_search_24 : decode cX1_search 24 = .ok (.iconst 0, 1) := by decide +kernel
theorem dX1_search_25 : decode cX1_search 25 = .ok (.invokevirtual 34, 3) := by decide +kernel
theorem dX1_search_28 : decode cX1_search 28 = .ok (.iconst 0, 1) := by decide +kernel
theorem dX1_search_29 : decode cX1_search 29 = .ok (.istore_n 2, 1) := by decide +kernel
theorem dX1_search_30 : decode cX1_search 30 = .ok (.iload_n 2, 1) := by decide +kernel
theorem dX1_search_31 : decode cX1_search 31 = .ok (.sipush 840, 3) := by decide +kernel
theorem dX1_search_34 : decode cX1_search 34 = .ok (.if_icmp .ge 42, 3) := by decide +kernel
theorem dX1_search_37 : decode cX1_search 37 = .ok (.iload_n 2, 1) := by decide +kernel
theorem dX1_search_38 : decode cX1_search 38 = .ok (.aload_n 0, 1) := by decide +kernel
theorem dX1_search_39 : decode cX1_search 39 = .ok (.getfield 18, 3) := by decide +kernel
theorem dX1_search_42 : decode cX1_search 42 = .ok (.if_icmp .ge 34, 3) := by decide +kernel
theorem dX1_search_45 : decode cX1_search 45 = .ok (.aload_n 0, 1) := by decide +kernel
theorem dX1_search_46 : decode cX1_search 46 = .ok (.getfield 15, 3) := by decide +kernel
theorem dX1_search_49 : decode cX1_search 49 = .ok (.iload_n 2, 1) := by decide +kernel
theorem dX1_search_50 : decode cX1_search 50 = .ok (.invokestatic 38, 3) := by decide +kernel
theorem dX1_search_53 : decode cX1_search 53 = .ok (.istore_n 3, 1) := by decide +kernel
theorem dX1_search_54 : decode cX1_search 54 = .ok (.aload_n 0, 1) := by decide +kernel
theorem dX1_search_55 : decode cX1_search 55 = .ok (.aload_n 1, 1) := by decide +kernel
theorem dX1_search_56 : decode cX1_search 56 = .ok (.iload_n 3, 1) := by decide +kernel
theorem dX1_search_57 : decode cX1_search 57 = .ok (.aload_n 0, 1) := by decide +kernel
theorem dX1_search_58 : decode cX1_search 58 = .ok (.getfield 11, 3) := by decide +kernel
theorem dX1_search_61 : decode cX1_search 61 = .ok (.iload_n 3, 1) := by decide +kernel
theorem dX1_search_62 : decode cX1_search 62 = .ok (.invokestatic 38, 3) := by decide +kernel
theorem dX1_search_65 : decode cX1_search 65 = .ok (.iconst 1, 1) := by decide +kernel
theorem dX1_search_66 : decode cX1_search 66 = .ok (.iadd, 1) := by decide +kernel
theorem dX1_search_67 : decode cX1_search 67 = .ok (.invokevirtual 42, 3) := by decide +kernel
theorem dX1_search_70 : decode cX1_search 70 = .ok (.iinc 2 1, 3) := by decide +kernel
theorem dX1_search_73 : decode cX1_search 73 = .ok (.goto (-43), 3) := by decide +kernel
theorem dX1_search_76 : decode cX1_search 76 = .ok (.return_, 1) := by decide +kernel
theorem dX1_meet_0 : decode cX1_meet 0 = .ok (.aload_n 1, 1) := by decide +kernel
theorem dX1_meet_1 : decode cX1_meet 1 = .ok (.invokevirtual 46, 3) := by decide +kernel
theorem dX1_meet_4 : decode cX1_meet 4 = .ok (.istore_n 3, 1) := by decide +kernel
theorem dX1_meet_5 : decode cX1_meet 5 = .ok (.aload_n 0, 1) := by decide +kernel
theorem dX1_meet_6 : decode cX1_meet 6 = .ok (.getfield 11, 3) := by decide +kernel
theorem dX1_meet_9 : decode cX1_meet 9 = .ok (.iload_n 3, 1) := by decide +kernel
theorem dX1_meet_10 : decode cX1_meet 10 = .ok (.invokestatic 38, 3) := by decide +kernel
theorem dX1_meet_13 : decode cX1_meet 13 = .ok (.bipush (-5), 2) := by decide +kernel
theorem dX1_meet_15 : decode cX1_meet 15 = .ok (.if_icmp .ne 13, 3) := by decide +kernel
theorem dX1_meet_18 : decode cX1_meet 18 = .ok (.aload_n 0, 1) := by decide +kernel
theorem dX1_meet_19 : decode cX1_meet 19 = .ok (.getfield 18, 3) := by decide +kernel
theorem dX1_meet_22 : decode cX1_meet 22 = .ok (.sipush 840, 3) := by decide +kernel
theorem dX1_meet_25 : decode cX1_meet 25 = .ok (.if_icmp .lt 4, 3) := by decide +kernel
theorem dX1_meet_28 : decode cX1_meet 28 = .ok (.return_, 1) := by decide +kernel
theorem dX1_meet_29 : decode cX1_meet 29 = .ok (.aload_n 0, 1) := by decide +kernel
theorem dX1_meet_30 : decode cX1_meet 30 = .ok (.getfield 11, 3) := by decide +kernel
theorem dX1_meet_33 : decode cX1_meet 33 = .ok (.iload_n 3, 1) := by decide +kernel
theorem dX1_meet_34 : decode cX1_meet 34 = .ok (.iload_n 2, 1) := by decide +kernel
theorem dX1_meet_35 : decode cX1_meet 35 = .ok (.invokestatic 50, 3) := by decide +kernel
theorem dX1_meet_38 : decode cX1_meet 38 = .ok (.aload_n 0, 1) := by decide +kernel
theorem dX1_meet_39 : decode cX1_meet 39 = .ok (.getfield 15, 3) := by decide +kernel
theorem dX1_meet_42 : decode cX1_meet 42 = .ok (.aload_n 0, 1) := by decide +kernel
theorem dX1_meet_43 : decode cX1_meet 43 = .ok (.getfield 18, 3) := by decide +kernel
theorem dX1_meet_46 : decode cX1_meet 46 = .ok (.iload_n 3, 1) := by decide +kernel
theorem dX1_meet_47 : decode cX1_meet 47 = .ok (.invokestatic 50, 3) := by decide +kernel
theorem dX1_meet_50 : decode cX1_meet 50 = .ok (.aload_n 0, 1) := by decide +kernel
theorem dX1_meet_51 : decode cX1_meet 51 = .ok (.dup, 1) := by decide +kernel
theorem dX1_meet_52 : decode cX1_meet 52 = .ok (.getfield 18, 3) := by decide +kernel
theorem dX1_meet_55 : decode cX1_meet 55 = .ok (.iconst 1, 1) := by decide +kernel
theorem dX1_meet_56 : decode cX1_meet 56 = .ok (.iadd, 1) := by decide +kernel
theorem dX1_meet_57 : decode cX1_meet 57 = .ok (.putfield 18, 3) := by decide +kernel
theorem dX1_meet_60 : decode cX1_meet 60 = .ok (.return_, 1) := by decide +kernel
theorem dX1_spread_0 : decode cX1_spread 0 = .ok (.aload_n 1, 1) := by decide +kernel
theorem dX1_spread_1 : decode cX1_spread 1 = .ok (.iload_n 2, 1) := by decide +kernel
theorem dX1_spread_2 : decode cX1_spread 2 = .ok (.invokevirtual 54, 3) := by decide +kernel
theorem dX1_spread_5 : decode cX1_spread 5 = .ok (.iconst 0, 1) := by decide +kernel
theorem dX1_spread_6 : decode cX1_spread 6 = .ok (.istore 4, 2) := by decide +kernel
theorem dX1_spread_8 : decode cX1_spread 8 = .ok (.iload 4, 2) := by decide +kernel
theorem dX1_spread_10 : decode cX1_spread 10 = .ok (.aload_n 1, 1) := by decide +kernel
theorem dX1_spread_11 : decode cX1_spread 11 = .ok (.getfield 31, 3) := by decide +kernel
theorem dX1_spread_14 : decode cX1_spread 14 = .ok (.if_icmp .ge 99, 3) := by decide +kernel
theorem dX1_spread_17 : decode cX1_spread 17 = .ok (.iconst 0, 1) := by decide +kernel
theorem dX1_spread_18 : decode cX1_spread 18 = .ok (.istore 5, 2) := by decide +kernel
theorem dX1_spread_20 : decode cX1_spread 20 = .ok (.iload 5, 2) := by decide +kernel
theorem dX1_spread_22 : decode cX1_spread 22 = .ok (.aload_n 1, 1) := by decide +kernel
theorem dX1_spread_23 : decode cX1_spread 23 = .ok (.getfield 58, 3) := by decide +kernel
theorem dX1_spread_26 : decode cX1_spread 26 = .ok (.if_icmp .ge 31, 3) := by decide +kernel
theorem dX1_spread_29 : decode cX1_spread 29 = .ok (.aload_n 1, 1) := by decide +kernel
theorem dX1_spread_30 : decode cX1_spread 30 = .ok (.iload 4, 2) := by decide +kernel
theorem dX1_spread_32 : decode cX1_spread 32 = .ok (.iload 5, 2) := by decide +kernel
theorem dX1_spread_34 : decode cX1_spread 34 = .ok (.invokevirtual 61, 3) := by decide +kernel
theorem dX1_spread_37 : decode cX1_spread 37 = .ok (.ifCond .eq 14, 3) := by decide +kernel
theorem dX1_spread_40 : decode cX1_spread 40 = .ok (.aload_n 0, 1) := by decide +kernel
theorem dX1_spread_41 : decode cX1_spread 41 = .ok (.aload_n 1, 1) := by decide +kernel
theorem dX1_spread_42 : decode cX1_spread 42 = .ok (.iload_n 2, 1) := by decide +kernel
theorem dX1_spread_43 : decode cX1_spread 43 = .ok (.iload 4, 2) := by decide +kernel
theorem dX1_spread_45 : decode cX1_spread 45 = .ok (.iload 5, 2) := by decide +kernel
theorem dX1_spread_47 : decode cX1_spread 47 = .ok (.iload_n 3, 1) := by decide +kernel
theorem dX1_spread_48 : decode cX1_spread 48 = .ok (.invokevirtual 65, 3) := by decide +kernel
theorem dX1_spread_51 : decode cX1_spread 51 = .ok (.iinc 5 1, 3) := by decide +kernel
theorem dX1_spread_54 : decode cX1_spread 54 = .ok (.goto (-34), 3) := by decide +kernel
theorem dX1_spread_57 : decode cX1_spread 57 = .ok (.iload 4, 2) := by decide +kernel
theorem dX1_spread_59 : decode cX1_spread 59 = .ok (.iconst 1, 1) := by decide +kernel
theorem dX1_spread_60 : decode cX1_spread 60 = .ok (.iadd, 1) := by decide +kernel
theorem dX1_spread_61 : decode cX1_spread 61 = .ok (.istore 5, 2) := by decide +kernel
theorem dX1_spread_63 : decode cX1_spread 63 = .ok (.iload 5, 2) := by decide +kernel
theorem dX1_spread_65 : decode cX1_spread 65 = .ok (.aload_n 1, 1) := by decide +kernel
theorem dX1_spread_66 : decode cX1_spread 66 = .ok (.getfield 31, 3) := by decide +kernel
theorem dX1_spread_69 : decode cX1_spread 69 = .ok (.if_icmp .ge 38, 3) := by decide +kernel
theorem dX1_spread_72 : decode cX1_spread 72 = .ok (.aload_n 1, 1) := by decide +kernel
theorem dX1_spread_73 : decode cX1_spread 73 = .ok (.iload 4, 2) := by decide +kernel
theorem dX1_spread_75 : decode cX1_spread 75 = .ok (.iload 5, 2) := by decide +kernel
theorem dX1_spread_77 : decode cX1_spread 77 = .ok (.invokevirtual 69, 3) := by decide +kernel
theorem dX1_spread_80 : decode cX1_spread 80 = .ok (.ifCond .eq 21, 3) := by decide +kernel
theorem dX1_spread_83 : decode cX1_spread 83 = .ok (.aload_n 0, 1) := by decide +kernel
theorem dX1_spread_84 : decode cX1_spread 84 = .ok (.aload_n 1, 1) := by decide +kernel
theorem dX1_spread_85 : decode cX1_spread 85 = .ok (.iload_n 2, 1) := by decide +kernel
theorem dX1_spread_86 : decode cX1_spread 86 = .ok (.iload 4, 2) := by decide +kernel
theorem dX1_spread_88 : decode cX1_spread 88 = .ok (.aload_n 1, 1) := by decide +kernel
theorem dX1_spread_89 : decode cX1_spread 89 = .ok (.getfield 72, 3) := by decide +kernel
theorem dX1_spread_92 : decode cX1_spread 92 = .ok (.iload 5, 2) := by decide +kernel
theorem dX1_spread_94 : decode cX1_spread 94 = .ok (.invokestatic 38, 3) := by decide +kernel
theorem dX1_spread_97 : decode cX1_spread 97 = .ok (.iload_n 3, 1) := by decide +kernel
theorem dX1_spread_98 : decode cX1_spread 98 = .ok (.invokevirtual 65, 3) := by decide +kernel
theorem dX1_spread_101 : decode cX1_spread 101 = .ok (.iinc 5 1, 3) := by decide +kernel
theorem dX1_spread_104 : decode cX1_spread 104 = .ok (.goto (-41), 3) := by decide +kernel
theorem dX1_spread_107 : decode cX1_spread 107 = .ok (.iinc 4 1, 3) := by decide +kernel
theorem dX1_spread_110 : decode cX1_spread 110 = .ok (.goto (-102), 3) := by decide +kernel
theorem dX1_spread_113 : decode cX1_spread 113 = .ok (.return_, 1) := by decide +kernel
theorem dX1_step_0 : decode cX1_step 0 = .ok (.aload_n 1, 1) := by decide +kernel
theorem dX1_step_1 : decode cX1_step 1 = .ok (.iload_n 3, 1) := by decide +kernel
theorem dX1_step_2 : decode cX1_step 2 = .ok (.iload 4, 2) := by decide +kernel
theorem dX1_step_4 : decode cX1_step 4 = .ok (.invokevirtual 75, 3) := by decide +kernel
theorem dX1_step_7 : decode cX1_step 7 = .ok (.aload_n 0, 1) := by decide +kernel
theorem dX1_step_8 : decode cX1_step 8 = .ok (.aload_n 1, 1) := by decide +kernel
theorem dX1_step_9 : decode cX1_step 9 = .ok (.iload 5, 2) := by decide +kernel
theorem dX1_step_11 : decode cX1_step 11 = .ok (.invokevirtual 34, 3) := by decide +kernel
theorem dX1_step_14 : decode cX1_step 14 = .ok (.aload_n 1, 1) := by decide +kernel
theorem dX1_step_15 : decode cX1_step 15 = .ok (.iload_n 2, 1) := by decide +kernel
theorem dX1_step_16 : decode cX1_step 16 = .ok (.invokevirtual 54, 3) := by decide +kernel
theorem dX1_step_19 : decode cX1_step 19 = .ok (.return_, 1) := by decide +kernel
theorem dX1_fewest_0 : decode cX1_fewest 0 = .ok (.iconst 0, 1) := by decide +kernel
theorem dX1_fewest_1 : decode cX1_fewest 1 = .ok (.istore_n 3, 1) := by decide +kernel
theorem dX1_fewest_2 : decode cX1_fewest 2 = .ok (.iload_n 3, 1) := by decide +kernel
theorem dX1_fewest_3 : decode cX1_fewest 3 = .ok (.aload_n 0, 1) := by decide +kernel
theorem dX1_fewest_4 : decode cX1_fewest 4 = .ok (.getfield 18, 3) := by decide +kernel
theorem dX1_fewest_7 : decode cX1_fewest 7 = .ok (.if_icmp .ge 43, 3) := by decide +kernel
theorem dX1_fewest_10 : decode cX1_fewest 10 = .ok (.aload_n 0, 1) := by decide +kernel
theorem dX1_fewest_11 : decode cX1_fewest 11 = .ok (.getfield 15, 3) := by decide +kernel
theorem dX1_fewest_14 : decode cX1_fewest 14 = .ok (.iload_n 3, 1) := by decide +kernel
theorem dX1_fewest_15 : decode cX1_fewest 15 = .ok (.invokestatic 38, 3) := by decide +kernel
theorem dX1_fewest_18 : decode cX1_fewest 18 = .ok (.istore 4, 2) := by decide +kernel
theorem dX1_fewest_20 : decode cX1_fewest 20 = .ok (.iload 4, 2) := by decide +kernel
theorem dX1_fewest_22 : decode cX1_fewest 22 = .ok (.iload_n 1, 1) := by decide +kernel
theorem dX1_fewest_23 : decode cX1_fewest 23 = .ok (.aload_n 0, 1) := by decide +kernel
theorem dX1_fewest_24 : decode cX1_fewest 24 = .ok (.getfield 22, 3) := by decide +kernel
theorem dX1_fewest_27 : decode cX1_fewest 27 = .ok (.invokestatic 79, 3) := by decide +kernel
theorem dX1_fewest_30 : decode cX1_fewest 30 = .ok (.iload_n 2, 1) := by decide +kernel
theorem dX1_fewest_31 : decode cX1_fewest 31 = .ok (.if_icmp .ne 13, 3) := by decide +kernel
theorem dX1_fewest_34 : decode cX1_fewest 34 = .ok (.aload_n 0, 1) := by decide +kernel
theorem dX1_fewest_35 : decode cX1_fewest 35 = .ok (.getfield 11, 3) := by decide +kernel
theorem dX1_fewest_38 : decode cX1_fewest 38 = .ok (.iload 4, 2) := by decide +kernel
theorem dX1_fewest_40 : decode cX1_fewest 40 = .ok (.invokestatic 38, 3) := by decide +kernel
theorem dX1_fewest_43 : decode cX1_fewest 43 = .ok (.ireturn, 1) := by decide +kernel
theorem dX1_fewest_44 : decode cX1_fewest 44 = .ok (.iinc 3 1, 3) := by decide +kernel
theorem dX1_fewest_47 : decode cX1_fewest 47 = .ok (.goto (-45), 3) := by decide +kernel
theorem dX1_fewest_50 : decode cX1_fewest 50 = .ok (.bipush (-5), 2) := by decide +kernel
theorem dX1_fewest_52 : decode cX1_fewest 52 = .ok (.ireturn, 1) := by decide +kernel
theorem dX1_reached_0 : decode cX1_reached 0 = .ok (.iconst 0, 1) := by decide +kernel
theorem dX1_reached_1 : decode cX1_reached 1 = .ok (.istore_n 2, 1) := by decide +kernel
theorem dX1_reached_2 : decode cX1_reached 2 = .ok (.iconst 0, 1) := by decide +kernel
theorem dX1_reached_3 : decode cX1_reached 3 = .ok (.istore_n 3, 1) := by decide +kernel
theorem dX1_reached_4 : decode cX1_reached 4 = .ok (.iload_n 3, 1) := by decide +kernel
theorem dX1_reached_5 : decode cX1_reached 5 = .ok (.aload_n 0, 1) := by decide +kernel
theorem dX1_reached_6 : decode cX1_reached 6 = .ok (.getfield 18, 3) := by decide +kernel
theorem dX1_reached_9 : decode cX1_reached 9 = .ok (.if_icmp .ge 41, 3) := by decide +kernel
theorem dX1_reached_12 : decode cX1_reached 12 = .ok (.aload_n 0, 1) := by decide +kernel
theorem dX1_reached_13 : decode cX1_reached 13 = .ok (.getfield 15, 3) := by decide +kernel
theorem dX1_reached_16 : decode cX1_reached 16 = .ok (.iload_n 3, 1) := by decide +kernel
theorem dX1_reached_17 : decode cX1_reached 17 = .ok (.invokestatic 38, 3) := by decide +kernel
theorem dX1_reached_20 : decode cX1_reached 20 = .ok (.iload_n 1, 1) := by decide +kernel
theorem dX1_reached_21 : decode cX1_reached 21 = .ok (.aload_n 0, 1) := by decide +kernel
theorem dX1_reached_22 : decode cX1_reached 22 = .ok (.getfield 22, 3) := by decide +kernel
theorem dX1_reached_25 : decode cX1_reached 25 = .ok (.invokestatic 79, 3) := by decide +kernel
theorem dX1_reached_28 : decode cX1_reached 28 = .ok (.istore 4, 2) := by decide +kernel
theorem dX1_reached_30 : decode cX1_reached 30 = .ok (.iload 4, 2) := by decide +kernel
theorem dX1_reached_32 : decode cX1_reached 32 = .ok (.bipush 7, 2) := by decide +kernel
theorem dX1_reached_34 : decode cX1_reached 34 = .ok (.if_icmp .eq 10, 3) := by decide +kernel
theorem dX1_reached_37 : decode cX1_reached 37 = .ok (.iload_n 2, 1) := by decide +kernel
theorem dX1_reached_38 : decode cX1_reached 38 = .ok (.iconst 1, 1) := by decide +kernel
theorem dX1_reached_39 : decode cX1_reached 39 = .ok (.iload 4, 2) := by decide +kernel
theorem dX1_reached_41 : decode cX1_reached 41 = .ok (.ishl, 1) := by decide +kernel
theorem dX1_reached_42 : decode cX1_reached 42 = .ok (.ior, 1) := by decide +kernel
theorem dX1_reached_43 : decode cX1_reached 43 = .ok (.istore_n 2, 1) := by decide +kernel
theorem dX1_reached_44 : decode cX1_reached 44 = .ok (.iinc 3 1, 3) := by decide +kernel
theorem dX1_reached_47 : decode cX1_reached 47 = .ok (.goto (-43), 3) := by decide +kernel
theorem dX1_reached_50 : decode cX1_reached 50 = .ok (.iload_n 2, 1) := by decide +kernel
theorem dX1_reached_51 : decode cX1_reached 51 = .ok (.ireturn, 1) := by decide +kernel
theorem dX1_best_0 : decode cX1_best 0 = .ok (.bipush (-5), 2) := by decide +kernel
theorem dX1_best_2 : decode cX1_best 2 = .ok (.istore_n 2, 1) := by decide +kernel
theorem dX1_best_3 : decode cX1_best 3 = .ok (.iconst 0, 1) := by decide +kernel
theorem dX1_best_4 : decode cX1_best 4 = .ok (.istore_n 3, 1) := by decide +kernel
theorem dX1_best_5 : decode cX1_best 5 = .ok (.iconst 0, 1) := by decide +kernel
theorem dX1_best_6 : decode cX1_best 6 = .ok (.istore 4, 2) := by decide +kernel
theorem dX1_best_8 : decode cX1_best 8 = .ok (.iload 4, 2) := by decide +kernel
theorem dX1_best_10 : decode cX1_best 10 = .ok (.aload_n 0, 1) := by decide +kernel
theorem dX1_best_11 : decode cX1_best 11 = .ok (.getfield 18, 3) := by decide +kernel
theorem dX1_best_14 : decode cX1_best 14 = .ok (.if_icmp .ge 62, 3) := by decide +kernel
theorem dX1_best_17 : decode cX1_best 17 = .ok (.aload_n 0, 1) := by decide +kernel
theorem dX1_best_18 : decode cX1_best 18 = .ok (.getfield 15, 3) := by decide +kernel
theorem dX1_best_21 : decode cX1_best 21 = .ok (.iload 4, 2) := by decide +kernel
theorem dX1_best_23 : decode cX1_best 23 = .ok (.invokestatic 38, 3) := by decide +kernel
theorem dX1_best_26 : decode cX1_best 26 = .ok (.istore 5, 2) := by decide +kernel
theorem dX1_best_28 : decode cX1_best 28 = .ok (.aload_n 1, 1) := by decide +kernel
theorem dX1_best_29 : decode cX1_best 29 = .ok (.iload 5, 2) := by decide +kernel
theorem dX1_best_31 : decode cX1_best 31 = .ok (.invokevirtual 54, 3) := by decide +kernel
theorem dX1_best_34 : decode cX1_best 34 = .ok (.aload_n 1, 1) := by decide +kernel
theorem dX1_best_35 : decode cX1_best 35 = .ok (.invokevirtual 83, 3) := by decide +kernel
theorem dX1_best_38 : decode cX1_best 38 = .ok (.istore 6, 2) := by decide +kernel
theorem dX1_best_40 : decode cX1_best 40 = .ok (.iload_n 2, 1) := by decide +kernel
theorem dX1_best_41 : decode cX1_best 41 = .ok (.bipush (-5), 2) := by decide +kernel
theorem dX1_best_43 : decode cX1_best 43 = .ok (.if_icmp .eq 21, 3) := by decide +kernel
theorem dX1_best_46 : decode cX1_best 46 = .ok (.iload 6, 2) := by decide +kernel
theorem dX1_best_48 : decode cX1_best 48 = .ok (.iload_n 3, 1) := by decide +kernel
theorem dX1_best_49 : decode cX1_best 49 = .ok (.if_icmp .gt 15, 3) := by decide +kernel
theorem dX1_best_52 : decode cX1_best 52 = .ok (.iload 6, 2) := by decide +kernel
theorem dX1_best_54 : decode cX1_best 54 = .ok (.iload_n 3, 1) := by decide +kernel
theorem dX1_best_55 : decode cX1_best 55 = .ok (.if_icmp .ne 15, 3) := by decide +kernel
theorem dX1_best_58 : decode cX1_best 58 = .ok (.iload 5, 2) := by decide +kernel
theorem dX1_best_60 : decode cX1_best 60 = .ok (.iload_n 2, 1) := by decide +kernel
theorem dX1_best_61 : decode cX1_best 61 = .ok (.if_icmp .ge 9, 3) := by decide +kernel
theorem dX1_best_64 : decode cX1_best 64 = .ok (.iload 5, 2) := by decide +kernel
theorem dX1_best_66 : decode cX1_best 66 = .ok (.istore_n 2, 1) := by decide +kernel
theorem dX1_best_67 : decode cX1_best 67 = .ok (.iload 6, 2) := by decide +kernel
theorem dX1_best_69 : decode cX1_best 69 = .ok (.istore_n 3, 1) := by decide +kernel
theorem dX1_best_70 : decode cX1_best 70 = .ok (.iinc 4 1, 3) := by decide +kernel
theorem dX1_best_73 : decode cX1_best 73 = .ok (.goto (-65), 3) := by decide +kernel
theorem dX1_best_76 : decode cX1_best 76 = .ok (.iload_n 2, 1) := by decide +kernel
theorem dX1_best_77 : decode cX1_best 77 = .ok (.ireturn, 1) := by decide +kernel
theorem dX2_init_0 : decode cX2_init 0 = .ok (.aload_n 0, 1) := by decide +kernel
theorem dX2_init_1 : decode cX2_init 1 = .ok (.invokespecial 3, 3) := by decide +kernel
theorem dX2_init_4 : decode cX2_init 4 = .ok (.aload_n 0, 1) := by decide +kernel
theorem dX2_init_5 : decode cX2_init 5 = .ok (.bipush 100, 2) := by decide +kernel
theorem dX2_init_7 : decode cX2_init 7 = .ok (.newarray .int, 2) := by decide +kernel
theorem dX2_init_9 : decode cX2_init 9 = .ok (.putfield 9, 3) := by decide +kernel
theorem dX2_init_12 : decode cX2_init 12 = .ok (.aload_n 0, 1) := by decide +kernel
theorem dX2_init_13 : decode cX2_init 13 = .ok (.bipush 6, 2) := by decide +kernel
theorem dX2_init_15 : decode cX2_init 15 = .ok (.newarray .int, 2) := by decide +kernel
theorem dX2_init_17 : decode cX2_init 17 = .ok (.putfield 15, 3) := by decide +kernel
theorem dX2_init_20 : decode cX2_init 20 = .ok (.aload_n 0, 1) := by decide +kernel
theorem dX2_init_21 : decode cX2_init 21 = .ok (.bipush 6, 2) := by decide +kernel
theorem dX2_init_23 : decode cX2_init 23 = .ok (.newarray .int, 2) := by decide +kernel
theorem dX2_init_25 : decode cX2_init 25 = .ok (.putfield 18, 3) := by decide +kernel
theorem dX2_init_28 : decode cX2_init 28 = .ok (.aload_n 0, 1) := by decide +kernel
theorem dX2_init_29 : decode cX2_init 29 = .ok (.bipush 6, 2) := by decide +kernel
theorem dX2_init_31 : decode cX2_init 31 = .ok (.newarray .int, 2) := by decide +kernel
theorem dX2_init_33 : decode cX2_init 33 = .ok (.putfield 21, 3) := by decide +kernel
theorem dX2_init_36 : decode cX2_init 36 = .ok (.aload_n 0, 1) := by decide +kernel
theorem dX2_init_37 : decode cX2_init 37 = .ok (.bipush 8, 2) := by decide +kernel
theorem dX2_init_39 : decode cX2_init 39 = .ok (.newarray .int, 2) := by decide +kernel
theorem dX2_init_41 : decode cX2_init 41 = .ok (.putfield 24, 3) := by decide +kernel
theorem dX2_init_44 : decode cX2_init 44 = .ok (.aload_n 0, 1) := by decide +kernel
theorem dX2_init_45 : decode cX2_init 45 = .ok (.bipush 8, 2) := by decide +kernel
theorem dX2_init_47 : decode cX2_init 47 = .ok (.newarray .int, 2) := by decide +kernel
theorem dX2_init_49 : decode cX2_init 49 = .ok (.putfield 27, 3) := by decide +kernel
theorem dX2_init_52 : decode cX2_init 52 = .ok (.aload_n 0, 1) := by decide +kernel
theorem dX2_init_53 : decode cX2_init 53 = .ok (.bipush 8, 2) := by decide +kernel
theorem dX2_init_55 : decode cX2_init 55 = .ok (.newarray .int, 2) := by decide +kernel
theorem dX2_init_57 : decode cX2_init 57 = .ok (.putfield 30, 3) := by decide +kernel
theorem dX2_init_60 : decode cX2_init 60 = .ok (.aload_n 0, 1) := by decide +kernel
theorem dX2_init_61 : decode cX2_init 61 = .ok (.bipush 8, 2) := by decide +kernel
theorem dX2_init_63 : decode cX2_init 63 = .ok (.newarray .int, 2) := by decide +kernel
theorem dX2_init_65 : decode cX2_init 65 = .ok (.putfield 33, 3) := by decide +kernel
theorem dX2_init_68 : decode cX2_init 68 = .ok (.aload_n 0, 1) := by decide +kernel
theorem dX2_init_69 : decode cX2_init 69 = .ok (.iconst 0, 1) := by decide +kernel
theorem dX2_init_70 : decode cX2_init 70 = .ok (.putfield 36, 3) := by decide +kernel
theorem dX2_init_73 : decode cX2_init 73 = .ok (.aload_n 0, 1) := by decide +kernel
theorem dX2_init_74 : decode cX2_init 74 = .ok (.iconst 0, 1) := by decide +kernel
theorem dX2_init_75 : decode cX2_init 75 = .ok (.putfield 40, 3) := by decide +kernel
theorem dX2_init_78 : decode cX2_init 78 = .ok (.aload_n 0, 1) := by decide +kernel
theorem dX2_init_79 : decode cX2_init 79 = .ok (.iconst 0, 1) := by decide +kernel
theorem dX2_init_80 : decode cX2_init 80 = .ok (.putfield 43, 3) := by decide +kernel
theorem dX2_init_83 : decode cX2_init 83 = .ok (.aload_n 0, 1) := by decide +kernel
theorem dX2_init_84 : decode cX2_init 84 = .ok (.iconst 0, 1) := by decide +kernel
theorem dX2_init_85 : decode cX2_init 85 = .ok (.putfield 46, 3) := by decide +kernel
theorem dX2_init_88 : decode cX2_init 88 = .ok (.return_, 1) := by decide +kernel
theorem dX2_copy_0 : decode cX2_copy 0 = .ok (.aload_n 1, 1) := by decide +kernel
theorem dX2_copy_1 : decode cX2_copy 1 = .ok (.getfield 9, 3) := by decide +kernel
theorem dX2_copy_4 : decode cX2_copy 4 = .ok (.aload_n 0, 1) := by decide +kernel
theorem dX2_copy_5 : decode cX2_copy 5 = .ok (.getfield 9, 3) := by decide +kernel
theorem dX2_copy_8 : decode cX2_copy 8 = .ok (.invokestatic 49, 3) := by decide +kernel
theorem dX2_copy_11 : decode cX2_copy 11 = .ok (.aload_n 1, 1) := by decide +kernel
theorem dX2_copy_12 : decode cX2_copy 12 = .ok (.getfield 15, 3) := by decide +kernel
theorem dX2_copy_15 : decode cX2_copy 15 = .ok (.aload_n 0, 1) := by decide +kernel
theorem dX2_copy_16 : decode cX2_copy 16 = .ok (.getfield 15, 3) := by decide +kernel
theorem dX2_copy_19 : decode cX2_copy 19 = .ok (.invokestatic 49, 3) := by decide +kernel
theorem dX2_copy_22 : decode cX2_copy 22 = .ok (.aload_n 1, 1) := by decide +kernel
theorem dX2_copy_23 : decode cX2_copy 23 = .ok (.getfield 18, 3) := by decide +kernel
theorem dX2_copy_26 : decode cX2_copy 26 = .ok (.aload_n 0, 1) := by decide +kernel
theorem dX2_copy_27 : decode cX2_copy 27 = .ok (.getfield 18, 3) := by decide +kernel
theorem dX2_copy_30 : decode cX2_copy 30 = .ok (.invokestatic 49, 3) := by decide +kernel
theorem dX2_copy_33 : decode cX2_copy 33 = .ok (.aload_n 1, 1) := by decide +kernel
theorem dX2_copy_34 : decode cX2_copy 34 = .ok (.getfield 21, 3) := by decide +kernel
theorem dX2_copy_37 : decode cX2_copy 37 = .ok (.aload_n 0, 1) := by decide +kernel
theorem dX2_copy_38 : decode cX2_copy 38 = .ok (.getfield 21, 3) := by decide +kernel
theorem dX2_copy_41 : decode cX2_copy 41 = .ok (.invokestatic 49, 3) := by decide +kernel
theorem dX2_copy_44 : decode cX2_copy 44 = .ok (.aload_n 1, 1) := by decide +kernel
theorem dX2_copy_45 : decode cX2_copy 45 = .ok (.getfield 24, 3) := by decide +kernel
theorem dX2_copy_48 : decode cX2_copy 48 = .ok (.aload_n 0, 1) := by decide +kernel
theorem dX2_copy_49 : decode cX2_copy 49 = .ok (.getfield 24, 3) := by decide +kernel
theorem dX2_copy_52 : decode cX2_copy 52 = .ok (.invokestatic 49, 3) := by decide +kernel
theorem dX2_copy_55 : decode cX2_copy 55 = .ok (.aload_n 1, 1) := by decide +kernel
theorem dX2_copy_56 : decode cX2_copy 56 = .ok (.getfield 27, 3) := by decide +kernel
theorem dX2_copy_59 : decode cX2_copy 59 = .ok (.aload_n 0, 1) := by decide +kernel
theorem dX2_copy_60 : decode cX2_copy 60 = .ok (.getfield 27, 3) := by decide +kernel
theorem dX2_copy_63 : decode cX2_copy 63 = .ok (.invokestatic 49, 3) := by decide +kernel
theorem dX2_copy_66 : decode cX2_copy 66 = .ok (.aload_n 1, 1) := by decide +kernel
theorem dX2_copy_67 : decode cX2_copy 67 = .ok (.getfield 30, 3) := by decide +kernel
theorem dX2_copy_70 : decode cX2_copy 70 = .ok (.aload_n 0, 1) := by decide +kernel
theorem dX2_copy_71 : decode cX2_copy 71 = .ok (.getfield 30, 3) := by decide +kernel
theorem dX2_copy_74 : decode cX2_copy 74 = .ok (.invokestatic 49, 3) := by decide +kernel
theorem dX2_copy_77 : decode cX2_copy 77 = .ok (.aload_n 1, 1) := by decide +kernel
theorem dX2_copy_78 : decode cX2_copy 78 = .ok (.getfield 33, 3) := by decide +kernel
theorem dX2_copy_81 : decode cX2_copy 81 = .ok (.aload_n 0, 1) := by decide +kernel
theorem dX2_copy_82 : decode cX2_copy 82 = .ok (.getfield 33, 3) := by decide +kernel
theorem dX2_copy_85 : decode cX2_copy 85 = .ok (.invokestatic 49, 3) := by decide +kernel
theorem dX2_copy_88 : decode cX2_copy 88 = .ok (.aload_n 0, 1) := by decide +kernel
theorem dX2_copy_89 : decode cX2_copy 89 = .ok (.aload_n 1, 1) := by decide +kernel
theorem dX2_copy_90 : decode cX2_copy 90 = .ok (.getfield 36, 3) := by decide +kernel
theorem dX2_copy_93 : decode cX2_copy 93 = .ok (.putfield 36, 3) := by decide +kernel
theorem dX2_copy_96 : decode cX2_copy 96 = .ok (.aload_n 0, 1) := by decide +kernel
theorem dX2_copy_97 : decode cX2_copy 97 = .ok (.aload_n 1, 1) := by decide +kernel
theorem dX2_copy_98 : decode cX2_copy 98 = .ok (.getfield 40, 3) := by decide +kernel
theorem dX2_copy_101 : decode cX2_copy 101 = .ok (.putfield 40, 3) := by decide +kernel
theorem dX2_copy_104 : decode cX2_copy 104 = .ok (.aload_n 0, 1) := by decide +kernel
theorem dX2_copy_105 : decode cX2_copy 105 = .ok (.aload_n 1, 1) := by decide +kernel
theorem dX2_copy_106 : decode cX2_copy 106 = .ok (.getfield 43, 3) := by decide +kernel
theorem dX2_copy_109 : decode cX2_copy 109 = .ok (.putfield 43, 3) := by decide +kernel
theorem dX2_copy_112 : decode cX2_copy 112 = .ok (.aload_n 0, 1) := by decide +kernel
theorem dX2_copy_113 : decode cX2_copy 113 = .ok (.aload_n 1, 1) := by decide +kernel
theorem dX2_copy_114 : decode cX2_copy 114 = .ok (.getfield 46, 3) := by decide +kernel
theorem dX2_copy_117 : decode cX2_copy 117 = .ok (.putfield 46, 3) := by decide +kernel
theorem dX2_copy_120 : decode cX2_copy 120 = .ok (.return_, 1) := by decide +kernel
theorem dX3_init_0 : decode cX3_init 0 = .ok (.aload_n 0, 1) := by decide +kernel
theorem dX3_init_1 : decode cX3_init 1 = .ok (.invokespecial 3, 3) := by decide +kernel
theorem dX3_init_4 : decode cX3_init 4 = .ok (.aload_n 0, 1) := by decide +kernel
theorem dX3_init_5 : decode cX3_init 5 = .ok (.iconst 0, 1) := by decide +kernel
theorem dX3_init_6 : decode cX3_init 6 = .ok (.putfield 9, 3) := by decide +kernel
theorem dX3_init_9 : decode cX3_init 9 = .ok (.aload_n 0, 1) := by decide +kernel
theorem dX3_init_10 : decode cX3_init 10 = .ok (.iconst 0, 1) := by decide +kernel
theorem dX3_init_11 : decode cX3_init 11 = .ok (.putfield 15, 3) := by decide +kernel
theorem dX3_init_14 : decode cX3_init 14 = .ok (.aload_n 0, 1) := by decide +kernel
theorem dX3_init_15 : decode cX3_init 15 = .ok (.aload_n 1, 1) := by decide +kernel
theorem dX3_init_16 : decode cX3_init 16 = .ok (.putfield 18, 3) := by decide +kernel
theorem dX3_init_19 : decode cX3_init 19 = .ok (.aload_n 0, 1) := by decide +kernel
theorem dX3_init_20 : decode cX3_init 20 = .ok (.iload_n 2, 1) := by decide +kernel
theorem dX3_init_21 : decode cX3_init 21 = .ok (.putfield 22, 3) := by decide +kernel
theorem dX3_init_24 : decode cX3_init 24 = .ok (.aload_n 0, 1) := by decide +kernel
theorem dX3_init_25 : decode cX3_init 25 = .ok (.aload_n 3, 1) := by decide +kernel
theorem dX3_init_26 : decode cX3_init 26 = .ok (.putfield 25, 3) := by decide +kernel
theorem dX3_init_29 : decode cX3_init 29 = .ok (.return_, 1) := by decide +kernel
theorem dX3_clauses_0 : decode cX3_clauses 0 = .ok (.iconst 1, 1) := by decide +kernel
theorem dX3_clauses_1 : decode cX3_clauses 1 = .ok (.istore_n 1, 1) := by decide +kernel
theorem dX3_clauses_2 : decode cX3_clauses 2 = .ok (.iload_n 1, 1) := by decide +kernel
theorem dX3_clauses_3 : decode cX3_clauses 3 = .ok (.bipush 10, 2) := by decide +kernel
theorem dX3_clauses_5 : decode cX3_clauses 5 = .ok (.if_icmp .gt 48, 3) := by decide +kernel
theorem dX3_clauses_8 : decode cX3_clauses 8 = .ok (.aload_n 0, 1) := by decide +kernel
theorem dX3_clauses_9 : decode cX3_clauses 9 = .ok (.invokevirtual 29, 3) := by decide +kernel
theorem dX3_clauses_12 : decode cX3_clauses 12 = .ok (.ifCond .ne 5, 3) := by decide +kernel
theorem dX3_clauses_15 : decode cX3_clauses 15 = .ok (.iconst 0, 1) := by decide +kernel
theorem dX3_clauses_16 : decode cX3_clauses 16 = .ok (.ireturn, 1) := by decide +kernel
theorem dX3_clauses_17 : decode cX3_clauses 17 = .ok (.aload_n 0, 1) := by decide +kernel
theorem dX3_clauses_18 : decode cX3_clauses 18 = .ok (.getfield 9, 3) := by decide +kernel
theorem dX3_clauses_21 : decode cX3_clauses 21 = .ok (.aload_n 0, 1) := by decide +kernel
theorem dX3_clauses_22 : decode cX3_clauses 22 = .ok (.getfield 22, 3) := by decide +kernel
theorem dX3_clauses_25 : decode cX3_clauses 25 = .ok (.if_icmp .ne 5, 3) := by decide +kernel
theorem dX3_clauses_28 : decode cX3_clauses 28 = .ok (.iconst 1, 1) := by decide +kernel
theorem dX3_clauses_29 : decode cX3_clauses 29 = .ok (.ireturn, 1) := by decide +kernel
theorem dX3_clauses_30 : decode cX3_clauses 30 = .ok (.iload_n 1, 1) := by decide +kernel
theorem dX3_clauses_31 : decode cX3_clauses 31 = .ok (.bipush 10, 2) := by decide +kernel
theorem dX3_clauses_33 : decode cX3_clauses 33 = .ok (.if_icmp .eq 12, 3) := by decide +kernel
theorem dX3_clauses_36 : decode cX3_clauses 36 = .ok (.aload_n 0, 1) := by decide +kernel
theorem dX3_clauses_37 : decode cX3_clauses 37 = .ok (.bipush 59, 2) := by decide +kernel
theorem dX3_clauses_39 : decode cX3_clauses 39 = .ok (.invokevirtual 33, 3) := by decide +kernel
theorem dX3_clauses_42 : decode cX3_clauses 42 = .ok (.ifCond .ne 5, 3) := by decide +kernel
theorem dX3_clauses_45 : decode cX3_clauses 45 = .ok (.iconst 0, 1) := by decide +kernel
theorem dX3_clauses_46 : decode cX3_clauses 46 = .ok (.ireturn, 1) := by decide +kernel
theorem dX3_clauses_47 : decode cX3_clauses 47 = .ok (.iinc 1 1, 3) := by decide +kernel
theorem dX3_clauses_50 : decode cX3_clauses 50 = .ok (.goto (-48), 3) := by decide +kernel
theorem dX3_clauses_53 : decode cX3_clauses 53 = .ok (.iconst 0, 1) := by decide +kernel
theorem dX3_clauses_54 : decode cX3_clauses 54 = .ok (.ireturn, 1) := by decide +kernel
theorem dX3_clause_0 : decode cX3_clause 0 = .ok (.aload_n 0, 1) := by decide +kernel
theorem dX3_clause_1 : decode cX3_clause 1 = .ok (.invokevirtual 37, 3) := by decide +kernel
theorem dX3_clause_4 : decode cX3_clause 4 = .ok (.bipush 108, 2) := by decide +kernel
theorem dX3_clause_6 : decode cX3_clause 6 = .ok (.if_icmp .ne 7, 3) := by decide +kernel
theorem dX3_clause_9 : decode cX3_clause 9 = .ok (.iconst 1, 1) := by decide +kernel
theorem dX3_clause_10 : decode cX3_clause 10 = .ok (.goto 4, 3) := by decide +kernel
theorem dX3_clause_13 : decode cX3_clause 13 = .ok (.iconst 0, 1) := by decide +kernel
theorem dX3_clause_14 : decode cX3_clause 14 = .ok (.istore_n 1, 1) := by decide +kernel
theorem dX3_clause_15 : decode cX3_clause 15 = .ok (.iload_n 1, 1) := by decide +kernel
theorem dX3_clause_16 : decode cX3_clause 16 = .ok (.ifCond .ne 12, 3) := by decide +kernel
theorem dX3_clause_19 : decode cX3_clause 19 = .ok (.aload_n 0, 1) := by decide +kernel
theorem dX3_clause_20 : decode cX3_clause 20 = .ok (.invokevirtual 37, 3) := by decide +kernel
theorem dX3_clause_23 : decode cX3_clause 23 = .ok (.bipush 98, 2) := by decide +kernel
theorem dX3_clause_25 : decode cX3_clause 25 = .ok (.if_icmp .ne 77, 3) := by decide +kernel
theorem dX3_clause_28 : decode cX3_clause 28 = .ok (.aload_n 0, 1) := by decide +kernel
theorem dX3_clause_29 : decode cX3_clause 29 = .ok (.iload_n 1, 1) := by decide +kernel
theorem dX3_clause_30 : decode cX3_clause 30 = .ok (.ifCond .eq 8, 3) := by decide +kernel
theorem dX3_clause_33 : decode cX3_clause 33 = .ok (.ldc 41, 2) := by decide +kernel
theorem dX3_clause_35 : decode cX3_clause 35 = .ok (.goto 5, 3) := by decide +kernel
theorem dX3_clause_38 : decode cX3_clause 38 = .ok (.ldc 43, 2) := by decide +kernel
theorem dX3_clause_40 : decode cX3_clause 40 = .ok (.invokevirtual 45, 3) := by decide +kernel
theorem dX3_clause_43 : decode cX3_clause 43 = .ok (.ifCond .eq 10, 3) := by decide +kernel
theorem dX3_clause_46 : decode cX3_clause 46 = .ok (.aload_n 0, 1) := by decide +kernel
theorem dX3_clause_47 : decode cX3_clause 47 = .ok (.invokevirtual 49, 3) := by decide +kernel
theorem dX3_clause_50 : decode cX3_clause 50 = .ok (.ifCond .ne 5, 3) := by decide +kernel
theorem dX3_clause_53 : decode cX3_clause 53 = .ok (.iconst 0, 1) := by decide +kernel
theorem dX3_clause_54 : decode cX3_clause 54 = .ok (.ireturn, 1) := by decide +kernel
theorem dX3_clause_55 : decode cX3_clause 55 = .ok (.iload_n 1, 1) := by decide +kernel
theorem dX3_clause_56 : decode cX3_clause 56 = .ok (.ifCond .eq 10, 3) := by decide +kernel
theorem dX3_clause_59 : decode cX3_clause 59 = .ok (.aload_n 0, 1) := by decide +kernel
theorem dX3_clause_60 : decode cX3_clause 60 = .ok (.getfield 15, 3) := by decide +kernel
theorem dX3_clause_63 : decode cX3_clause 63 = .ok (.goto 8, 3) := by decide +kernel
theorem dX3_clause_66 : decode cX3_clause 66 = .ok (.aload_n 0, 1) := by decide +kernel
theorem dX3_clause_67 : decode cX3_clause 67 = .ok (.getfield 15, 3) := by decide +kernel
theorem dX3_clause_70 : decode cX3_clause 70 = .ok (.ineg, 1) := by decide +kernel
theorem dX3_clause_71 : decode cX3_clause 71 = .ok (.istore_n 2, 1) := by decide +kernel
theorem dX3_clause_72 : decode cX3_clause 72 = .ok (.aload_n 0, 1) := by decide +kernel
theorem dX3_clause_73 : decode cX3_clause 73 = .ok (.bipush 32, 2) := by decide +kernel
theorem dX3_clause_75 : decode cX3_clause 75 = .ok (.invokevirtual 33, 3) := by decide +kernel
theorem dX3_clause_78 : decode cX3_clause 78 = .ok (.ifCond .eq 12, 3) := by decide +kernel
theorem dX3_clause_81 : decode cX3_clause 81 = .ok (.aload_n 0, 1) := by decide +kernel
theorem dX3_clause_82 : decode cX3_clause 82 = .ok (.iconst 0, 1) := by decide +kernel
theorem dX3_clause_83 : decode cX3_clause 83 = .ok (.iconst 0, 1) := by decide +kernel
theorem dX3_clause_84 : decode cX3_clause 84 = .ok (.invokestatic 51, 3) := by decide +kernel
theorem dX3_clause_87 : decode cX3_clause 87 = .ok (.ifCond .ne 5, 3) := by decide +kernel
theorem dX3_clause_90 : decode cX3_clause 90 = .ok (.iconst 0, 1) := by decide +kernel
theorem dX3_clause_91 : decode cX3_clause 91 = .ok (.ireturn, 1) := by decide +kernel
theorem dX3_clause_92 : decode cX3_clause 92 = .ok (.aload_n 0, 1) := by decide +kernel
theorem dX3_clause_93 : decode cX3_clause 93 = .ok (.getfield 25, 3) := by decide +kernel
theorem dX3_clause_96 : decode cX3_clause 96 = .ok (.iload_n 2, 1) := by decide +kernel
theorem dX3_clause_97 : decode cX3_clause 97 = .ok (.invokevirtual 55, 3) := by decide +kernel
theorem dX3_clause_100 : decode cX3_clause 100 = .ok (.iconst 1, 1) := by decide +kernel
theorem dX3_clause_101 : decode cX3_clause 101 = .ok (.ireturn, 1) := by decide +kernel
theorem dX3_clause_102 : decode cX3_clause 102 = .ok (.aload_n 0, 1) := by decide +kernel
theorem dX3_clause_103 : decode cX3_clause 103 = .ok (.invokevirtual 37, 3) := by decide +kernel
theorem dX3_clause_106 : decode cX3_clause 106 = .ok (.bipush 103, 2) := by decide +kernel
theorem dX3_clause_108 : decode cX3_clause 108 = .ok (.if_icmp .ne 7, 3) := by decide +kernel
theorem dX3_clause_111 : decode cX3_clause 111 = .ok (.iconst 1, 1) := by decide +kernel
theorem dX3_clause_112 : decode cX3_clause 112 = .ok (.goto 4, 3) := by decide +kernel
theorem dX3_clause_115 : decode cX3_clause 115 = .ok (.iconst 0, 1) := by decide +kernel
theorem dX3_clause_116 : decode cX3_clause 116 = .ok (.istore_n 2, 1) := by decide +kernel
theorem dX3_clause_117 : decode cX3_clause 117 = .ok (.aload_n 0, 1) := by decide +kernel
theorem dX3_clause_118 : decode cX3_clause 118 = .ok (.iload_n 2, 1) := by decide +kernel
theorem dX3_clause_119 : decode cX3_clause 119 = .ok (.ifCond .eq 8, 3) := by decide +kernel
theorem dX3_clause_122 : decode cX3_clause 122 = .ok (.ldc 61, 2) := by decide +kernel
theorem dX3_clause_124 : decode cX3_clause 124 = .ok (.goto 5, 3) := by decide +kernel
theorem dX3_clause_127 : decode cX3_clause 127 = .ok (.ldc 63, 2) := by decide +kernel
theorem dX3_clause_129 : decode cX3_clause 129 = .ok (.invokevirtual 45, 3) := by decide +kernel
theorem dX3_clause_132 : decode cX3_clause 132 = .ok (.ifCond .eq 10, 3) := by decide +kernel
theorem dX3_clause_135 : decode cX3_clause 135 = .ok (.aload_n 0, 1) := by decide +kernel
theorem dX3_clause_136 : decode cX3_clause 136 = .ok (.invokevirtual 49, 3) := by decide +kernel
theorem dX3_clause_139 : decode cX3_clause 139 = .ok (.ifCond .ne 5, 3) := by decide +kernel
theorem dX3_clause_142 : decode cX3_clause 142 = .ok (.iconst 0, 1) := by decide +kernel
theorem dX3_clause_143 : decode cX3_clause 143 = .ok (.ireturn, 1) := by decide +kernel
theorem dX3_clause_144 : decode cX3_clause 144 = .ok (.iload_n 2, 1) := by decide +kernel
theorem dX3_clause_145 : decode cX3_clause 145 = .ok (.ifCond .eq 17, 3) := by decide +kernel
theorem dX3_clause_148 : decode cX3_clause 148 = .ok (.aload_n 0, 1) := by decide +kernel
theorem dX3_clause_149 : decode cX3_clause 149 = .ok (.getfield 25, 3) := by decide +kernel
theorem dX3_clause_152 : decode cX3_clause 152 = .ok (.aload_n 0, 1) := by decide +kernel
theorem dX3_clause_153 : decode cX3_clause 153 = .ok (.getfield 15, 3) := by decide +kernel
theorem dX3_clause_156 : decode cX3_clause 156 = .ok (.putfield 65, 3) := by decide +kernel
theorem dX3_clause_159 : decode cX3_clause 159 = .ok (.goto 18, 3) := by decide +kernel
theorem dX3_clause_162 : decode cX3_clause 162 = .ok (.aload_n 0, 1) := by decide +kernel
theorem dX3_clause_163 : decode cX3_clause 163 = .ok (.getfield 25, 3) := by decide +kernel
theorem dX3_clause_166 : decode cX3_clause 166 = .ok (.iconst 1, 1) := by decide +kernel
theorem dX3_clause_167 : decode cX3_clause 167 = .ok (.aload_n 0, 1) := by decide +kernel
theorem dX3_clause_168 : decode cX3_clause 168 = .ok (.getfield 15, 3) := by decide +kernel
theorem dX3_clause_171 : decode cX3_clause 171 = .ok (.invokestatic 68, 3) := by decide +kernel
theorem dX3_clause_174 : decode cX3_clause 174 = .ok (.putfield 74, 3) := by decide +kernel
theorem dX3_clause_177 : decode cX3_clause 177 = .ok (.iconst 1, 1) := by decide +kernel
theorem dX3_clause_178 : decode cX3_clause 178 = .ok (.ireturn, 1) := by decide +kernel
theorem dX3_joined_0 : decode cX3_joined 0 = .ok (.iconst 0, 1) := by decide +kernel
theorem dX3_joined_1 : decode cX3_joined 1 = .ok (.istore_n 3, 1) := by decide +kernel
theorem dX3_joined_2 : decode cX3_joined 2 = .ok (.iload_n 3, 1) := by decide +kernel
theorem dX3_joined_3 : decode cX3_joined 3 = .ok (.bipush 100, 2) := by decide +kernel
theorem dX3_joined_5 : decode cX3_joined 5 = .ok (.if_icmp .ge 78, 3) := by decide +kernel
theorem dX3_joined_8 : decode cX3_joined 8 = .ok (.iload_n 1, 1) := by decide +kernel
theorem dX3_joined_9 : decode cX3_joined 9 = .ok (.ifCond .ne 12, 3) := by decide +kernel
theorem dX3_joined_12 : decode cX3_joined 12 = .ok (.aload_n 0, 1) := by decide +kernel
theorem dX3_joined_13 : decode cX3_joined 13 = .ok (.iconst 1, 1) := by decide +kernel
theorem dX3_joined_14 : decode cX3_joined 14 = .ok (.iload_n 2, 1) := by decide +kernel
theorem dX3_joined_15 : decode cX3_joined 15 = .ok (.invokestatic 51, 3) := by decide +kernel
theorem dX3_joined_18 : decode cX3_joined 18 = .ok (.goto 8, 3) := by decide +kernel
theorem dX3_joined_21 : decode cX3_joined 21 = .ok (.aload_n 0, 1) := by decide +kernel
theorem dX3_joined_22 : decode cX3_joined 22 = .ok (.iload_n 2, 1) := by decide +kernel
theorem dX3_joined_23 : decode cX3_joined 23 = .ok (.invokestatic 77, 3) := by decide +kernel
theorem dX3_joined_26 : decode cX3_joined 26 = .ok (.istore 4, 2) := by decide +kernel
theorem dX3_joined_28 : decode cX3_joined 28 = .ok (.iload 4, 2) := by decide +kernel
theorem dX3_joined_30 : decode cX3_joined 30 = .ok (.ifCond .ne 5, 3) := by decide +kernel
theorem dX3_joined_33 : decode cX3_joined 33 = .ok (.iconst 0, 1) := by decide +kernel
theorem dX3_joined_34 : decode cX3_joined 34 = .ok (.ireturn, 1) := by decide +kernel
theorem dX3_joined_35 : decode cX3_joined 35 = .ok (.iload_n 3, 1) := by decide +kernel
theorem dX3_joined_36 : decode cX3_joined 36 = .ok (.ifCond .le 21, 3) := by decide +kernel
theorem dX3_joined_39 : decode cX3_joined 39 = .ok (.aload_n 0, 1) := by decide +kernel
theorem dX3_joined_40 : decode cX3_joined 40 = .ok (.getfield 25, 3) := by decide +kernel
theorem dX3_joined_43 : decode cX3_joined 43 = .ok (.iload_n 1, 1) := by decide +kernel
theorem dX3_joined_44 : decode cX3_joined 44 = .ok (.ifCond .ne 8, 3) := by decide +kernel
theorem dX3_joined_47 : decode cX3_joined 47 = .ok (.bipush (-3), 2) := by decide +kernel
theorem dX3_joined_49 : decode cX3_joined 49 = .ok (.goto 5, 3) := by decide +kernel
theorem dX3_joined_52 : decode cX3_joined 52 = .ok (.bipush (-2), 2) := by decide +kernel
theorem dX3_joined_54 : decode cX3_joined 54 = .ok (.invokevirtual 81, 3) := by decide +kernel
theorem dX3_joined_57 : decode cX3_joined 57 = .ok (.aload_n 0, 1) := by decide +kernel
theorem dX3_joined_58 : decode cX3_joined 58 = .ok (.iload_n 1, 1) := by decide +kernel
theorem dX3_joined_59 : decode cX3_joined 59 = .ok (.ifCond .ne 8, 3) := by decide +kernel
theorem dX3_joined_62 : decode cX3_joined 62 = .ok (.bipush 124, 2) := by decide +kernel
theorem dX3_joined_64 : decode cX3_joined 64 = .ok (.goto 5, 3) := by decide +kernel
theorem dX3_joined_67 : decode cX3_joined 67 = .ok (.bipush 38, 2) := by decide +kernel
theorem dX3_joined_69 : decode cX3_joined 69 = .ok (.invokevirtual 33, 3) := by decide +kernel
theorem dX3_joined_72 : decode cX3_joined 72 = .ok (.ifCond .ne 5, 3) := by decide +kernel
theorem dX3_joined_75 : decode cX3_joined 75 = .ok (.iconst 1, 1) := by decide +kernel
theorem dX3_joined_76 : decode cX3_joined 76 = .ok (.ireturn, 1) := by decide +kernel
theorem dX3_joined_77 : decode cX3_joined 77 = .ok (.iinc 3 1, 3) := by decide +kernel
theorem dX3_joined_80 : decode cX3_joined 80 = .ok (.goto (-78), 3) := by decide +kernel
theorem dX3_joined_83 : decode cX3_joined 83 = .ok (.iconst 0, 1) := by decide +kernel
theorem dX3_joined_84 : decode cX3_joined 84 = .ok (.ireturn, 1) := by decide +kernel
theorem dX3_single_0 : decode cX3_single 0 = .ok (.aload_n 0, 1) := by decide +kernel
theorem dX3_single_1 : decode cX3_single 1 = .ok (.invokevirtual 37, 3) := by decide +kernel
theorem dX3_single_4 : decode cX3_single 4 = .ok (.istore_n 2, 1) := by decide +kernel
theorem dX3_single_5 : decode cX3_single 5 = .ok (.iload_n 2, 1) := by decide +kernel
theorem dX3_single_6 : decode cX3_single 6 = .ok (.bipush 33, 2) := by decide +kernel
theorem dX3_single_8 : decode cX3_single 8 = .ok (.if_icmp .eq 14, 3) := by decide +kernel
theorem dX3_single_11 : decode cX3_single 11 = .ok (.iload_n 2, 1) := by decide +kernel
theorem dX3_single_12 : decode cX3_single 12 = .ok (.bipush 40, 2) := by decide +kernel
theorem dX3_single_14 : decode cX3_single 14 = .ok (.if_icmp .eq 8, 3) := by decide +kernel
theorem dX3_single_17 : decode cX3_single 17 = .ok (.aload_n 0, 1) := by decide +kernel
theorem dX3_single_18 : decode cX3_single 18 = .ok (.invokevirtual 84, 3) := by decide +kernel
theorem dX3_single_21 : decode cX3_single 21 = .ok (.ireturn, 1) := by decide +kernel
theorem dX3_single_22 : decode cX3_single 22 = .ok (.iload_n 1, 1) := by decide +kernel
theorem dX3_single_23 : decode cX3_single 23 = .ok (.iconst 5, 1) := by decide +kernel
theorem dX3_single_24 : decode cX3_single 24 = .ok (.if_icmp .lt 5, 3) := by decide +kernel
theorem dX3_single_27 : decode cX3_single 27 = .ok (.iconst 0, 1) := by decide +kernel
theorem dX3_single_28 : decode cX3_single 28 = .ok (.ireturn, 1) := by decide +kernel
theorem dX3_single_29 : decode cX3_single 29 = .ok (.aload_n 0, 1) := by decide +kernel
theorem dX3_single_30 : decode cX3_single 30 = .ok (.dup, 1) := by decide +kernel
theorem dX3_single_31 : decode cX3_single 31 = .ok (.getfield 9, 3) := by decide +kernel
theorem dX3_single_34 : decode cX3_single 34 = .ok (.iconst 1, 1) := by decide +kernel
theorem dX3_single_35 : decode cX3_single 35 = .ok (.iadd, 1) := by decide +kernel
theorem dX3_single_36 : decode cX3_single 36 = .ok (.putfield 9, 3) := by decide +kernel
theorem dX3_single_39 : decode cX3_single 39 = .ok (.iload_n 2, 1) := by decide +kernel
theorem dX3_single_40 : decode cX3_single 40 = .ok (.bipush 40, 2) := by decide +kernel
theorem dX3_single_42 : decode cX3_single 42 = .ok (.if_icmp .ne 29, 3) := by decide +kernel
theorem dX3_single_45 : decode cX3_single 45 = .ok (.aload_n 0, 1) := by decide +kernel
theorem dX3_single_46 : decode cX3_single 46 = .ok (.iconst 0, 1) := by decide +kernel
theorem dX3_single_47 : decode cX3_single 47 = .ok (.iload_n 1, 1) := by decide +kernel
theorem dX3_single_48 : decode cX3_single 48 = .ok (.iconst 1, 1) := by decide +kernel
theorem dX3_single_49 : decode cX3_single 49 = .ok (.iadd, 1) := by decide +kernel
theorem dX3_single_50 : decode cX3_single 50 = .ok (.invokestatic 51, 3) := by decide +kernel
theorem dX3_single_53 : decode cX3_single 53 = .ok (.ifCond .eq 16, 3) := by decide +kernel
theorem dX3_single_56 : decode cX3_single 56 = .ok (.aload_n 0, 1) := by decide +kernel
theorem dX3_single_57 : decode cX3_single 57 = .ok (.bipush 41, 2) := by decide +kernel
theorem dX3_single_59 : decode cX3_single 59 = .ok (.invokevirtual 33, 3) := by decide +kernel
theorem dX3_single_62 : decode cX3_single 62 = .ok (.ifCond .eq 7, 3) := by decide +kernel
theorem dX3_single_65 : decode cX3_single 65 = .ok (.iconst 1, 1) := by decide +kernel
theorem dX3_single_66 : decode cX3_single 66 = .ok (.goto 4, 3) := by decide +kernel
theorem dX3_single_69 : decode cX3_single 69 = .ok (.iconst 0, 1) := by decide +kernel
theorem dX3_single_70 : decode cX3_single 70 = .ok (.ireturn, 1) := by decide +kernel
theorem dX3_single_71 : decode cX3_single 71 = .ok (.aload_n 0, 1) := by decide +kernel
theorem dX3_single_72 : decode cX3_single 72 = .ok (.iload_n 1, 1) := by decide +kernel
theorem dX3_single_73 : decode cX3_single 73 = .ok (.iconst 1, 1) := by decide +kernel
theorem dX3_single_74 : decode cX3_single 74 = .ok (.iadd, 1) := by decide +kernel
theorem dX3_single_75 : decode cX3_single 75 = .ok (.invokestatic 77, 3) := by decide +kernel
theorem dX3_single_78 : decode cX3_single 78 = .ok (.ifCond .ne 5, 3) := by decide +kernel
theorem dX3_single_81 : decode cX3_single 81 = .ok (.iconst 0, 1) := by decide +kernel
theorem dX3_single_82 : decode cX3_single 82 = .ok (.ireturn, 1) := by decide +kernel
theorem dX3_single_83 : decode cX3_single 83 = .ok (.aload_n 0, 1) := by decide +kernel
theorem dX3_single_84 : decode cX3_single 84 = .ok (.getfield 25, 3) := by decide +kernel
theorem dX3_single_87 : decode cX3_single 87 = .ok (.iconst (-1), 1) := by decide +kernel
theorem dX3_single_88 : decode cX3_single 88 = .ok (.invokevirtual 81, 3) := by decide +kernel
theorem dX3_single_91 : decode cX3_single 91 = .ok (.iconst 1, 1) := by decide +kernel
theorem dX3_single_92 : decode cX3_single 92 = .ok (.ireturn, 1) := by decide +kernel
theorem dX3_testing_0 : decode cX3_testing 0 = .ok (.aload_n 0, 1) := by decide +kernel
theorem dX3_testing_1 : decode cX3_testing 1 = .ok (.invokevirtual 37, 3) := by decide +kernel
theorem dX3_testing_4 : decode cX3_testing 4 = .ok (.invokestatic 87, 3) := by decide +kernel
theorem dX3_testing_7 : decode cX3_testing 7 = .ok (.istore_n 1, 1) := by decide +kernel
theorem dX3_testing_8 : decode cX3_testing 8 = .ok (.iload_n 1, 1) := by decide +kernel
theorem dX3_testing_9 : decode cX3_testing 9 = .ok (.bipush (-5), 2) := by decide +kernel
theorem dX3_testing_11 : decode cX3_testing 11 = .ok (.if_icmp .ne 5, 3) := by decide +kernel
theorem dX3_testing_14 : decode cX3_testing 14 = .ok (.iconst 0, 1) := by decide +kernel
theorem dX3_testing_15 : decode cX3_testing 15 = .ok (.ireturn, 1) := by decide +kernel
theorem dX3_testing_16 : decode cX3_testing 16 = .ok (.aload_n 0, 1) := by decide +kernel
theorem dX3_testing_17 : decode cX3_testing 17 = .ok (.dup, 1) := by decide +kernel
theorem dX3_testing_18 : decode cX3_testing 18 = .ok (.getfield 9, 3) := by decide +kernel
theorem dX3_testing_21 : decode cX3_testing 21 = .ok (.iconst 1, 1) := by decide +kernel
theorem dX3_testing_22 : decode cX3_testing 22 = .ok (.iadd, 1) := by decide +kernel
theorem dX3_testing_23 : decode cX3_testing 23 = .ok (.putfield 9, 3) := by decide +kernel
theorem dX3_testing_26 : decode cX3_testing 26 = .ok (.aload_n 0, 1) := by decide +kernel
theorem dX3_testing_27 : decode cX3_testing 27 = .ok (.invokevirtual 37, 3) := by decide +kernel
theorem dX3_testing_30 : decode cX3_testing 30 = .ok (.invokestatic 91, 3) := by decide +kernel
theorem dX3_testing_33 : decode cX3_testing 33 = .ok (.istore_n 2, 1) := by decide +kernel
theorem dX3_testing_34 : decode cX3_testing 34 = .ok (.iload_n 2, 1) := by decide +kernel
theorem dX3_testing_35 : decode cX3_testing 35 = .ok (.bipush (-5), 2) := by decide +kernel
theorem dX3_testing_37 : decode cX3_testing 37 = .ok (.if_icmp .ne 5, 3) := by decide +kernel
theorem dX3_testing_40 : decode cX3_testing 40 = .ok (.iconst 0, 1) := by decide +kernel
theorem dX3_testing_41 : decode cX3_testing 41 = .ok (.ireturn, 1) := by decide +kernel
theorem dX3_testing_42 : decode cX3_testing 42 = .ok (.aload_n 0, 1) := by decide +kernel
theorem dX3_testing_43 : decode cX3_testing 43 = .ok (.dup, 1) := by decide +kernel
theorem dX3_testing_44 : decode cX3_testing 44 = .ok (.getfield 9, 3) := by decide +kernel
theorem dX3_testing_47 : decode cX3_testing 47 = .ok (.iconst 1, 1) := by decide +kernel
theorem dX3_testing_48 : decode cX3_testing 48 = .ok (.iadd, 1) := by decide +kernel
theorem dX3_testing_49 : decode cX3_testing 49 = .ok (.putfield 9, 3) := by decide +kernel
theorem dX3_testing_52 : decode cX3_testing 52 = .ok (.aload_n 0, 1) := by decide +kernel
theorem dX3_testing_53 : decode cX3_testing 53 = .ok (.invokevirtual 49, 3) := by decide +kernel
theorem dX3_testing_56 : decode cX3_testing 56 = .ok (.ifCond .ne 5, 3) := by decide +kernel
theorem dX3_testing_59 : decode cX3_testing 59 = .ok (.iconst 0, 1) := by decide +kernel
theorem dX3_testing_60 : decode cX3_testing 60 = .ok (.ireturn, 1) := by decide +kernel
theorem dX3_testing_61 : decode cX3_testing 61 = .ok (.aload_n 0, 1) := by decide +kernel
theorem dX3_testing_62 : decode cX3_testing 62 = .ok (.getfield 25, 3) := by decide +kernel
theorem dX3_testing_65 : decode cX3_testing 65 = .ok (.iload_n 1, 1) := by decide +kernel
theorem dX3_testing_66 : decode cX3_testing 66 = .ok (.iload_n 2, 1) := by decide +kernel
theorem dX3_testing_67 : decode cX3_testing 67 = .ok (.aload_n 0, 1) := by decide +kernel
theorem dX3_testing_68 : decode cX3_testing 68 = .ok (.getfield 15, 3) := by decide +kernel
theorem dX3_testing_71 : decode cX3_testing 71 = .ok (.invokestatic 94, 3) := by decide +kernel
theorem dX3_testing_74 : decode cX3_testing 74 = .ok (.invokevirtual 81, 3) := by decide +kernel
theorem dX3_testing_77 : decode cX3_testing 77 = .ok (.iconst 1, 1) := by decide +kernel
theorem dX3_testing_78 : decode cX3_testing 78 = .ok (.ireturn, 1) := by decide +kernel
theorem dX3_letter_0 : decode cX3_letter 0 = .ok (.iload_n 0, 1) := by decide +kernel
theorem dX3_letter_1 : decode cX3_letter 1 = .ok (.lookupswitch 71 #[(98, 65), (100, 69), (107, 61), (114, 59), (116, 67), (118, 63)], 59) := by decide +kernel
theorem dX3_letter_60 : decode cX3_letter 60 = .ok (.iconst 0, 1) := by decide +kernel
theorem dX3_letter_61 : decode cX3_letter 61 = .ok (.ireturn, 1) := by decide +kernel
theorem dX3_letter_62 : decode cX3_letter 62 = .ok (.iconst 1, 1) := by decide +kernel
theorem dX3_letter_63 : decode cX3_letter 63 = .ok (.ireturn, 1) := by decide +kernel
theorem dX3_letter_64 : decode cX3_letter 64 = .ok (.iconst 2, 1) := by decide +kernel
theorem dX3_letter_65 : decode cX3_letter 65 = .ok (.ireturn, 1) := by decide +kernel
theorem dX3_letter_66 : decode cX3_letter 66 = .ok (.iconst 3, 1) := by decide +kernel
theorem dX3_letter_67 : decode cX3_letter 67 = .ok (.ireturn, 1) := by decide +kernel
theorem dX3_letter_68 : decode cX3_letter 68 = .ok (.iconst 4, 1) := by decide +kernel
theorem dX3_letter_69 : decode cX3_letter 69 = .ok (.ireturn, 1) := by decide +kernel
theorem dX3_letter_70 : decode cX3_letter 70 = .ok (.iconst 5, 1) := by decide +kernel
theorem dX3_letter_71 : decode cX3_letter 71 = .ok (.ireturn, 1) := by decide +kernel
theorem dX3_letter_72 : decode cX3_letter 72 = .ok (.bipush (-5), 2) := by decide +kernel
theorem dX3_letter_74 : decode cX3_letter 74 = .ok (.ireturn, 1) := by decide +kernel
theorem dX3_compare_0 : decode cX3_compare 0 = .ok (.iload_n 0, 1) := by decide +kernel
theorem dX3_compare_1 : decode cX3_compare 1 = .ok (.bipush 60, 2) := by decide +kernel
theorem dX3_compare_3 : decode cX3_compare 3 = .ok (.if_icmp .lt 16, 3) := by decide +kernel
theorem dX3_compare_6 : decode cX3_compare 6 = .ok (.iload_n 0, 1) := by decide +kernel
theorem dX3_compare_7 : decode cX3_compare 7 = .ok (.bipush 62, 2) := by decide +kernel
theorem dX3_compare_9 : decode cX3_compare 9 = .ok (.if_icmp .gt 10, 3) := by decide +kernel
theorem dX3_compare_12 : decode cX3_compare 12 = .ok (.iload_n 0, 1) := by decide +kernel
theorem dX3_compare_13 : decode cX3_compare 13 = .ok (.bipush 60, 2) := by decide +kernel
theorem dX3_compare_15 : decode cX3_compare 15 = .ok (.isub, 1) := by decide +kernel
theorem dX3_compare_16 : decode cX3_compare 16 = .ok (.goto 5, 3) := by decide +kernel
theorem dX3_compare_19 : decode cX3_compare 19 = .ok (.bipush (-5), 2) := by decide +kernel
theorem dX3_compare_21 : decode cX3_compare 21 = .ok (.ireturn, 1) := by decide +kernel
theorem dX3_number_0 : decode cX3_number 0 = .ok (.aload_n 0, 1) := by decide +kernel
theorem dX3_number_1 : decode cX3_number 1 = .ok (.invokevirtual 37, 3) := by decide +kernel
theorem dX3_number_4 : decode cX3_number 4 = .ok (.bipush 48, 2) := by decide +kernel
theorem dX3_number_6 : decode cX3_number 6 = .ok (.isub, 1) := by decide +kernel
theorem dX3_number_7 : decode cX3_number 7 = .ok (.istore_n 1, 1) := by decide +kernel
theorem dX3_number_8 : decode cX3_number 8 = .ok (.iload_n 1, 1) := by decide +kernel
theorem dX3_number_9 : decode cX3_number 9 = .ok (.ifCond .lt 9, 3) := by decide +kernel
theorem dX3_number_12 : decode cX3_number 12 = .ok (.iload_n 1, 1) := by decide +kernel
theorem dX3_number_13 : decode cX3_number 13 = .ok (.bipush 9, 2) := by decide +kernel
theorem dX3_number_15 : decode cX3_number 15 = .ok (.if_icmp .le 5, 3) := by decide +kernel
theorem dX3_number_18 : decode cX3_number 18 = .ok (.iconst 0, 1) := by decide +kernel
theorem dX3_number_19 : decode cX3_number 19 = .ok (.ireturn, 1) := by decide +kernel
theorem dX3_number_20 : decode cX3_number 20 = .ok (.aload_n 0, 1) := by decide +kernel
theorem dX3_number_21 : decode cX3_number 21 = .ok (.dup, 1) := by decide +kernel
theorem dX3_number_22 : decode cX3_number 22 = .ok (.getfield 9, 3) := by decide +kernel
theorem dX3_number_25 : decode cX3_number 25 = .ok (.iconst 1, 1) := by decide +kernel
theorem dX3_number_26 : decode cX3_number 26 = .ok (.iadd, 1) := by decide +kernel
theorem dX3_number_27 : decode cX3_number 27 = .ok (.putfield 9, 3) := by decide +kernel
theorem dX3_number_30 : decode cX3_number 30 = .ok (.aload_n 0, 1) := by decide +kernel
theorem dX3_number_31 : decode cX3_number 31 = .ok (.iload_n 1, 1) := by decide +kernel
theorem dX3_number_32 : decode cX3_number 32 = .ok (.putfield 15, 3) := by decide +kernel
theorem dX3_number_35 : decode cX3_number 35 = .ok (.aload_n 0, 1) := by decide +kernel
theorem dX3_number_36 : decode cX3_number 36 = .ok (.invokevirtual 37, 3) := by decide +kernel
theorem dX3_number_39 : decode cX3_number 39 = .ok (.bipush 48, 2) := by decide +kernel
theorem dX3_number_41 : decode cX3_number 41 = .ok (.isub, 1) := by decide +kernel
theorem dX3_number_42 : decode cX3_number 42 = .ok (.istore_n 2, 1) := by decide +kernel
theorem dX3_number_43 : decode cX3_number 43 = .ok (.iload_n 1, 1) := by decide +kernel
theorem dX3_number_44 : decode cX3_number 44 = .ok (.ifCond .eq 33, 3) := by decide +kernel
theorem dX3_number_47 : decode cX3_number 47 = .ok (.iload_n 2, 1) := by decide +kernel
theorem dX3_number_48 : decode cX3_number 48 = .ok (.ifCond .lt 29, 3) := by decide +kernel
theorem dX3_number_51 : decode cX3_number 51 = .ok (.iload_n 2, 1) := by decide +kernel
theorem dX3_number_52 : decode cX3_number 52 = .ok (.bipush 9, 2) := by decide +kernel
theorem dX3_number_54 : decode cX3_number 54 = .ok (.if_icmp .gt 23, 3) := by decide +kernel
theorem dX3_number_57 : decode cX3_number 57 = .ok (.aload_n 0, 1) := by decide +kernel
theorem dX3_number_58 : decode cX3_number 58 = .ok (.dup, 1) := by decide +kernel
theorem dX3_number_59 : decode cX3_number 59 = .ok (.getfield 9, 3) := by decide +kernel
theorem dX3_number_62 : decode cX3_number 62 = .ok (.iconst 1, 1) := by decide +kernel
theorem dX3_number_63 : decode cX3_number 63 = .ok (.iadd, 1) := by decide +kernel
theorem dX3_number_64 : decode cX3_number 64 = .ok (.putfield 9, 3) := by decide +kernel
theorem dX3_number_67 : decode cX3_number 67 = .ok (.aload_n 0, 1) := by decide +kernel
theorem dX3_number_68 : decode cX3_number 68 = .ok (.iload_n 1, 1) := by decide +kernel
theorem dX3_number_69 : decode cX3_number 69 = .ok (.bipush 10, 2) := by decide +kernel
theorem dX3_number_71 : decode cX3_number 71 = .ok (.imul, 1) := by decide +kernel
theorem dX3_number_72 : decode cX3_number 72 = .ok (.iload_n 2, 1) := by decide +kernel
theorem dX3_number_73 : decode cX3_number 73 = .ok (.iadd, 1) := by decide +kernel
theorem dX3_number_74 : decode cX3_number 74 = .ok (.putfield 15, 3) := by decide +kernel
theorem dX3_number_77 : decode cX3_number 77 = .ok (.iconst 1, 1) := by decide +kernel
theorem dX3_number_78 : decode cX3_number 78 = .ok (.ireturn, 1) := by decide +kernel
theorem dX3_word_0 : decode cX3_word 0 = .ok (.iconst 0, 1) := by decide +kernel
theorem dX3_word_1 : decode cX3_word 1 = .ok (.istore_n 2, 1) := by decide +kernel
theorem dX3_word_2 : decode cX3_word 2 = .ok (.iload_n 2, 1) := by decide +kernel
theorem dX3_word_3 : decode cX3_word 3 = .ok (.aload_n 1, 1) := by decide +kernel
theorem dX3_word_4 : decode cX3_word 4 = .ok (.invokevirtual 100, 3) := by decide +kernel
theorem dX3_word_7 : decode cX3_word 7 = .ok (.if_icmp .ge 23, 3) := by decide +kernel
theorem dX3_word_10 : decode cX3_word 10 = .ok (.aload_n 0, 1) := by decide +kernel
theorem dX3_word_11 : decode cX3_word 11 = .ok (.aload_n 1, 1) := by decide +kernel
theorem dX3_word_12 : decode cX3_word 12 = .ok (.iload_n 2, 1) := by decide +kernel
theorem dX3_word_13 : decode cX3_word 13 = .ok (.invokevirtual 105, 3) := by decide +kernel
theorem dX3_word_16 : decode cX3_word 16 = .ok (.invokevirtual 33, 3) := by decide +kernel
theorem dX3_word_19 : decode cX3_word 19 = .ok (.ifCond .ne 5, 3) := by decide +kernel
theorem dX3_word_22 : decode cX3_word 22 = .ok (.iconst 0, 1) := by decide +kernel
theorem dX3_word_23 : decode cX3_word 23 = .ok (.ireturn, 1) := by decide +kernel
theorem dX3_word_24 : decode cX3_word 24 = .ok (.iinc 2 1, 3) := by decide +kernel
theorem dX3_word_27 : decode cX3_word 27 = .ok (.goto (-25), 3) := by decide +kernel
theorem dX3_word_30 : decode cX3_word 30 = .ok (.iconst 1, 1) := by decide +kernel
theorem dX3_word_31 : decode cX3_word 31 = .ok (.ireturn, 1) := by decide +kernel
theorem dX3_takes_0 : decode cX3_takes 0 = .ok (.aload_n 0, 1) := by decide +kernel
theorem dX3_takes_1 : decode cX3_takes 1 = .ok (.invokevirtual 37, 3) := by decide +kernel
theorem dX3_takes_4 : decode cX3_takes 4 = .ok (.iload_n 1, 1) := by decide +kernel
theorem dX3_takes_5 : decode cX3_takes 5 = .ok (.if_icmp .eq 5, 3) := by decide +kernel
theorem dX3_takes_8 : decode cX3_takes 8 = .ok (.iconst 0, 1) := by decide +kernel
theorem dX3_takes_9 : decode cX3_takes 9 = .ok (.ireturn, 1) := by decide +kernel
theorem dX3_takes_10 : decode cX3_takes 10 = .ok (.aload_n 0, 1) := by decide +kernel
theorem dX3_takes_11 : decode cX3_takes 11 = .ok (.dup, 1) := by decide +kernel
theorem dX3_takes_12 : decode cX3_takes 12 = .ok (.getfield 9, 3) := by decide +kernel
theorem dX3_takes_15 : decode cX3_takes 15 = .ok (.iconst 1, 1) := by decide +kernel
theorem dX3_takes_16 : decode cX3_takes 16 = .ok (.iadd, 1) := by decide +kernel
theorem dX3_takes_17 : decode cX3_takes 17 = .ok (.putfield 9, 3) := by decide +kernel
theorem dX3_takes_20 : decode cX3_takes 20 = .ok (.iconst 1, 1) := by decide +kernel
theorem dX3_takes_21 : decode cX3_takes 21 = .ok (.ireturn, 1) := by decide +kernel
theorem dX3_sign_0 : decode cX3_sign 0 = .ok (.aload_n 0, 1) := by decide +kernel
theorem dX3_sign_1 : decode cX3_sign 1 = .ok (.getfield 9, 3) := by decide +kernel
theorem dX3_sign_4 : decode cX3_sign 4 = .ok (.ifCond .lt 38, 3) := by decide +kernel
theorem dX3_sign_7 : decode cX3_sign 7 = .ok (.aload_n 0, 1) := by decide +kernel
theorem dX3_sign_8 : decode cX3_sign 8 = .ok (.getfield 9, 3) := by decide +kernel
theorem dX3_sign_11 : decode cX3_sign 11 = .ok (.aload_n 0, 1) := by decide +kernel
theorem dX3_sign_12 : decode cX3_sign 12 = .ok (.getfield 22, 3) := by decide +kernel
theorem dX3_sign_15 : decode cX3_sign 15 = .ok (.if_icmp .ge 27, 3) := by decide +kernel
theorem dX3_sign_18 : decode cX3_sign 18 = .ok (.aload_n 0, 1) := by decide +kernel
theorem dX3_sign_19 : decode cX3_sign 19 = .ok (.getfield 9, 3) := by decide +kernel
theorem dX3_sign_22 : decode cX3_sign 22 = .ok (.aload_n 0, 1) := by decide +kernel
theorem dX3_sign_23 : decode cX3_sign 23 = .ok (.getfield 18, 3) := by decide +kernel
theorem dX3_sign_26 : decode cX3_sign 26 = .ok (.arraylength, 1) := by decide +kernel
theorem dX3_sign_27 : decode cX3_sign 27 = .ok (.if_icmp .ge 15, 3) := by decide +kernel
theorem dX3_sign_30 : decode cX3_sign 30 = .ok (.aload_n 0, 1) := by decide +kernel
theorem dX3_sign_31 : decode cX3_sign 31 = .ok (.getfield 18, 3) := by decide +kernel
theorem dX3_sign_34 : decode cX3_sign 34 = .ok (.aload_n 0, 1) := by decide +kernel
theorem dX3_sign_35 : decode cX3_sign 35 = .ok (.getfield 9, 3) := by decide +kernel
theorem dX3_sign_38 : decode cX3_sign 38 = .ok (.iaload, 1) := by decide +kernel
theorem dX3_sign_39 : decode cX3_sign 39 = .ok (.goto 4, 3) := by decide +kernel
theorem dX3_sign_42 : decode cX3_sign 42 = .ok (.iconst (-1), 1) := by decide +kernel
theorem dX3_sign_43 : decode cX3_sign 43 = .ok (.ireturn, 1) := by decide +kernel
theorem dX4_init_0 : decode cX4_init 0 = .ok (.aload_n 0, 1) := by decide +kernel
theorem dX4_init_1 : decode cX4_init 1 = .ok (.invokespecial 3, 3) := by decide +kernel
theorem dX4_init_4 : decode cX4_init 4 = .ok (.aload_n 0, 1) := by decide +kernel
theorem dX4_init_5 : decode cX4_init 5 = .ok (.bipush 100, 2) := by decide +kernel
theorem dX4_init_7 : decode cX4_init 7 = .ok (.newarray .int, 2) := by decide +kernel
theorem dX4_init_9 : decode cX4_init 9 = .ok (.putfield 9, 3) := by decide +kernel
theorem dX4_init_12 : decode cX4_init 12 = .ok (.aload_n 0, 1) := by decide +kernel
theorem dX4_init_13 : decode cX4_init 13 = .ok (.bipush 10, 2) := by decide +kernel
theorem dX4_init_15 : decode cX4_init 15 = .ok (.newarray .int, 2) := by decide +kernel
theorem dX4_init_17 : decode cX4_init 17 = .ok (.putfield 15, 3) := by decide +kernel
theorem dX4_init_20 : decode cX4_init 20 = .ok (.aload_n 0, 1) := by decide +kernel
theorem dX4_init_21 : decode cX4_init 21 = .ok (.bipush 10, 2) := by decide +kernel
theorem dX4_init_23 : decode cX4_init 23 = .ok (.newarray .int, 2) := by decide +kernel
theorem dX4_init_25 : decode cX4_init 25 = .ok (.putfield 18, 3) := by decide +kernel
theorem dX4_init_28 : decode cX4_init 28 = .ok (.aload_n 0, 1) := by decide +kernel
theorem dX4_init_29 : decode cX4_init 29 = .ok (.iconst 0, 1) := by decide +kernel
theorem dX4_init_30 : decode cX4_init 30 = .ok (.putfield 21, 3) := by decide +kernel
theorem dX4_init_33 : decode cX4_init 33 = .ok (.aload_n 0, 1) := by decide +kernel
theorem dX4_init_34 : decode cX4_init 34 = .ok (.iconst 0, 1) := by decide +kernel
theorem dX4_init_35 : decode cX4_init 35 = .ok (.putfield 25, 3) := by decide +kernel
theorem dX4_init_38 : decode cX4_init 38 = .ok (.aload_n 0, 1) := by decide +kernel
theorem dX4_init_39 : decode cX4_init 39 = .ok (.iconst 1, 1) := by decide +kernel
theorem dX4_init_40 : decode cX4_init 40 = .ok (.putfield 28, 3) := by decide +kernel
theorem dX4_init_43 : decode cX4_init 43 = .ok (.aload_n 0, 1) := by decide +kernel
theorem dX4_init_44 : decode cX4_init 44 = .ok (.iconst 5, 1) := by decide +kernel
theorem dX4_init_45 : decode cX4_init 45 = .ok (.putfield 31, 3) := by decide +kernel
theorem dX4_init_48 : decode cX4_init 48 = .ok (.return_, 1) := by decide +kernel
theorem dX4_write_0 : decode cX4_write 0 = .ok (.aload_n 0, 1) := by decide +kernel
theorem dX4_write_1 : decode cX4_write 1 = .ok (.getfield 9, 3) := by decide +kernel
theorem dX4_write_4 : decode cX4_write 4 = .ok (.aload_n 0, 1) := by decide +kernel
theorem dX4_write_5 : decode cX4_write 5 = .ok (.getfield 21, 3) := by decide +kernel
theorem dX4_write_8 : decode cX4_write 8 = .ok (.iload_n 1, 1) := by decide +kernel
theorem dX4_write_9 : decode cX4_write 9 = .ok (.invokestatic 34, 3) := by decide +kernel
theorem dX4_write_12 : decode cX4_write 12 = .ok (.aload_n 0, 1) := by decide +kernel
theorem dX4_write_13 : decode cX4_write 13 = .ok (.dup, 1) := by decide +kernel
theorem dX4_write_14 : decode cX4_write 14 = .ok (.getfield 21, 3) := by decide +kernel
theorem dX4_write_17 : decode cX4_write 17 = .ok (.iconst 1, 1) := by decide +kernel
theorem dX4_write_18 : decode cX4_write 18 = .ok (.iadd, 1) := by decide +kernel
theorem dX4_write_19 : decode cX4_write 19 = .ok (.putfield 21, 3) := by decide +kernel
theorem dX4_write_22 : decode cX4_write 22 = .ok (.return_, 1) := by decide +kernel
theorem dX4_endFeeling_0 : decode cX4_endFeeling 0 = .ok (.aload_n 0, 1) := by decide +kernel
theorem dX4_endFeeling_1 : decode cX4_endFeeling 1 = .ok (.getfield 15, 3) := by decide +kernel
theorem dX4_endFeeling_4 : decode cX4_endFeeling 4 = .ok (.aload_n 0, 1) := by decide +kernel
theorem dX4_endFeeling_5 : decode cX4_endFeeling 5 = .ok (.getfield 25, 3) := by decide +kernel
theorem dX4_endFeeling_8 : decode cX4_endFeeling 8 = .ok (.iload_n 1, 1) := by decide +kernel
theorem dX4_endFeeling_9 : decode cX4_endFeeling 9 = .ok (.invokestatic 34, 3) := by decide +kernel
theorem dX4_endFeeling_12 : decode cX4_endFeeling 12 = .ok (.aload_n 0, 1) := by decide +kernel
theorem dX4_endFeeling_13 : decode cX4_endFeeling 13 = .ok (.getfield 18, 3) := by decide +kernel
theorem dX4_endFeeling_16 : decode cX4_endFeeling 16 = .ok (.aload_n 0, 1) := by decide +kernel
theorem dX4_endFeeling_17 : decode cX4_endFeeling 17 = .ok (.getfield 25, 3) := by decide +kernel
theorem dX4_endFeeling_20 : decode cX4_endFeeling 20 = .ok (.aload_n 0, 1) := by decide +kernel
theorem dX4_endFeeling_21 : decode cX4_endFeeling 21 = .ok (.getfield 21, 3) := by decide +kernel
theorem dX4_endFeeling_24 : decode cX4_endFeeling 24 = .ok (.invokestatic 34, 3) := by decide +kernel
theorem dX4_endFeeling_27 : decode cX4_endFeeling 27 = .ok (.aload_n 0, 1) := by decide +kernel
theorem dX4_endFeeling_28 : decode cX4_endFeeling 28 = .ok (.dup, 1) := by decide +kernel
theorem dX4_endFeeling_29 : decode cX4_endFeeling 29 = .ok (.getfield 25, 3) := by decide +kernel
theorem dX4_endFeeling_32 : decode cX4_endFeeling 32 = .ok (.iconst 1, 1) := by decide +kernel
theorem dX4_endFeeling_33 : decode cX4_endFeeling 33 = .ok (.iadd, 1) := by decide +kernel
theorem dX4_endFeeling_34 : decode cX4_endFeeling 34 = .ok (.putfield 25, 3) := by decide +kernel
theorem dX4_endFeeling_37 : decode cX4_endFeeling 37 = .ok (.return_, 1) := by decide +kernel
theorem dX4_plainOf_0 : decode cX4_plainOf 0 = .ok (.iconst 0, 1) := by decide +kernel
theorem dX4_plainOf_1 : decode cX4_plainOf 1 = .ok (.istore_n 2, 1) := by decide +kernel
theorem dX4_plainOf_2 : decode cX4_plainOf 2 = .ok (.iconst 0, 1) := by decide +kernel
theorem dX4_plainOf_3 : decode cX4_plainOf 3 = .ok (.istore_n 3, 1) := by decide +kernel
theorem dX4_plainOf_4 : decode cX4_plainOf 4 = .ok (.iconst 0, 1) := by decide +kernel
theorem dX4_plainOf_5 : decode cX4_plainOf 5 = .ok (.istore 4, 2) := by decide +kernel
theorem dX4_plainOf_7 : decode cX4_plainOf 7 = .ok (.iload 4, 2) := by decide +kernel
theorem dX4_plainOf_9 : decode cX4_plainOf 9 = .ok (.aload_n 0, 1) := by decide +kernel
theorem dX4_plainOf_10 : decode cX4_plainOf 10 = .ok (.getfield 25, 3) := by decide +kernel
theorem dX4_plainOf_13 : decode cX4_plainOf 13 = .ok (.if_icmp .ge 46, 3) := by decide +kernel
theorem dX4_plainOf_16 : decode cX4_plainOf 16 = .ok (.aload_n 0, 1) := by decide +kernel
theorem dX4_plainOf_17 : decode cX4_plainOf 17 = .ok (.getfield 18, 3) := by decide +kernel
theorem dX4_plainOf_20 : decode cX4_plainOf 20 = .ok (.iload 4, 2) := by decide +kernel
theorem dX4_plainOf_22 : decode cX4_plainOf 22 = .ok (.invokestatic 38, 3) := by decide +kernel
theorem dX4_plainOf_25 : decode cX4_plainOf 25 = .ok (.istore 5, 2) := by decide +kernel
theorem dX4_plainOf_27 : decode cX4_plainOf 27 = .ok (.aload_n 0, 1) := by decide +kernel
theorem dX4_plainOf_28 : decode cX4_plainOf 28 = .ok (.iload_n 3, 1) := by decide +kernel
theorem dX4_plainOf_29 : decode cX4_plainOf 29 = .ok (.iload 5, 2) := by decide +kernel
theorem dX4_plainOf_31 : decode cX4_plainOf 31 = .ok (.aload_n 1, 1) := by decide +kernel
theorem dX4_plainOf_32 : decode cX4_plainOf 32 = .ok (.invokevirtual 42, 3) := by decide +kernel
theorem dX4_plainOf_35 : decode cX4_plainOf 35 = .ok (.ifCond .eq 15, 3) := by decide +kernel
theorem dX4_plainOf_38 : decode cX4_plainOf 38 = .ok (.iload_n 2, 1) := by decide +kernel
theorem dX4_plainOf_39 : decode cX4_plainOf 39 = .ok (.aload_n 0, 1) := by decide +kernel
theorem dX4_plainOf_40 : decode cX4_plainOf 40 = .ok (.getfield 15, 3) := by decide +kernel
theorem dX4_plainOf_43 : decode cX4_plainOf 43 = .ok (.iload 4, 2) := by decide +kernel
theorem dX4_plainOf_45 : decode cX4_plainOf 45 = .ok (.invokestatic 38, 3) := by decide +kernel
theorem dX4_plainOf_48 : decode cX4_plainOf 48 = .ok (.iadd, 1) := by decide +kernel
theorem dX4_plainOf_49 : decode cX4_plainOf 49 = .ok (.istore_n 2, 1) := by decide +kernel
theorem dX4_plainOf_50 : decode cX4_plainOf 50 = .ok (.iload 5, 2) := by decide +kernel
theorem dX4_plainOf_52 : decode cX4_plainOf 52 = .ok (.istore_n 3, 1) := by decide +kernel
theorem dX4_plainOf_53 : decode cX4_plainOf 53 = .ok (.iinc 4 1, 3) := by decide +kernel
theorem dX4_plainOf_56 : decode cX4_plainOf 56 = .ok (.goto (-49), 3) := by decide +kernel
theorem dX4_plainOf_59 : decode cX4_plainOf 59 = .ok (.iload_n 2, 1) := by decide +kernel
theorem dX4_plainOf_60 : decode cX4_plainOf 60 = .ok (.ireturn, 1) := by decide +kernel
theorem dX4_holds_0 : decode cX4_holds 0 = .ok (.iconst 0, 1) := by decide +kernel
theorem dX4_holds_1 : decode cX4_holds 1 = .ok (.istore 4, 2) := by decide +kernel
theorem dX4_holds_3 : decode cX4_holds 3 = .ok (.iload_n 1, 1) := by decide +kernel
theorem dX4_holds_4 : decode cX4_holds 4 = .ok (.istore 5, 2) := by decide +kernel
theorem dX4_holds_6 : decode cX4_holds 6 = .ok (.iload 5, 2) := by decide +kernel
theorem dX4_holds_8 : decode cX4_holds 8 = .ok (.iload_n 2, 1) := by decide +kernel
theorem dX4_holds_9 : decode cX4_holds 9 = .ok (.if_icmp .ge 108, 3) := by decide +kernel
theorem dX4_holds_12 : decode cX4_holds 12 = .ok (.aload_n 0, 1) := by decide +kernel
theorem dX4_holds_13 : decode cX4_holds 13 = .ok (.getfield 9, 3) := by decide +kernel
theorem dX4_holds_16 : decode cX4_holds 16 = .ok (.iload 5, 2) := by decide +kernel
theorem dX4_holds_18 : decode cX4_holds 18 = .ok (.invokestatic 38, 3) := by decide +kernel
theorem dX4_holds_21 : decode cX4_holds 21 = .ok (.istore 6, 2) := by decide +kernel
theorem dX4_holds_23 : decode cX4_holds 23 = .ok (.iload 6, 2) := by decide +kernel
theorem dX4_holds_25 : decode cX4_holds 25 = .ok (.iconst (-1), 1) := by decide +kernel
theorem dX4_holds_26 : decode cX4_holds 26 = .ok (.if_icmp .ne 12, 3) := by decide +kernel
theorem dX4_holds_29 : decode cX4_holds 29 = .ok (.iload 4, 2) := by decide +kernel
theorem dX4_holds_31 : decode cX4_holds 31 = .ok (.iconst 1, 1) := by decide +kernel
theorem dX4_holds_32 : decode cX4_holds 32 = .ok (.ixor, 1) := by decide +kernel
theorem dX4_holds_33 : decode cX4_holds 33 = .ok (.istore 4, 2) := by decide +kernel
theorem dX4_holds_35 : decode cX4_holds 35 = .ok (.goto 76, 3) := by decide +kernel
theorem dX4_holds_38 : decode cX4_holds 38 = .ok (.iload 6, 2) := by decide +kernel
theorem dX4_holds_40 : decode cX4_holds 40 = .ok (.bipush (-2), 2) := by decide +kernel
theorem dX4_holds_42 : decode cX4_holds 42 = .ok (.if_icmp .ne 18, 3) := by decide +kernel
theorem dX4_holds_45 : decode cX4_holds 45 = .ok (.iload 4, 2) := by decide +kernel
theorem dX4_holds_47 : decode cX4_holds 47 = .ok (.iconst 1, 1) := by decide +kernel
theorem dX4_holds_48 : decode cX4_holds 48 = .ok (.ishr, 1) := by decide +kernel
theorem dX4_holds_49 : decode cX4_holds 49 = .ok (.iload 4, 2) := by decide +kernel
theorem dX4_holds_51 : decode cX4_holds 51 = .ok (.bipush (-2), 2) := by decide +kernel
theorem dX4_holds_53 : decode cX4_holds 53 = .ok (.ior, 1) := by decide +kernel
theorem dX4_holds_54 : decode cX4_holds 54 = .ok (.iand, 1) := by decide +kernel
theorem dX4_holds_55 : decode cX4_holds 55 = .ok (.istore 4, 2) := by decide +kernel
theorem dX4_holds_57 : decode cX4_holds 57 = .ok (.goto 54, 3) := by decide +kernel
theorem dX4_holds_60 : decode cX4_holds 60 = .ok (.iload 6, 2) := by decide +kernel
theorem dX4_holds_62 : decode cX4_holds 62 = .ok (.bipush (-3), 2) := by decide +kernel
theorem dX4_holds_64 : decode cX4_holds 64 = .ok (.if_icmp .ne 17, 3) := by decide +kernel
theorem dX4_holds_67 : decode cX4_holds 67 = .ok (.iload 4, 2) := by decide +kernel
theorem dX4_holds_69 : decode cX4_holds 69 = .ok (.iconst 1, 1) := by decide +kernel
theorem dX4_holds_70 : decode cX4_holds 70 = .ok (.ishr, 1) := by decide +kernel
theorem dX4_holds_71 : decode cX4_holds 71 = .ok (.iload 4, 2) := by decide +kernel
theorem dX4_holds_73 : decode cX4_holds 73 = .ok (.iconst 1, 1) := by decide +kernel
theorem dX4_holds_74 : decode cX4_holds 74 = .ok (.iand, 1) := by decide +kernel
theorem dX4_holds_75 : decode cX4_holds 75 = .ok (.ior, 1) := by decide +kernel
theorem dX4_holds_76 : decode cX4_holds 76 = .ok (.istore 4, 2) := by decide +kernel
theorem dX4_holds_78 : decode cX4_holds 78 = .ok (.goto 33, 3) := by decide +kernel
theorem dX4_holds_81 : decode cX4_holds 81 = .ok (.iload 4, 2) := by decide +kernel
theorem dX4_holds_83 : decode cX4_holds 83 = .ok (.iconst 1, 1) := by decide +kernel
theorem dX4_holds_84 : decode cX4_holds 84 = .ok (.ishl, 1) := by decide +kernel
theorem dX4_holds_85 : decode cX4_holds 85 = .ok (.iload 6, 2) := by decide +kernel
theorem dX4_holds_87 : decode cX4_holds 87 = .ok (.aload_n 3, 1) := by decide +kernel
theorem dX4_holds_88 : decode cX4_holds 88 = .ok (.iload 6, 2) := by decide +kernel
theorem dX4_holds_90 : decode cX4_holds 90 = .ok (.sipush 300, 3) := by decide +kernel
theorem dX4_holds_93 : decode cX4_holds 93 = .ok (.idiv, 1) := by decide +kernel
theorem dX4_holds_94 : decode cX4_holds 94 = .ok (.invokestatic 38, 3) := by decide +kernel
theorem dX4_holds_97 : decode cX4_holds 97 = .ok (.invokestatic 46, 3) := by decide +kernel
theorem dX4_holds_100 : decode cX4_holds 100 = .ok (.ifCond .eq 7, 3) := by decide +kernel
theorem dX4_holds_103 : decode cX4_holds 103 = .ok (.iconst 1, 1) := by decide +kernel
theorem dX4_holds_104 : decode cX4_holds 104 = .ok (.goto 4, 3) := by decide +kernel
theorem dX4_holds_107 : decode cX4_holds 107 = .ok (.iconst 0, 1) := by decide +kernel
theorem dX4_holds_108 : decode cX4_holds 108 = .ok (.ior, 1) := by decide +kernel
theorem dX4_holds_109 : decode cX4_holds 109 = .ok (.istore 4, 2) := by decide +kernel
theorem dX4_holds_111 : decode cX4_holds 111 = .ok (.iinc 5 1, 3) := by decide +kernel
theorem dX4_holds_114 : decode cX4_holds 114 = .ok (.goto (-108), 3) := by decide +kernel
theorem dX4_holds_117 : decode cX4_holds 117 = .ok (.iload 4, 2) := by decide +kernel
theorem dX4_holds_119 : decode cX4_holds 119 = .ok (.iconst 1, 1) := by decide +kernel
theorem dX4_holds_120 : decode cX4_holds 120 = .ok (.iand, 1) := by decide +kernel
theorem dX4_holds_121 : decode cX4_holds 121 = .ok (.ifCond .eq 7, 3) := by decide +kernel
theorem dX4_holds_124 : decode cX4_holds 124 = .ok (.iconst 1, 1) := by decide +kernel
theorem dX4_holds_125 : decode cX4_holds 125 = .ok (.goto 4, 3) := by decide +kernel
theorem dX4_holds_128 : decode cX4_holds 128 = .ok (.iconst 0, 1) := by decide +kernel
theorem dX4_holds_129 : decode cX4_holds 129 = .ok (.ireturn, 1) := by decide +kernel
theorem dX4_test_0 : decode cX4_test 0 = .ok (.iload_n 0, 1) := by decide +kernel
theorem dX4_test_1 : decode cX4_test 1 = .ok (.iconst 3, 1) := by decide +kernel
theorem dX4_test_2 : decode cX4_test 2 = .ok (.imul, 1) := by decide +kernel
theorem dX4_test_3 : decode cX4_test 3 = .ok (.iload_n 1, 1) := by decide +kernel
theorem dX4_test_4 : decode cX4_test 4 = .ok (.iadd, 1) := by decide +kernel
theorem dX4_test_5 : decode cX4_test 5 = .ok (.bipush 100, 2) := by decide +kernel
theorem dX4_test_7 : decode cX4_test 7 = .ok (.imul, 1) := by decide +kernel
theorem dX4_test_8 : decode cX4_test 8 = .ok (.iload_n 2, 1) := by decide +kernel
theorem dX4_test_9 : decode cX4_test 9 = .ok (.iadd, 1) := by decide +kernel
theorem dX4_test_10 : decode cX4_test 10 = .ok (.ireturn, 1) := by decide +kernel
theorem dX4_isTrue_0 : decode cX4_isTrue 0 = .ok (.iload_n 0, 1) := by decide +kernel
theorem dX4_isTrue_1 : decode cX4_isTrue 1 = .ok (.bipush 100, 2) := by decide +kernel
theorem dX4_isTrue_3 : decode cX4_isTrue 3 = .ok (.irem, 1) := by decide +kernel
theorem dX4_isTrue_4 : decode cX4_isTrue 4 = .ok (.istore_n 2, 1) := by decide +kernel
theorem dX4_isTrue_5 : decode cX4_isTrue 5 = .ok (.iload_n 0, 1) := by decide +kernel
theorem dX4_isTrue_6 : decode cX4_isTrue 6 = .ok (.bipush 100, 2) := by decide +kernel
theorem dX4_isTrue_8 : decode cX4_isTrue 8 = .ok (.idiv, 1) := by decide +kernel
theorem dX4_isTrue_9 : decode cX4_isTrue 9 = .ok (.iconst 3, 1) := by decide +kernel
theorem dX4_isTrue_10 : decode cX4_isTrue 10 = .ok (.irem, 1) := by decide +kernel
theorem dX4_isTrue_11 : decode cX4_isTrue 11 = .ok (.lookupswitch 47 #[(0, 25), (1, 36)], 25) := by decide +kernel
theorem dX4_isTrue_36 : decode cX4_isTrue 36 = .ok (.iload_n 1, 1) := by decide +kernel
theorem dX4_isTrue_37 : decode cX4_isTrue 37 = .ok (.iload_n 2, 1) := by decide +kernel
theorem dX4_isTrue_38 : decode cX4_isTrue 38 = .ok (.if_icmp .ge 7, 3) := by decide +kernel
theorem dX4_isTrue_41 : decode cX4_isTrue 41 = .ok (.iconst 1, 1) := by decide +kernel
theorem dX4_isTrue_42 : decode cX4_isTrue 42 = .ok (.goto 4, 3) := by decide +kernel
theorem dX4_isTrue_45 : decode cX4_isTrue 45 = .ok (.iconst 0, 1) := by decide +kernel
theorem dX4_isTrue_46 : decode cX4_isTrue 46 = .ok (.ireturn, 1) := by decide +kernel
theorem dX4_isTrue_47 : decode cX4_isTrue 47 = .ok (.iload_n 1, 1) := by decide +kernel
theorem dX4_isTrue_48 : decode cX4_isTrue 48 = .ok (.iload_n 2, 1) := by decide +kernel
theorem dX4_isTrue_49 : decode cX4_isTrue 49 = .ok (.if_icmp .ne 7, 3) := by decide +kernel
theorem dX4_isTrue_52 : decode cX4_isTrue 52 = .ok (.iconst 1, 1) := by decide +kernel
theorem dX4_isTrue_53 : decode cX4_isTrue 53 = .ok (.goto 4, 3) := by decide +kernel
theorem dX4_isTrue_56 : decode cX4_isTrue 56 = .ok (.iconst 0, 1) := by decide +kernel
theorem dX4_isTrue_57 : decode cX4_isTrue 57 = .ok (.ireturn, 1) := by decide +kernel
theorem dX4_isTrue_58 : decode cX4_isTrue 58 = .ok (.iload_n 1, 1) := by decide +kernel
theorem dX4_isTrue_59 : decode cX4_isTrue 59 = .ok (.iload_n 2, 1) := by decide +kernel
theorem dX4_isTrue_60 : decode cX4_isTrue 60 = .ok (.if_icmp .le 7, 3) := by decide +kernel
theorem dX4_isTrue_63 : decode cX4_isTrue 63 = .ok (.iconst 1, 1) := by decide +kernel
theorem dX4_isTrue_64 : decode cX4_isTrue 64 = .ok (.goto 4, 3) := by decide +kernel
theorem dX4_isTrue_67 : decode cX4_isTrue 67 = .ok (.iconst 0, 1) := by decide +kernel
theorem dX4_isTrue_68 : decode cX4_isTrue 68 = .ok (.ireturn, 1) := by decide +kernel
theorem dX5_init_0 : decode cX5_init 0 = .ok (.aload_n 0, 1) := by decide +kernel
theorem dX5_init_1 : decode cX5_init 1 = .ok (.invokespecial 3, 3) := by decide +kernel
theorem dX5_init_4 : decode cX5_init 4 = .ok (.aload_n 0, 1) := by decide +kernel
theorem dX5_init_5 : decode cX5_init 5 = .ok (.bipush 7, 2) := by decide +kernel
theorem dX5_init_7 : decode cX5_init 7 = .ok (.newarray .int, 2) := by decide +kernel
theorem dX5_init_9 : decode cX5_init 9 = .ok (.putfield 9, 3) := by decide +kernel
theorem dX5_init_12 : decode cX5_init 12 = .ok (.aload_n 0, 1) := by decide +kernel
theorem dX5_init_13 : decode cX5_init 13 = .ok (.iconst 4, 1) := by decide +kernel
theorem dX5_init_14 : decode cX5_init 14 = .ok (.newarray .int, 2) := by decide +kernel
theorem dX5_init_16 : decode cX5_init 16 = .ok (.putfield 15, 3) := by decide +kernel
theorem dX5_init_19 : decode cX5_init 19 = .ok (.aload_n 0, 1) := by decide +kernel
theorem dX5_init_20 : decode cX5_init 20 = .ok (.iconst 4, 1) := by decide +kernel
theorem dX5_init_21 : decode cX5_init 21 = .ok (.newarray .int, 2) := by decide +kernel
theorem dX5_init_23 : decode cX5_init 23 = .ok (.putfield 18, 3) := by decide +kernel
theorem dX5_init_26 : decode cX5_init 26 = .ok (.aload_n 0, 1) := by decide +kernel
theorem dX5_init_27 : decode cX5_init 27 = .ok (.iconst 4, 1) := by decide +kernel
theorem dX5_init_28 : decode cX5_init 28 = .ok (.newarray .int, 2) := by decide +kernel
theorem dX5_init_30 : decode cX5_init 30 = .ok (.putfield 21, 3) := by decide +kernel
theorem dX5_init_33 : decode cX5_init 33 = .ok (.aload_n 0, 1) := by decide +kernel
theorem dX5_init_34 : decode cX5_init 34 = .ok (.bipush 16, 2) := by decide +kernel
theorem dX5_init_36 : decode cX5_init 36 = .ok (.newarray .int, 2) := by decide +kernel
theorem dX5_init_38 : decode cX5_init 38 = .ok (.putfield 24, 3) := by decide +kernel
theorem dX5_init_41 : decode cX5_init 41 = .ok (.aload_n 0, 1) := by decide +kernel
theorem dX5_init_42 : decode cX5_init 42 = .ok (.sipush 280, 3) := by decide +kernel
theorem dX5_init_45 : decode cX5_init 45 = .ok (.newarray .int, 2) := by decide +kernel
theorem dX5_init_47 : decode cX5_init 47 = .ok (.putfield 27, 3) := by decide +kernel
theorem dX5_init_50 : decode cX5_init 50 = .ok (.aload_n 0, 1) := by decide +kernel
theorem dX5_init_51 : decode cX5_init 51 = .ok (.bipush 6, 2) := by decide +kernel
theorem dX5_init_53 : decode cX5_init 53 = .ok (.newarray .int, 2) := by decide +kernel
theorem dX5_init_55 : decode cX5_init 55 = .ok (.putfield 30, 3) := by decide +kernel
theorem dX5_init_58 : decode cX5_init 58 = .ok (.aload_n 0, 1) := by decide +kernel
theorem dX5_init_59 : decode cX5_init 59 = .ok (.iconst 0, 1) := by decide +kernel
theorem dX5_init_60 : decode cX5_init 60 = .ok (.putfield 33, 3) := by decide +kernel
theorem dX5_init_63 : decode cX5_init 63 = .ok (.aload_n 0, 1) := by decide +kernel
theorem dX5_init_64 : decode cX5_init 64 = .ok (.iconst 0, 1) := by decide +kernel
theorem dX5_init_65 : decode cX5_init 65 = .ok (.putfield 37, 3) := by decide +kernel
theorem dX5_init_68 : decode cX5_init 68 = .ok (.aload_n 0, 1) := by decide +kernel
theorem dX5_init_69 : decode cX5_init 69 = .ok (.iconst 0, 1) := by decide +kernel
theorem dX5_init_70 : decode cX5_init 70 = .ok (.putfield 40, 3) := by decide +kernel
theorem dX5_init_73 : decode cX5_init 73 = .ok (.aload_n 0, 1) := by decide +kernel
theorem dX5_init_74 : decode cX5_init 74 = .ok (.iconst 0, 1) := by decide +kernel
theorem dX5_init_75 : decode cX5_init 75 = .ok (.putfield 43, 3) := by decide +kernel
theorem dX5_init_78 : decode cX5_init 78 = .ok (.aload_n 0, 1) := by decide +kernel
theorem dX5_init_79 : decode cX5_init 79 = .ok (.iconst 0, 1) := by decide +kernel
theorem dX5_init_80 : decode cX5_init 80 = .ok (.putfield 46, 3) := by decide +kernel
theorem dX5_init_83 : decode cX5_init 83 = .ok (.aload_n 0, 1) := by decide +kernel
theorem dX5_init_84 : decode cX5_init 84 = .ok (.new 49, 3) := by decide +kernel
theorem dX5_init_87 : decode cX5_init 87 = .ok (.dup, 1) := by decide +kernel
theorem dX5_init_88 : decode cX5_init 88 = .ok (.invokespecial 51, 3) := by decide +kernel
theorem dX5_init_91 : decode cX5_init 91 = .ok (.putfield 52, 3) := by decide +kernel
theorem dX5_init_94 : decode cX5_init 94 = .ok (.return_, 1) := by decide +kernel
theorem dX5_copy_0 : decode cX5_copy 0 = .ok (.aload_n 1, 1) := by decide +kernel
theorem dX5_copy_1 : decode cX5_copy 1 = .ok (.getfield 9, 3) := by decide +kernel
theorem dX5_copy_4 : decode cX5_copy 4 = .ok (.aload_n 0, 1) := by decide +kernel
theorem dX5_copy_5 : decode cX5_copy 5 = .ok (.getfield 9, 3) := by decide +kernel
theorem dX5_copy_8 : decode cX5_copy 8 = .ok (.invokestatic 56, 3) := by decide +kernel
theorem dX5_copy_11 : decode cX5_copy 11 = .ok (.aload_n 1, 1) := by decide +kernel
theorem dX5_copy_12 : decode cX5_copy 12 = .ok (.getfield 15, 3) := by decide +kernel
theorem dX5_copy_15 : decode cX5_copy 15 = .ok (.aload_n 0, 1) := by decide +kernel
theorem dX5_copy_16 : decode cX5_copy 16 = .ok (.getfield 15, 3) := by decide +kernel
theorem dX5_copy_19 : decode cX5_copy 19 = .ok (.invokestatic 56, 3) := by decide +kernel
theorem dX5_copy_22 : decode cX5_copy 22 = .ok (.aload_n 1, 1) := by decide +kernel
theorem dX5_copy_23 : decode cX5_copy 23 = .ok (.getfield 18, 3) := by decide +kernel
theorem dX5_copy_26 : decode cX5_copy 26 = .ok (.aload_n 0, 1) := by decide +kernel
theorem dX5_copy_27 : decode cX5_copy 27 = .ok (.getfield 18, 3) := by decide +kernel
theorem dX5_copy_30 : decode cX5_copy 30 = .ok (.invokestatic 56, 3) := by decide +kernel
theorem dX5_copy_33 : decode cX5_copy 33 = .ok (.aload_n 1, 1) := by decide +kernel
theorem dX5_copy_34 : decode cX5_copy 34 = .ok (.getfield 21, 3) := by decide +kernel
theorem dX5_copy_37 : decode cX5_copy 37 = .ok (.aload_n 0, 1) := by decide +kernel
theorem dX5_copy_38 : decode cX5_copy 38 = .ok (.getfield 21, 3) := by decide +kernel
theorem dX5_copy_41 : decode cX5_copy 41 = .ok (.invokestatic 56, 3) := by decide +kernel
theorem dX5_copy_44 : decode cX5_copy 44 = .ok (.aload_n 1, 1) := by decide +kernel
theorem dX5_copy_45 : decode cX5_copy 45 = .ok (.getfield 24, 3) := by decide +kernel
theorem dX5_copy_48 : decode cX5_copy 48 = .ok (.aload_n 0, 1) := by decide +kernel
theorem dX5_copy_49 : decode cX5_copy 49 = .ok (.getfield 24, 3) := by decide +kernel
theorem dX5_copy_52 : decode cX5_copy 52 = .ok (.invokestatic 56, 3) := by decide +kernel
theorem dX5_copy_55 : decode cX5_copy 55 = .ok (.aload_n 0, 1) := by decide +kernel
theorem dX5_copy_56 : decode cX5_copy 56 = .ok (.aload_n 1, 1) := by decide +kernel
theorem dX5_copy_57 : decode cX5_copy 57 = .ok (.getfield 37, 3) := by decide +kernel
theorem dX5_copy_60 : decode cX5_copy 60 = .ok (.putfield 37, 3) := by decide +kernel
theorem dX5_copy_63 : decode cX5_copy 63 = .ok (.aload_n 0, 1) := by decide +kernel
theorem dX5_copy_64 : decode cX5_copy 64 = .ok (.aload_n 1, 1) := by decide +kernel
theorem dX5_copy_65 : decode cX5_copy 65 = .ok (.getfield 40, 3) := by decide +kernel
theorem dX5_copy_68 : decode cX5_copy 68 = .ok (.putfield 40, 3) := by decide +kernel
theorem dX5_copy_71 : decode cX5_copy 71 = .ok (.aload_n 0, 1) := by decide +kernel
theorem dX5_copy_72 : decode cX5_copy 72 = .ok (.aload_n 1, 1) := by decide +kernel
theorem dX5_copy_73 : decode cX5_copy 73 = .ok (.getfield 43, 3) := by decide +kernel
theorem dX5_copy_76 : decode cX5_copy 76 = .ok (.putfield 43, 3) := by decide +kernel
theorem dX5_copy_79 : decode cX5_copy 79 = .ok (.aload_n 0, 1) := by decide +kernel
theorem dX5_copy_80 : decode cX5_copy 80 = .ok (.aload_n 1, 1) := by decide +kernel
theorem dX5_copy_81 : decode cX5_copy 81 = .ok (.getfield 46, 3) := by decide +kernel
theorem dX5_copy_84 : decode cX5_copy 84 = .ok (.putfield 46, 3) := by decide +kernel
theorem dX5_copy_87 : decode cX5_copy 87 = .ok (.aload_n 0, 1) := by decide +kernel
theorem dX5_copy_88 : decode cX5_copy 88 = .ok (.aload_n 1, 1) := by decide +kernel
theorem dX5_copy_89 : decode cX5_copy 89 = .ok (.getfield 52, 3) := by decide +kernel
theorem dX5_copy_92 : decode cX5_copy 92 = .ok (.putfield 52, 3) := by decide +kernel
theorem dX5_copy_95 : decode cX5_copy 95 = .ok (.aload_n 0, 1) := by decide +kernel
theorem dX5_copy_96 : decode cX5_copy 96 = .ok (.iconst 0, 1) := by decide +kernel
theorem dX5_copy_97 : decode cX5_copy 97 = .ok (.putfield 33, 3) := by decide +kernel
theorem dX5_copy_100 : decode cX5_copy 100 = .ok (.return_, 1) := by decide +kernel
theorem dX5_goBack_0 : decode cX5_goBack 0 = .ok (.aload_n 1, 1) := by decide +kernel
theorem dX5_goBack_1 : decode cX5_goBack 1 = .ok (.getfield 21, 3) := by decide +kernel
theorem dX5_goBack_4 : decode cX5_goBack 4 = .ok (.aload_n 0, 1) := by decide +kernel
theorem dX5_goBack_5 : decode cX5_goBack 5 = .ok (.getfield 21, 3) := by decide +kernel
theorem dX5_goBack_8 : decode cX5_goBack 8 = .ok (.invokestatic 56, 3) := by decide +kernel
theorem dX5_goBack_11 : decode cX5_goBack 11 = .ok (.aload_n 0, 1) := by decide +kernel
theorem dX5_goBack_12 : decode cX5_goBack 12 = .ok (.aload_n 1, 1) := by decide +kernel
theorem dX5_goBack_13 : decode cX5_goBack 13 = .ok (.getfield 43, 3) := by decide +kernel
theorem dX5_goBack_16 : decode cX5_goBack 16 = .ok (.putfield 43, 3) := by decide +kernel
theorem dX5_goBack_19 : decode cX5_goBack 19 = .ok (.return_, 1) := by decide +kernel
theorem dX5_enter_0 : decode cX5_enter 0 = .ok (.aload_n 0, 1) := by decide +kernel
theorem dX5_enter_1 : decode cX5_enter 1 = .ok (.getfield 15, 3) := by decide +kernel
theorem dX5_enter_4 : decode cX5_enter 4 = .ok (.aload_n 0, 1) := by decide +kernel
theorem dX5_enter_5 : decode cX5_enter 5 = .ok (.getfield 40, 3) := by decide +kernel
theorem dX5_enter_8 : decode cX5_enter 8 = .ok (.iload_n 1, 1) := by decide +kernel
theorem dX5_enter_9 : decode cX5_enter 9 = .ok (.invokestatic 60, 3) := by decide +kernel
theorem dX5_enter_12 : decode cX5_enter 12 = .ok (.aload_n 0, 1) := by decide +kernel
theorem dX5_enter_13 : decode cX5_enter 13 = .ok (.getfield 18, 3) := by decide +kernel
theorem dX5_enter_16 : decode cX5_enter 16 = .ok (.aload_n 0, 1) := by decide +kernel
theorem dX5_enter_17 : decode cX5_enter 17 = .ok (.getfield 40, 3) := by decide +kernel
theorem dX5_enter_20 : decode cX5_enter 20 = .ok (.iload_n 2, 1) := by decide +kernel
theorem dX5_enter_21 : decode cX5_enter 21 = .ok (.invokestatic 60, 3) := by decide +kernel
theorem dX5_enter_24 : decode cX5_enter 24 = .ok (.aload_n 0, 1) := by decide +kernel
theorem dX5_enter_25 : decode cX5_enter 25 = .ok (.getfield 21, 3) := by decide +kernel
theorem dX5_enter_28 : decode cX5_enter 28 = .ok (.aload_n 0, 1) := by decide +kernel
theorem dX5_enter_29 : decode cX5_enter 29 = .ok (.getfield 40, 3) := by decide +kernel
theorem dX5_enter_32 : decode cX5_enter 32 = .ok (.bipush (-5), 2) := by decide +kernel
theorem dX5_enter_34 : decode cX5_enter 34 = .ok (.invokestatic 60, 3) := by decide +kernel
theorem dX5_enter_37 : decode cX5_enter 37 = .ok (.aload_n 0, 1) := by decide +kernel
theorem dX5_enter_38 : decode cX5_enter 38 = .ok (.dup, 1) := by decide +kernel
theorem dX5_enter_39 : decode cX5_enter 39 = .ok (.getfield 40, 3) := by decide +kernel
theorem dX5_enter_42 : decode cX5_enter 42 = .ok (.iconst 1, 1) := by decide +kernel
theorem dX5_enter_43 : decode cX5_enter 43 = .ok (.iadd, 1) := by decide +kernel
theorem dX5_enter_44 : decode cX5_enter 44 = .ok (.putfield 40, 3) := by decide +kernel
theorem dX5_enter_47 : decode cX5_enter 47 = .ok (.return_, 1) := by decide +kernel
theorem dX5_isReader_0 : decode cX5_isReader 0 = .ok (.iload_n 1, 1) := by decide +kernel
theorem dX5_isReader_1 : decode cX5_isReader 1 = .ok (.ifCond .lt 15, 3) := by decide +kernel
theorem dX5_isReader_4 : decode cX5_isReader 4 = .ok (.iload_n 1, 1) := by decide +kernel
theorem dX5_isReader_5 : decode cX5_isReader 5 = .ok (.aload_n 0, 1) := by decide +kernel
theorem dX5_isReader_6 : decode cX5_isReader 6 = .ok (.getfield 40, 3) := by decide +kernel
theorem dX5_isReader_9 : decode cX5_isReader 9 = .ok (.if_icmp .ge 7, 3) := by decide +kernel
theorem dX5_isReader_12 : decode cX5_isReader 12 = .ok (.iconst 1, 1) := by decide +kernel
theorem dX5_isReader_13 : decode cX5_isReader 13 = .ok (.goto 4, 3) := by decide +kernel
theorem dX5_isReader_16 : decode cX5_isReader 16 = .ok (.iconst 0, 1) := by decide +kernel
theorem dX5_isReader_17 : decode cX5_isReader 17 = .ok (.ireturn, 1) := by decide +kernel
theorem dX5_isBook_0 : decode cX5_isBook 0 = .ok (.iload_n 1, 1) := by decide +kernel
theorem dX5_isBook_1 : decode cX5_isBook 1 = .ok (.ifCond .lt 15, 3) := by decide +kernel
theorem dX5_isBook_4 : decode cX5_isBook 4 = .ok (.iload_n 1, 1) := by decide +kernel
theorem dX5_isBook_5 : decode cX5_isBook 5 = .ok (.aload_n 0, 1) := by decide +kernel
theorem dX5_isBook_6 : decode cX5_isBook 6 = .ok (.getfield 37, 3) := by decide +kernel
theorem dX5_isBook_9 : decode cX5_isBook 9 = .ok (.if_icmp .ge 7, 3) := by decide +kernel
theorem dX5_isBook_12 : decode cX5_isBook 12 = .ok (.iconst 1, 1) := by decide +kernel
theorem dX5_isBook_13 : decode cX5_isBook 13 = .ok (.goto 4, 3) := by decide +kernel
theorem dX5_isBook_16 : decode cX5_isBook 16 = .ok (.iconst 0, 1) := by decide +kernel
theorem dX5_isBook_17 : decode cX5_isBook 17 = .ok (.ireturn, 1) := by decide +kernel
theorem dX5_allBooks_0 : decode cX5_allBooks 0 = .ok (.iconst 1, 1) := by decide +kernel
theorem dX5_allBooks_1 : decode cX5_allBooks 1 = .ok (.aload_n 0, 1) := by decide +kernel
theorem dX5_allBooks_2 : decode cX5_allBooks 2 = .ok (.getfield 37, 3) := by decide +kernel
theorem dX5_allBooks_5 : decode cX5_allBooks 5 = .ok (.ishl, 1) := by decide +kernel
theorem dX5_allBooks_6 : decode cX5_allBooks 6 = .ok (.iconst 1, 1) := by decide +kernel
theorem dX5_allBooks_7 : decode cX5_allBooks 7 = .ok (.isub, 1) := by decide +kernel
theorem dX5_allBooks_8 : decode cX5_allBooks 8 = .ok (.ireturn, 1) := by decide +kernel
theorem dX5_holder_0 : decode cX5_holder 0 = .ok (.iconst 0, 1) := by decide +kernel
theorem dX5_holder_1 : decode cX5_holder 1 = .ok (.istore_n 2, 1) := by decide +kernel
theorem dX5_holder_2 : decode cX5_holder 2 = .ok (.iload_n 2, 1) := by decide +kernel
theorem dX5_holder_3 : decode cX5_holder 3 = .ok (.aload_n 0, 1) := by decide +kernel
theorem dX5_holder_4 : decode cX5_holder 4 = .ok (.getfield 40, 3) := by decide +kernel
theorem dX5_holder_7 : decode cX5_holder 7 = .ok (.if_icmp .ge 30, 3) := by decide +kernel
theorem dX5_holder_10 : decode cX5_holder 10 = .ok (.iload_n 2, 1) := by decide +kernel
theorem dX5_holder_11 : decode cX5_holder 11 = .ok (.aload_n 0, 1) := by decide +kernel
theorem dX5_holder_12 : decode cX5_holder 12 = .ok (.getfield 21, 3) := by decide +kernel
theorem dX5_holder_15 : decode cX5_holder 15 = .ok (.arraylength, 1) := by decide +kernel
theorem dX5_holder_16 : decode cX5_holder 16 = .ok (.if_icmp .ge 21, 3) := by decide +kernel
theorem dX5_holder_19 : decode cX5_holder 19 = .ok (.aload_n 0, 1) := by decide +kernel
theorem dX5_holder_20 : decode cX5_holder 20 = .ok (.getfield 21, 3) := by decide +kernel
theorem dX5_holder_23 : decode cX5_holder 23 = .ok (.iload_n 2, 1) := by decide +kernel
theorem dX5_holder_24 : decode cX5_holder 24 = .ok (.iaload, 1) := by decide +kernel
theorem dX5_holder_25 : decode cX5_holder 25 = .ok (.iload_n 1, 1) := by decide +kernel
theorem dX5_holder_26 : decode cX5_holder 26 = .ok (.if_icmp .ne 5, 3) := by decide +kernel
theorem dX5_holder_29 : decode cX5_holder 29 = .ok (.iload_n 2, 1) := by decide +kernel
theorem dX5_holder_30 : decode cX5_holder 30 = .ok (.ireturn, 1) := by decide +kernel
theorem dX5_holder_31 : decode cX5_holder 31 = .ok (.iinc 2 1, 3) := by decide +kernel
theorem dX5_holder_34 : decode cX5_holder 34 = .ok (.goto (-32), 3) := by decide +kernel
theorem dX5_holder_37 : decode cX5_holder 37 = .ok (.bipush (-5), 2) := by decide +kernel
theorem dX5_holder_39 : decode cX5_holder 39 = .ok (.ireturn, 1) := by decide +kernel
theorem dX5_shelf_0 : decode cX5_shelf 0 = .ok (.aload_n 0, 1) := by decide +kernel
theorem dX5_shelf_1 : decode cX5_shelf 1 = .ok (.invokevirtual 64, 3) := by decide +kernel
theorem dX5_shelf_4 : decode cX5_shelf 4 = .ok (.istore_n 1, 1) := by decide +kernel
theorem dX5_shelf_5 : decode cX5_shelf 5 = .ok (.iconst 0, 1) := by decide +kernel
theorem dX5_shelf_6 : decode cX5_shelf 6 = .ok (.istore_n 2, 1) := by decide +kernel
theorem dX5_shelf_7 : decode cX5_shelf 7 = .ok (.iload_n 2, 1) := by decide +kernel
theorem dX5_shelf_8 : decode cX5_shelf 8 = .ok (.aload_n 0, 1) := by decide +kernel
theorem dX5_shelf_9 : decode cX5_shelf 9 = .ok (.getfield 40, 3) := by decide +kernel
theorem dX5_shelf_12 : decode cX5_shelf 12 = .ok (.if_icmp .ge 32, 3) := by decide +kernel
theorem dX5_shelf_15 : decode cX5_shelf 15 = .ok (.aload_n 0, 1) := by decide +kernel
theorem dX5_shelf_16 : decode cX5_shelf 16 = .ok (.getfield 21, 3) := by decide +kernel
theorem dX5_shelf_19 : decode cX5_shelf 19 = .ok (.iload_n 2, 1) := by decide +kernel
theorem dX5_shelf_20 : decode cX5_shelf 20 = .ok (.invokestatic 68, 3) := by decide +kernel
theorem dX5_shelf_23 : decode cX5_shelf 23 = .ok (.istore_n 3, 1) := by decide +kernel
theorem dX5_shelf_24 : decode cX5_shelf 24 = .ok (.iload_n 3, 1) := by decide +kernel
theorem dX5_shelf_25 : decode cX5_shelf 25 = .ok (.bipush (-5), 2) := by decide +kernel
theorem dX5_shelf_27 : decode cX5_shelf 27 = .ok (.if_icmp .eq 11, 3) := by decide +kernel
theorem dX5_shelf_30 : decode cX5_shelf 30 = .ok (.iload_n 1, 1) := by decide +kernel
theorem dX5_shelf_31 : decode cX5_shelf 31 = .ok (.iconst 1, 1) := by decide +kernel
theorem dX5_shelf_32 : decode cX5_shelf 32 = .ok (.iload_n 3, 1) := by decide +kernel
theorem dX5_shelf_33 : decode cX5_shelf 33 = .ok (.ishl, 1) := by decide +kernel
theorem dX5_shelf_34 : decode cX5_shelf 34 = .ok (.iconst (-1), 1) := by decide +kernel
theorem dX5_shelf_35 : decode cX5_shelf 35 = .ok (.ixor, 1) := by decide +kernel
theorem dX5_shelf_36 : decode cX5_shelf 36 = .ok (.iand, 1) := by decide +kernel
theorem dX5_shelf_37 : decode cX5_shelf 37 = .ok (.istore_n 1, 1) := by decide +kernel
theorem dX5_shelf_38 : decode cX5_shelf 38 = .ok (.iinc 2 1, 3) := by decide +kernel
theorem dX5_shelf_41 : decode cX5_shelf 41 = .ok (.goto (-34), 3) := by decide +kernel
theorem dX5_shelf_44 : decode cX5_shelf 44 = .ok (.iload_n 1, 1) := by decide +kernel
theorem dX5_shelf_45 : decode cX5_shelf 45 = .ok (.ireturn, 1) := by decide +kernel
theorem dX5_shelfThick_0 : decode cX5_shelfThick 0 = .ok (.iconst 0, 1) := by decide +kernel
theorem dX5_shelfThick_1 : decode cX5_shelfThick 1 = .ok (.istore_n 1, 1) := by decide +kernel
theorem dX5_shelfThick_2 : decode cX5_shelfThick 2 = .ok (.iconst 0, 1) := by decide +kernel
theorem dX5_shelfThick_3 : decode cX5_shelfThick 3 = .ok (.istore_n 2, 1) := by decide +kernel
theorem dX5_shelfThick_4 : decode cX5_shelfThick 4 = .ok (.iload_n 2, 1) := by decide +kernel
theorem dX5_shelfThick_5 : decode cX5_shelfThick 5 = .ok (.aload_n 0, 1) := by decide +kernel
theorem dX5_shelfThick_6 : decode cX5_shelfThick 6 = .ok (.getfield 37, 3) := by decide +kernel
theorem dX5_shelfThick_9 : decode cX5_shelfThick 9 = .ok (.if_icmp .ge 30, 3) := by decide +kernel
theorem dX5_shelfThick_12 : decode cX5_shelfThick 12 = .ok (.aload_n 0, 1) := by decide +kernel
theorem dX5_shelfThick_13 : decode cX5_shelfThick 13 = .ok (.iload_n 2, 1) := by decide +kernel
theorem dX5_shelfThick_14 : decode cX5_shelfThick 14 = .ok (.invokevirtual 72, 3) := by decide +kernel
theorem dX5_shelfThick_17 : decode cX5_shelfThick 17 = .ok (.bipush (-5), 2) := by decide +kernel
theorem dX5_shelfThick_19 : decode cX5_shelfThick 19 = .ok (.if_icmp .ne 14, 3) := by decide +kernel
theorem dX5_shelfThick_22 : decode cX5_shelfThick 22 = .ok (.iload_n 1, 1) := by decide +kernel
theorem dX5_shelfThick_23 : decode cX5_shelfThick 23 = .ok (.aload_n 0, 1) := by decide +kernel
theorem dX5_shelfThick_24 : decode cX5_shelfThick 24 = .ok (.getfield 9, 3) := by decide +kernel
theorem dX5_shelfThick_27 : decode cX5_shelfThick 27 = .ok (.iload_n 2, 1) := by decide +kernel
theorem dX5_shelfThick_28 : decode cX5_shelfThick 28 = .ok (.invokestatic 68, 3) := by decide +kernel
theorem dX5_shelfThick_31 : decode cX5_shelfThick 31 = .ok (.iadd, 1) := by decide +kernel
theorem dX5_shelfThick_32 : decode cX5_shelfThick 32 = .ok (.istore_n 1, 1) := by decide +kernel
theorem dX5_shelfThick_33 : decode cX5_shelfThick 33 = .ok (.iinc 2 1, 3) := by decide +kernel
theorem dX5_shelfThick_36 : decode cX5_shelfThick 36 = .ok (.goto (-32), 3) := by decide +kernel
theorem dX5_shelfThick_39 : decode cX5_shelfThick 39 = .ok (.iload_n 1, 1) := by decide +kernel
theorem dX5_shelfThick_40 : decode cX5_shelfThick 40 = .ok (.ireturn, 1) := by decide +kernel
theorem dX5_learnAnew_0 : decode cX5_learnAnew 0 = .ok (.aload_n 0, 1) := by decide +kernel
theorem dX5_learnAnew_1 : decode cX5_learnAnew 1 = .ok (.iconst 0, 1) := by decide +kernel
theorem dX5_learnAnew_2 : decode cX5_learnAnew 2 = .ok (.putfield 33, 3) := by decide +kernel
theorem dX5_learnAnew_5 : decode cX5_learnAnew 5 = .ok (.aload_n 0, 1) := by decide +kernel
theorem dX5_learnAnew_6 : decode cX5_learnAnew 6 = .ok (.invokevirtual 76, 3) := by decide +kernel
theorem dX5_learnAnew_9 : decode cX5_learnAnew 9 = .ok (.return_, 1) := by decide +kernel
theorem dX5_learn_0 : decode cX5_learn 0 = .ok (.aload_n 0, 1) := by decide +kernel
theorem dX5_learn_1 : decode cX5_learn 1 = .ok (.getfield 43, 3) := by decide +kernel
theorem dX5_learn_4 : decode cX5_learn 4 = .ok (.bipush 10, 2) := by decide +kernel
theorem dX5_learn_6 : decode cX5_learn 6 = .ok (.irem, 1) := by decide +kernel
theorem dX5_learn_7 : decode cX5_learn 7 = .ok (.istore_n 1, 1) := by decide +kernel
theorem dX5_learn_8 : decode cX5_learn 8 = .ok (.aload_n 0, 1) := by decide +kernel
theorem dX5_learn_9 : decode cX5_learn 9 = .ok (.getfield 33, 3) := by decide +kernel
theorem dX5_learn_12 : decode cX5_learn 12 = .ok (.iload_n 1, 1) := by decide +kernel
theorem dX5_learn_13 : decode cX5_learn 13 = .ok (.ishr, 1) := by decide +kernel
theorem dX5_learn_14 : decode cX5_learn 14 = .ok (.iconst 1, 1) := by decide +kernel
theorem dX5_learn_15 : decode cX5_learn 15 = .ok (.iand, 1) := by decide +kernel
theorem dX5_learn_16 : decode cX5_learn 16 = .ok (.ifCond .eq 4, 3) := by decide +kernel
theorem dX5_learn_19 : decode cX5_learn 19 = .ok (.return_, 1) := by decide +kernel
theorem dX5_learn_20 : decode cX5_learn 20 = .ok (.aload_n 0, 1) := by decide +kernel
theorem dX5_learn_21 : decode cX5_learn 21 = .ok (.dup, 1) := by decide +kernel
theorem dX5_learn_22 : decode cX5_learn 22 = .ok (.getfield 33, 3) := by decide +kernel
theorem dX5_learn_25 : decode cX5_learn 25 = .ok (.iconst 1, 1) := by decide +kernel
theorem dX5_learn_26 : decode cX5_learn 26 = .ok (.iload_n 1, 1) := by decide +kernel
theorem dX5_learn_27 : decode cX5_learn 27 = .ok (.ishl, 1) := by decide +kernel
theorem dX5_learn_28 : decode cX5_learn 28 = .ok (.ior, 1) := by decide +kernel
theorem dX5_learn_29 : decode cX5_learn 29 = .ok (.putfield 33, 3) := by decide +kernel
theorem dX5_learn_32 : decode cX5_learn 32 = .ok (.aload_n 0, 1) := by decide +kernel
theorem dX5_learn_33 : decode cX5_learn 33 = .ok (.getfield 30, 3) := by decide +kernel
theorem dX5_learn_36 : decode cX5_learn 36 = .ok (.iconst 5, 1) := by decide +kernel
theorem dX5_learn_37 : decode cX5_learn 37 = .ok (.iload_n 1, 1) := by decide +kernel
theorem dX5_learn_38 : decode cX5_learn 38 = .ok (.invokestatic 60, 3) := by decide +kernel
theorem dX5_learn_41 : decode cX5_learn 41 = .ok (.iconst 0, 1) := by decide +kernel
theorem dX5_learn_42 : decode cX5_learn 42 = .ok (.istore_n 2, 1) := by decide +kernel
theorem dX5_learn_43 : decode cX5_learn 43 = .ok (.iload_n 2, 1) := by decide +kernel
theorem dX5_learn_44 : decode cX5_learn 44 = .ok (.aload_n 0, 1) := by decide +kernel
theorem dX5_learn_45 : decode cX5_learn 45 = .ok (.getfield 40, 3) := by decide +kernel
theorem dX5_learn_48 : decode cX5_learn 48 = .ok (.if_icmp .ge 122, 3) := by decide +kernel
theorem dX5_learn_51 : decode cX5_learn 51 = .ok (.aload_n 0, 1) := by decide +kernel
theorem dX5_learn_52 : decode cX5_learn 52 = .ok (.getfield 30, 3) := by decide +kernel
theorem dX5_learn_55 : decode cX5_learn 55 = .ok (.iconst 0, 1) := by decide +kernel
theorem dX5_learn_56 : decode cX5_learn 56 = .ok (.iload_n 2, 1) := by decide +kernel
theorem dX5_learn_57 : decode cX5_learn 57 = .ok (.invokestatic 60, 3) := by decide +kernel
theorem dX5_learn_60 : decode cX5_learn 60 = .ok (.aload_n 0, 1) := by decide +kernel
theorem dX5_learn_61 : decode cX5_learn 61 = .ok (.getfield 30, 3) := by decide +kernel
theorem dX5_learn_64 : decode cX5_learn 64 = .ok (.iconst 1, 1) := by decide +kernel
theorem dX5_learn_65 : decode cX5_learn 65 = .ok (.aload_n 0, 1) := by decide +kernel
theorem dX5_learn_66 : decode cX5_learn 66 = .ok (.getfield 15, 3) := by decide +kernel
theorem dX5_learn_69 : decode cX5_learn 69 = .ok (.iload_n 2, 1) := by decide +kernel
theorem dX5_learn_70 : decode cX5_learn 70 = .ok (.invokestatic 68, 3) := by decide +kernel
theorem dX5_learn_73 : decode cX5_learn 73 = .ok (.invokestatic 60, 3) := by decide +kernel
theorem dX5_learn_76 : decode cX5_learn 76 = .ok (.aload_n 0, 1) := by decide +kernel
theorem dX5_learn_77 : decode cX5_learn 77 = .ok (.getfield 30, 3) := by decide +kernel
theorem dX5_learn_80 : decode cX5_learn 80 = .ok (.iconst 2, 1) := by decide +kernel
theorem dX5_learn_81 : decode cX5_learn 81 = .ok (.aload_n 0, 1) := by decide +kernel
theorem dX5_learn_82 : decode cX5_learn 82 = .ok (.getfield 18, 3) := by decide +kernel
theorem dX5_learn_85 : decode cX5_learn 85 = .ok (.iload_n 2, 1) := by decide +kernel
theorem dX5_learn_86 : decode cX5_learn 86 = .ok (.invokestatic 68, 3) := by decide +kernel
theorem dX5_learn_89 : decode cX5_learn 89 = .ok (.invokestatic 60, 3) := by decide +kernel
theorem dX5_learn_92 : decode cX5_learn 92 = .ok (.iconst 0, 1) := by decide +kernel
theorem dX5_learn_93 : decode cX5_learn 93 = .ok (.istore_n 3, 1) := by decide +kernel
theorem dX5_learn_94 : decode cX5_learn 94 = .ok (.iload_n 3, 1) := by decide +kernel
theorem dX5_learn_95 : decode cX5_learn 95 = .ok (.aload_n 0, 1) := by decide +kernel
theorem dX5_learn_96 : decode cX5_learn 96 = .ok (.getfield 37, 3) := by decide +kernel
theorem dX5_learn_99 : decode cX5_learn 99 = .ok (.if_icmp .ge 65, 3) := by decide +kernel
theorem dX5_learn_102 : decode cX5_learn 102 = .ok (.aload_n 0, 1) := by decide +kernel
theorem dX5_learn_103 : decode cX5_learn 103 = .ok (.getfield 30, 3) := by decide +kernel
theorem dX5_learn_106 : decode cX5_learn 106 = .ok (.iconst 3, 1) := by decide +kernel
theorem dX5_learn_107 : decode cX5_learn 107 = .ok (.iload_n 3, 1) := by decide +kernel
theorem dX5_learn_108 : decode cX5_learn 108 = .ok (.invokestatic 60, 3) := by decide +kernel
theorem dX5_learn_111 : decode cX5_learn 111 = .ok (.aload_n 0, 1) := by decide +kernel
theorem dX5_learn_112 : decode cX5_learn 112 = .ok (.getfield 30, 3) := by decide +kernel
theorem dX5_learn_115 : decode cX5_learn 115 = .ok (.iconst 4, 1) := by decide +kernel
theorem dX5_learn_116 : decode cX5_learn 116 = .ok (.aload_n 0, 1) := by decide +kernel
theorem dX5_learn_117 : decode cX5_learn 117 = .ok (.getfield 9, 3) := by decide +kernel
theorem dX5_learn_120 : decode cX5_learn 120 = .ok (.iload_n 3, 1) := by decide +kernel
theorem dX5_learn_121 : decode cX5_learn 121 = .ok (.invokestatic 68, 3) := by decide +kernel
theorem dX5_learn_124 : decode cX5_learn 124 = .ok (.bipush 10, 2) := by decide +kernel
theorem dX5_learn_126 : decode cX5_learn 126 = .ok (.idiv, 1) := by decide +kernel
theorem dX5_learn_127 : decode cX5_learn 127 = .ok (.invokestatic 60, 3) := by decide +kernel
theorem dX5_learn_130 : decode cX5_learn 130 = .ok (.aload_n 0, 1) := by decide +kernel
theorem dX5_learn_131 : decode cX5_learn 131 = .ok (.getfield 27, 3) := by decide +kernel
theorem dX5_learn_134 : decode cX5_learn 134 = .ok (.iload_n 1, 1) := by decide +kernel
theorem dX5_learn_135 : decode cX5_learn 135 = .ok (.iconst 4, 1) := by decide +kernel
theorem dX5_learn_136 : decode cX5_learn 136 = .ok (.imul, 1) := by decide +kernel
theorem dX5_learn_137 : decode cX5_learn 137 = .ok (.iload_n 2, 1) := by decide +kernel
theorem dX5_learn_138 : decode cX5_learn 138 = .ok (.iadd, 1) := by decide +kernel
theorem dX5_learn_139 : decode cX5_learn 139 = .ok (.bipush 7, 2) := by decide +kernel
theorem dX5_learn_141 : decode cX5_learn 141 = .ok (.imul, 1) := by decide +kernel
theorem dX5_learn_142 : decode cX5_learn 142 = .ok (.iload_n 3, 1) := by decide +kernel
theorem dX5_learn_143 : decode cX5_learn 143 = .ok (.iadd, 1) := by decide +kernel
theorem dX5_learn_144 : decode cX5_learn 144 = .ok (.aload_n 0, 1) := by decide +kernel
theorem dX5_learn_145 : decode cX5_learn 145 = .ok (.getfield 52, 3) := by decide +kernel
theorem dX5_learn_148 : decode cX5_learn 148 = .ok (.aload_n 0, 1) := by decide +kernel
theorem dX5_learn_149 : decode cX5_learn 149 = .ok (.getfield 30, 3) := by decide +kernel
theorem dX5_learn_152 : decode cX5_learn 152 = .ok (.invokevirtual 79, 3) := by decide +kernel
theorem dX5_learn_155 : decode cX5_learn 155 = .ok (.invokestatic 60, 3) := by decide +kernel
theorem dX5_learn_158 : decode cX5_learn 158 = .ok (.iinc 3 1, 3) := by decide +kernel
theorem dX5_learn_161 : decode cX5_learn 161 = .ok (.goto (-67), 3) := by decide +kernel
theorem dX5_learn_164 : decode cX5_learn 164 = .ok (.iinc 2 1, 3) := by decide +kernel
theorem dX5_learn_167 : decode cX5_learn 167 = .ok (.goto (-124), 3) := by decide +kernel
theorem dX5_learn_170 : decode cX5_learn 170 = .ok (.return_, 1) := by decide +kernel
theorem dX5_liking_0 : decode cX5_liking 0 = .ok (.aload_n 0, 1) := by decide +kernel
theorem dX5_liking_1 : decode cX5_liking 1 = .ok (.getfield 27, 3) := by decide +kernel
theorem dX5_liking_4 : decode cX5_liking 4 = .ok (.aload_n 0, 1) := by decide +kernel
theorem dX5_liking_5 : decode cX5_liking 5 = .ok (.getfield 43, 3) := by decide +kernel
theorem dX5_liking_8 : decode cX5_liking 8 = .ok (.bipush 10, 2) := by decide +kernel
theorem dX5_liking_10 : decode cX5_liking 10 = .ok (.irem, 1) := by decide +kernel
theorem dX5_liking_11 : decode cX5_liking 11 = .ok (.iconst 4, 1) := by decide +kernel
theorem dX5_liking_12 : decode cX5_liking 12 = .ok (.imul, 1) := by decide +kernel
theorem dX5_liking_13 : decode cX5_liking 13 = .ok (.iload_n 1, 1) := by decide +kernel
theorem dX5_liking_14 : decode cX5_liking 14 = .ok (.iadd, 1) := by decide +kernel
theorem dX5_liking_15 : decode cX5_liking 15 = .ok (.bipush 7, 2) := by decide +kernel
theorem dX5_liking_17 : decode cX5_liking 17 = .ok (.imul, 1) := by decide +kernel
theorem dX5_liking_18 : decode cX5_liking 18 = .ok (.iload_n 2, 1) := by decide +kernel
theorem dX5_liking_19 : decode cX5_liking 19 = .ok (.iadd, 1) := by decide +kernel
theorem dX5_liking_20 : decode cX5_liking 20 = .ok (.invokestatic 68, 3) := by decide +kernel
theorem dX5_liking_23 : decode cX5_liking 23 = .ok (.istore_n 3, 1) := by decide +kernel
theorem dX5_liking_24 : decode cX5_liking 24 = .ok (.aload_n 0, 1) := by decide +kernel
theorem dX5_liking_25 : decode cX5_liking 25 = .ok (.getfield 9, 3) := by decide +kernel
theorem dX5_liking_28 : decode cX5_liking 28 = .ok (.iload_n 2, 1) := by decide +kernel
theorem dX5_liking_29 : decode cX5_liking 29 = .ok (.invokestatic 68, 3) := by decide +kernel
theorem dX5_liking_32 : decode cX5_liking 32 = .ok (.istore 4, 2) := by decide +kernel
theorem dX5_liking_34 : decode cX5_liking 34 = .ok (.aload_n 0, 1) := by decide +kernel
theorem dX5_liking_35 : decode cX5_liking 35 = .ok (.getfield 21, 3) := by decide +kernel
theorem dX5_liking_38 : decode cX5_liking 38 = .ok (.iload_n 1, 1) := by decide +kernel
theorem dX5_liking_39 : decode cX5_liking 39 = .ok (.invokestatic 68, 3) := by decide +kernel
theorem dX5_liking_42 : decode cX5_liking 42 = .ok (.iload_n 2, 1) := by decide +kernel
theorem dX5_liking_43 : decode cX5_liking 43 = .ok (.if_icmp .ne 14, 3) := by decide +kernel
theorem dX5_liking_46 : decode cX5_liking 46 = .ok (.aload_n 0, 1) := by decide +kernel
theorem dX5_liking_47 : decode cX5_liking 47 = .ok (.getfield 18, 3) := by decide +kernel
theorem dX5_liking_50 : decode cX5_liking 50 = .ok (.iload_n 1, 1) := by decide +kernel
theorem dX5_liking_51 : decode cX5_liking 51 = .ok (.invokestatic 68, 3) := by decide +kernel
theorem dX5_liking_54 : decode cX5_liking 54 = .ok (.goto 4, 3) := by decide +kernel
theorem dX5_liking_57 : decode cX5_liking 57 = .ok (.iconst 0, 1) := by decide +kernel
theorem dX5_liking_58 : decode cX5_liking 58 = .ok (.istore 5, 2) := by decide +kernel
theorem dX5_liking_60 : decode cX5_liking 60 = .ok (.aload_n 0, 1) := by decide +kernel
theorem dX5_liking_61 : decode cX5_liking 61 = .ok (.getfield 15, 3) := by decide +kernel
theorem dX5_liking_64 : decode cX5_liking 64 = .ok (.iload_n 1, 1) := by decide +kernel
theorem dX5_liking_65 : decode cX5_liking 65 = .ok (.invokestatic 68, 3) := by decide +kernel
theorem dX5_liking_68 : decode cX5_liking 68 = .ok (.tableswitch 103 1 6 #[40, 47, 51, 56, 72, 82], 40) := by decide +kernel
theorem dX5_liking_108 : decode cX5_liking 108 = .ok (.iload_n 3, 1) := by decide +kernel
theorem dX5_liking_109 : decode cX5_liking 109 = .ok (.iload 4, 2) := by decide +kernel
theorem dX5_liking_111 : decode cX5_liking 111 = .ok (.iconst 5, 1) := by decide +kernel
theorem dX5_liking_112 : decode cX5_liking 112 = .ok (.idiv, 1) := by decide +kernel
theorem dX5_liking_113 : decode cX5_liking 113 = .ok (.isub, 1) := by decide +kernel
theorem dX5_liking_114 : decode cX5_liking 114 = .ok (.ireturn, 1) := by decide +kernel
theorem dX5_liking_115 : decode cX5_liking 115 = .ok (.iconst 2, 1) := by decide +kernel
theorem dX5_liking_116 : decode cX5_liking 116 = .ok (.iload_n 3, 1) := by decide +kernel
theorem dX5_liking_117 : decode cX5_liking 117 = .ok (.imul, 1) := by decide +kernel
theorem dX5_liking_118 : decode cX5_liking 118 = .ok (.ireturn, 1) := by decide +kernel
theorem dX5_liking_119 : decode cX5_liking 119 = .ok (.iload_n 3, 1) := by decide +kernel
theorem dX5_liking_120 : decode cX5_liking 120 = .ok (.iload 5, 2) := by decide +kernel
theorem dX5_liking_122 : decode cX5_liking 122 = .ok (.iadd, 1) := by decide +kernel
theorem dX5_liking_123 : decode cX5_liking 123 = .ok (.ireturn, 1) := by decide +kernel
theorem dX5_liking_124 : decode cX5_liking 124 = .ok (.iload_n 3, 1) := by decide +kernel
theorem dX5_liking_125 : decode cX5_liking 125 = .ok (.iload 4, 2) := by decide +kernel
theorem dX5_liking_127 : decode cX5_liking 127 = .ok (.iconst 5, 1) := by decide +kernel
theorem dX5_liking_128 : decode cX5_liking 128 = .ok (.idiv, 1) := by decide +kernel
theorem dX5_liking_129 : decode cX5_liking 129 = .ok (.isub, 1) := by decide +kernel
theorem dX5_liking_130 : decode cX5_liking 130 = .ok (.aload_n 0, 1) := by decide +kernel
theorem dX5_liking_131 : decode cX5_liking 131 = .ok (.getfield 18, 3) := by decide +kernel
theorem dX5_liking_134 : decode cX5_liking 134 = .ok (.iload_n 1, 1) := by decide +kernel
theorem dX5_liking_135 : decode cX5_liking 135 = .ok (.invokestatic 68, 3) := by decide +kernel
theorem dX5_liking_138 : decode cX5_liking 138 = .ok (.iadd, 1) := by decide +kernel
theorem dX5_liking_139 : decode cX5_liking 139 = .ok (.ireturn, 1) := by decide +kernel
theorem dX5_liking_140 : decode cX5_liking 140 = .ok (.iconst 2, 1) := by decide +kernel
theorem dX5_liking_141 : decode cX5_liking 141 = .ok (.iload_n 3, 1) := by decide +kernel
theorem dX5_liking_142 : decode cX5_liking 142 = .ok (.imul, 1) := by decide +kernel
theorem dX5_liking_143 : decode cX5_liking 143 = .ok (.iload 4, 2) := by decide +kernel
theorem dX5_liking_145 : decode cX5_liking 145 = .ok (.bipush 10, 2) := by decide +kernel
theorem dX5_liking_147 : decode cX5_liking 147 = .ok (.idiv, 1) := by decide +kernel
theorem dX5_liking_148 : decode cX5_liking 148 = .ok (.iadd, 1) := by decide +kernel
theorem dX5_liking_149 : decode cX5_liking 149 = .ok (.ireturn, 1) := by decide +kernel
theorem dX5_liking_150 : decode cX5_liking 150 = .ok (.iload_n 3, 1) := by decide +kernel
theorem dX5_liking_151 : decode cX5_liking 151 = .ok (.iload 5, 2) := by decide +kernel
theorem dX5_liking_153 : decode cX5_liking 153 = .ok (.iadd, 1) := by decide +kernel
theorem dX5_liking_154 : decode cX5_liking 154 = .ok (.aload_n 0, 1) := by decide +kernel
theorem dX5_liking_155 : decode cX5_liking 155 = .ok (.getfield 24, 3) := by decide +kernel
theorem dX5_liking_158 : decode cX5_liking 158 = .ok (.iload_n 1, 1) := by decide +kernel
theorem dX5_liking_159 : decode cX5_liking 159 = .ok (.iconst 4, 1) := by decide +kernel
theorem dX5_liking_160 : decode cX5_liking 160 = .ok (.imul, 1) := by decide +kernel
theorem dX5_liking_161 : decode cX5_liking 161 = .ok (.iload 4, 2) := by decide +kernel
theorem dX5_liking_163 : decode cX5_liking 163 = .ok (.iconst 4, 1) := by decide +kernel
theorem dX5_liking_164 : decode cX5_liking 164 = .ok (.irem, 1) := by decide +kernel
theorem dX5_liking_165 : decode cX5_liking 165 = .ok (.iadd, 1) := by decide +kernel
theorem dX5_liking_166 : decode cX5_liking 166 = .ok (.invokestatic 68, 3) := by decide +kernel
theorem dX5_liking_169 : decode cX5_liking 169 = .ok (.iadd, 1) := by decide +kernel
theorem dX5_liking_170 : decode cX5_liking 170 = .ok (.ireturn, 1) := by decide +kernel
theorem dX5_liking_171 : decode cX5_liking 171 = .ok (.iload_n 3, 1) := by decide +kernel
theorem dX5_liking_172 : decode cX5_liking 172 = .ok (.ireturn, 1) := by decide +kernel
theorem dX5_likesMost_0 : decode cX5_likesMost 0 = .ok (.iconst 0, 1) := by decide +kernel
theorem dX5_likesMost_1 : decode cX5_likesMost 1 = .ok (.istore_n 3, 1) := by decide +kernel
theorem dX5_likesMost_2 : decode cX5_likesMost 2 = .ok (.iload_n 3, 1) := by decide +kernel
theorem dX5_likesMost_3 : decode cX5_likesMost 3 = .ok (.aload_n 0, 1) := by decide +kernel
theorem dX5_likesMost_4 : decode cX5_likesMost 4 = .ok (.getfield 37, 3) := by decide +kernel
theorem dX5_likesMost_7 : decode cX5_likesMost 7 = .ok (.if_icmp .ge 26, 3) := by decide +kernel
theorem dX5_likesMost_10 : decode cX5_likesMost 10 = .ok (.aload_n 0, 1) := by decide +kernel
theorem dX5_likesMost_11 : decode cX5_likesMost 11 = .ok (.iload_n 1, 1) := by decide +kernel
theorem dX5_likesMost_12 : decode cX5_likesMost 12 = .ok (.iload_n 3, 1) := by decide +kernel
theorem dX5_likesMost_13 : decode cX5_likesMost 13 = .ok (.invokevirtual 83, 3) := by decide +kernel
theorem dX5_likesMost_16 : decode cX5_likesMost 16 = .ok (.aload_n 0, 1) := by decide +kernel
theorem dX5_likesMost_17 : decode cX5_likesMost 17 = .ok (.iload_n 1, 1) := by decide +kernel
theorem dX5_likesMost_18 : decode cX5_likesMost 18 = .ok (.iload_n 2, 1) := by decide +kernel
theorem dX5_likesMost_19 : decode cX5_likesMost 19 = .ok (.invokevirtual 83, 3) := by decide +kernel
theorem dX5_likesMost_22 : decode cX5_likesMost 22 = .ok (.if_icmp .le 5, 3) := by decide +kernel
theorem dX5_likesMost_25 : decode cX5_likesMost 25 = .ok (.iconst 0, 1) := by decide +kernel
theorem dX5_likesMost_26 : decode cX5_likesMost 26 = .ok (.ireturn, 1) := by decide +kernel
theorem dX5_likesMost_27 : decode cX5_likesMost 27 = .ok (.iinc 3 1, 3) := by decide +kernel
theorem dX5_likesMost_30 : decode cX5_likesMost 30 = .ok (.goto (-28), 3) := by decide +kernel
theorem dX5_likesMost_33 : decode cX5_likesMost 33 = .ok (.iconst 1, 1) := by decide +kernel
theorem dX5_likesMost_34 : decode cX5_likesMost 34 = .ok (.ireturn, 1) := by decide +kernel
theorem dX5_total_0 : decode cX5_total 0 = .ok (.iconst 0, 1) := by decide +kernel
theorem dX5_total_1 : decode cX5_total 1 = .ok (.istore_n 1, 1) := by decide +kernel
theorem dX5_total_2 : decode cX5_total 2 = .ok (.iconst 0, 1) := by decide +kernel
theorem dX5_total_3 : decode cX5_total 3 = .ok (.istore_n 2, 1) := by decide +kernel
theorem dX5_total_4 : decode cX5_total 4 = .ok (.iload_n 2, 1) := by decide +kernel
theorem dX5_total_5 : decode cX5_total 5 = .ok (.aload_n 0, 1) := by decide +kernel
theorem dX5_total_6 : decode cX5_total 6 = .ok (.getfield 40, 3) := by decide +kernel
theorem dX5_total_9 : decode cX5_total 9 = .ok (.if_icmp .ge 33, 3) := by decide +kernel
theorem dX5_total_12 : decode cX5_total 12 = .ok (.aload_n 0, 1) := by decide +kernel
theorem dX5_total_13 : decode cX5_total 13 = .ok (.getfield 21, 3) := by decide +kernel
theorem dX5_total_16 : decode cX5_total 16 = .ok (.iload_n 2, 1) := by decide +kernel
theorem dX5_total_17 : decode cX5_total 17 = .ok (.invokestatic 68, 3) := by decide +kernel
theorem dX5_total_20 : decode cX5_total 20 = .ok (.istore_n 3, 1) := by decide +kernel
theorem dX5_total_21 : decode cX5_total 21 = .ok (.iload_n 3, 1) := by decide +kernel
theorem dX5_total_22 : decode cX5_total 22 = .ok (.bipush (-5), 2) := by decide +kernel
theorem dX5_total_24 : decode cX5_total 24 = .ok (.if_icmp .eq 12, 3) := by decide +kernel
theorem dX5_total_27 : decode cX5_total 27 = .ok (.iload_n 1, 1) := by decide +kernel
theorem dX5_total_28 : decode cX5_total 28 = .ok (.aload_n 0, 1) := by decide +kernel
theorem dX5_total_29 : decode cX5_total 29 = .ok (.iload_n 2, 1) := by decide +kernel
theorem dX5_total_30 : decode cX5_total 30 = .ok (.iload_n 3, 1) := by decide +kernel
theorem dX5_total_31 : decode cX5_total 31 = .ok (.invokevirtual 83, 3) := by decide +kernel
theorem dX5_total_34 : decode cX5_total 34 = .ok (.iadd, 1) := by decide +kernel
theorem dX5_total_35 : decode cX5_total 35 = .ok (.istore_n 1, 1) := by decide +kernel
theorem dX5_total_36 : decode cX5_total 36 = .ok (.iinc 2 1, 3) := by decide +kernel
theorem dX5_total_39 : decode cX5_total 39 = .ok (.goto (-35), 3) := by decide +kernel
theorem dX5_total_42 : decode cX5_total 42 = .ok (.iload_n 1, 1) := by decide +kernel
theorem dX5_total_43 : decode cX5_total 43 = .ok (.ireturn, 1) := by decide +kernel
theorem dX5_isThicker_0 : decode cX5_isThicker 0 = .ok (.iload_n 1, 1) := by decide +kernel
theorem dX5_isThicker_1 : decode cX5_isThicker 1 = .ok (.iload_n 2, 1) := by decide +kernel
theorem dX5_isThicker_2 : decode cX5_isThicker 2 = .ok (.isub, 1) := by decide +kernel
theorem dX5_isThicker_3 : decode cX5_isThicker 3 = .ok (.iconst 1, 1) := by decide +kernel
theorem dX5_isThicker_4 : decode cX5_isThicker 4 = .ok (.aload_n 0, 1) := by decide +kernel
theorem dX5_isThicker_5 : decode cX5_isThicker 5 = .ok (.getfield 52, 3) := by decide +kernel
theorem dX5_isThicker_8 : decode cX5_isThicker 8 = .ok (.getfield 87, 3) := by decide +kernel
theorem dX5_isThicker_11 : decode cX5_isThicker 11 = .ok (.invokestatic 90, 3) := by decide +kernel
theorem dX5_isThicker_14 : decode cX5_isThicker 14 = .ok (.if_icmp .lt 7, 3) := by decide +kernel
theorem dX5_isThicker_17 : decode cX5_isThicker 17 = .ok (.iconst 1, 1) := by decide +kernel
theorem dX5_isThicker_18 : decode cX5_isThicker 18 = .ok (.goto 4, 3) := by decide +kernel
theorem dX5_isThicker_21 : decode cX5_isThicker 21 = .ok (.iconst 0, 1) := by decide +kernel
theorem dX5_isThicker_22 : decode cX5_isThicker 22 = .ok (.ireturn, 1) := by decide +kernel
theorem dX5_may_0 : decode cX5_may 0 = .ok (.aload_n 0, 1) := by decide +kernel
theorem dX5_may_1 : decode cX5_may 1 = .ok (.getfield 21, 3) := by decide +kernel
theorem dX5_may_4 : decode cX5_may 4 = .ok (.iload_n 1, 1) := by decide +kernel
theorem dX5_may_5 : decode cX5_may 5 = .ok (.invokestatic 68, 3) := by decide +kernel
theorem dX5_may_8 : decode cX5_may 8 = .ok (.istore_n 3, 1) := by decide +kernel
theorem dX5_may_9 : decode cX5_may 9 = .ok (.iload_n 3, 1) := by decide +kernel
theorem dX5_may_10 : decode cX5_may 10 = .ok (.bipush (-5), 2) := by decide +kernel
theorem dX5_may_12 : decode cX5_may 12 = .ok (.if_icmp .eq 40, 3) := by decide +kernel
theorem dX5_may_15 : decode cX5_may 15 = .ok (.aload_n 0, 1) := by decide +kernel
theorem dX5_may_16 : decode cX5_may 16 = .ok (.iload_n 2, 1) := by decide +kernel
theorem dX5_may_17 : decode cX5_may 17 = .ok (.invokevirtual 72, 3) := by decide +kernel
theorem dX5_may_20 : decode cX5_may 20 = .ok (.bipush (-5), 2) := by decide +kernel
theorem dX5_may_22 : decode cX5_may 22 = .ok (.if_icmp .ne 30, 3) := by decide +kernel
theorem dX5_may_25 : decode cX5_may 25 = .ok (.aload_n 0, 1) := by decide +kernel
theorem dX5_may_26 : decode cX5_may 26 = .ok (.aload_n 0, 1) := by decide +kernel
theorem dX5_may_27 : decode cX5_may 27 = .ok (.getfield 9, 3) := by decide +kernel
theorem dX5_may_30 : decode cX5_may 30 = .ok (.iload_n 3, 1) := by decide +kernel
theorem dX5_may_31 : decode cX5_may 31 = .ok (.invokestatic 68, 3) := by decide +kernel
theorem dX5_may_34 : decode cX5_may 34 = .ok (.aload_n 0, 1) := by decide +kernel
theorem dX5_may_35 : decode cX5_may 35 = .ok (.getfield 9, 3) := by decide +kernel
theorem dX5_may_38 : decode cX5_may 38 = .ok (.iload_n 2, 1) := by decide +kernel
theorem dX5_may_39 : decode cX5_may 39 = .ok (.invokestatic 68, 3) := by decide +kernel
theorem dX5_may_42 : decode cX5_may 42 = .ok (.invokevirtual 95, 3) := by decide +kernel
theorem dX5_may_45 : decode cX5_may 45 = .ok (.ifCond .eq 7, 3) := by decide +kernel
theorem dX5_may_48 : decode cX5_may 48 = .ok (.iconst 1, 1) := by decide +kernel
theorem dX5_may_49 : decode cX5_may 49 = .ok (.goto 4, 3) := by decide +kernel
theorem dX5_may_52 : decode cX5_may 52 = .ok (.iconst 0, 1) := by decide +kernel
theorem dX5_may_53 : decode cX5_may 53 = .ok (.ireturn, 1) := by decide +kernel
theorem dX5_takeable_0 : decode cX5_takeable 0 = .ok (.iconst 0, 1) := by decide +kernel
theorem dX5_takeable_1 : decode cX5_takeable 1 = .ok (.istore_n 2, 1) := by decide +kernel
theorem dX5_takeable_2 : decode cX5_takeable 2 = .ok (.iconst 0, 1) := by decide +kernel
theorem dX5_takeable_3 : decode cX5_takeable 3 = .ok (.istore_n 3, 1) := by decide +kernel
theorem dX5_takeable_4 : decode cX5_takeable 4 = .ok (.iload_n 3, 1) := by decide +kernel
theorem dX5_takeable_5 : decode cX5_takeable 5 = .ok (.aload_n 0, 1) := by decide +kernel
theorem dX5_takeable_6 : decode cX5_takeable 6 = .ok (.getfield 37, 3) := by decide +kernel
theorem dX5_takeable_9 : decode cX5_takeable 9 = .ok (.if_icmp .ge 24, 3) := by decide +kernel
theorem dX5_takeable_12 : decode cX5_takeable 12 = .ok (.aload_n 0, 1) := by decide +kernel
theorem dX5_takeable_13 : decode cX5_takeable 13 = .ok (.iload_n 1, 1) := by decide +kernel
theorem dX5_takeable_14 : decode cX5_takeable 14 = .ok (.iload_n 3, 1) := by decide +kernel
theorem dX5_takeable_15 : decode cX5_takeable 15 = .ok (.invokevirtual 99, 3) := by decide +kernel
theorem dX5_takeable_18 : decode cX5_takeable 18 = .ok (.ifCond .eq 9, 3) := by decide +kernel
theorem dX5_takeable_21 : decode cX5_takeable 21 = .ok (.iload_n 2, 1) := by decide +kernel
theorem dX5_takeable_22 : decode cX5_takeable 22 = .ok (.iconst 1, 1) := by decide +kernel
theorem dX5_takeable_23 : decode cX5_takeable 23 = .ok (.iload_n 3, 1) := by decide +kernel
theorem dX5_takeable_24 : decode cX5_takeable 24 = .ok (.ishl, 1) := by decide +kernel
theorem dX5_takeable_25 : decode cX5_takeable 25 = .ok (.ior, 1) := by decide +kernel
theorem dX5_takeable_26 : decode cX5_takeable 26 = .ok (.istore_n 2, 1) := by decide +kernel
theorem dX5_takeable_27 : decode cX5_takeable 27 = .ok (.iinc 3 1, 3) := by decide +kernel
theorem dX5_takeable_30 : decode cX5_takeable 30 = .ok (.goto (-26), 3) := by decide +kernel
theorem dX5_takeable_33 : decode cX5_takeable 33 = .ok (.iload_n 2, 1) := by decide +kernel
theorem dX5_takeable_34 : decode cX5_takeable 34 = .ok (.ireturn, 1) := by decide +kernel
theorem dX5_choice_0 : decode cX5_choice 0 = .ok (.aload_n 0, 1) := by decide +kernel
theorem dX5_choice_1 : decode cX5_choice 1 = .ok (.getfield 21, 3) := by decide +kernel
theorem dX5_choice_4 : decode cX5_choice 4 = .ok (.iload_n 1, 1) := by decide +kernel
theorem dX5_choice_5 : decode cX5_choice 5 = .ok (.invokestatic 68, 3) := by decide +kernel
theorem dX5_choice_8 : decode cX5_choice 8 = .ok (.istore_n 2, 1) := by decide +kernel
theorem dX5_choice_9 : decode cX5_choice 9 = .ok (.iload_n 2, 1) := by decide +kernel
theorem dX5_choice_10 : decode cX5_choice 10 = .ok (.bipush (-5), 2) := by decide +kernel
theorem dX5_choice_12 : decode cX5_choice 12 = .ok (.if_icmp .ne 6, 3) := by decide +kernel
theorem dX5_choice_15 : decode cX5_choice 15 = .ok (.bipush (-5), 2) := by decide +kernel
theorem dX5_choice_17 : decode cX5_choice 17 = .ok (.ireturn, 1) := by decide +kernel
theorem dX5_choice_18 : decode cX5_choice 18 = .ok (.aload_n 0, 1) := by decide +kernel
theorem dX5_choice_19 : decode cX5_choice 19 = .ok (.getfield 15, 3) := by decide +kernel
theorem dX5_choice_22 : decode cX5_choice 22 = .ok (.iload_n 1, 1) := by decide +kernel
theorem dX5_choice_23 : decode cX5_choice 23 = .ok (.invokestatic 68, 3) := by decide +kernel
theorem dX5_choice_26 : decode cX5_choice 26 = .ok (.iconst 1, 1) := by decide +kernel
theorem dX5_choice_27 : decode cX5_choice 27 = .ok (.if_icmp .eq 15, 3) := by decide +kernel
theorem dX5_choice_30 : decode cX5_choice 30 = .ok (.aload_n 0, 1) := by decide +kernel
theorem dX5_choice_31 : decode cX5_choice 31 = .ok (.getfield 15, 3) := by decide +kernel
theorem dX5_choice_34 : decode cX5_choice 34 = .ok (.iload_n 1, 1) := by decide +kernel
theorem dX5_choice_35 : decode cX5_choice 35 = .ok (.invokestatic 68, 3) := by decide +kernel
theorem dX5_choice_38 : decode cX5_choice 38 = .ok (.iconst 4, 1) := by decide +kernel
theorem dX5_choice_39 : decode cX5_choice 39 = .ok (.if_icmp .ne 7, 3) := by decide +kernel
theorem dX5_choice_42 : decode cX5_choice 42 = .ok (.iconst 1, 1) := by decide +kernel
theorem dX5_choice_43 : decode cX5_choice 43 = .ok (.goto 4, 3) := by decide +kernel
theorem dX5_choice_46 : decode cX5_choice 46 = .ok (.iconst 0, 1) := by decide +kernel
theorem dX5_choice_47 : decode cX5_choice 47 = .ok (.istore_n 3, 1) := by decide +kernel
theorem dX5_choice_48 : decode cX5_choice 48 = .ok (.iload_n 3, 1) := by decide +kernel
theorem dX5_choice_49 : decode cX5_choice 49 = .ok (.ifCond .eq 8, 3) := by decide +kernel
theorem dX5_choice_52 : decode cX5_choice 52 = .ok (.bipush (-100), 2) := by decide +kernel
theorem dX5_choice_54 : decode cX5_choice 54 = .ok (.goto 9, 3) := by decide +kernel
theorem dX5_choice_57 : decode cX5_choice 57 = .ok (.aload_n 0, 1) := by decide +kernel
theorem dX5_choice_58 : decode cX5_choice 58 = .ok (.iload_n 1, 1) := by decide +kernel
theorem dX5_choice_59 : decode cX5_choice 59 = .ok (.iload_n 2, 1) := by decide +kernel
theorem dX5_choice_60 : decode cX5_choice 60 = .ok (.invokevirtual 83, 3) := by decide +kernel
theorem dX5_choice_63 : decode cX5_choice 63 = .ok (.istore 4, 2) := by decide +kernel
theorem dX5_choice_65 : decode cX5_choice 65 = .ok (.bipush (-5), 2) := by decide +kernel
theorem dX5_choice_67 : decode cX5_choice 67 = .ok (.istore 5, 2) := by decide +kernel
theorem dX5_choice_69 : decode cX5_choice 69 = .ok (.iconst 0, 1) := by decide +kernel
theorem dX5_choice_70 : decode cX5_choice 70 = .ok (.istore 6, 2) := by decide +kernel
theorem dX5_choice_72 : decode cX5_choice 72 = .ok (.iload 6, 2) := by decide +kernel
theorem dX5_choice_74 : decode cX5_choice 74 = .ok (.aload_n 0, 1) := by decide +kernel
theorem dX5_choice_75 : decode cX5_choice 75 = .ok (.getfield 37, 3) := by decide +kernel
theorem dX5_choice_78 : decode cX5_choice 78 = .ok (.if_icmp .ge 63, 3) := by decide +kernel
theorem dX5_choice_81 : decode cX5_choice 81 = .ok (.aload_n 0, 1) := by decide +kernel
theorem dX5_choice_82 : decode cX5_choice 82 = .ok (.iload_n 1, 1) := by decide +kernel
theorem dX5_choice_83 : decode cX5_choice 83 = .ok (.iload 6, 2) := by decide +kernel
theorem dX5_choice_85 : decode cX5_choice 85 = .ok (.invokevirtual 99, 3) := by decide +kernel
theorem dX5_choice_88 : decode cX5_choice 88 = .ok (.ifCond .ne 6, 3) := by decide +kernel
theorem dX5_choice_91 : decode cX5_choice 91 = .ok (.goto 44, 3) := by decide +kernel
theorem dX5_choice_94 : decode cX5_choice 94 = .ok (.iload_n 3, 1) := by decide +kernel
theorem dX5_choice_95 : decode cX5_choice 95 = .ok (.ifCond .eq 16, 3) := by decide +kernel
theorem dX5_choice_98 : decode cX5_choice 98 = .ok (.aload_n 0, 1) := by decide +kernel
theorem dX5_choice_99 : decode cX5_choice 99 = .ok (.getfield 9, 3) := by decide +kernel
theorem dX5_choice_102 : decode cX5_choice 102 = .ok (.iload 6, 2) := by decide +kernel
theorem dX5_choice_104 : decode cX5_choice 104 = .ok (.invokestatic 68, 3) := by decide +kernel
theorem dX5_choice_107 : decode cX5_choice 107 = .ok (.ineg, 1) := by decide +kernel
theorem dX5_choice_108 : decode cX5_choice 108 = .ok (.goto 10, 3) := by decide +kernel
theorem dX5_choice_111 : decode cX5_choice 111 = .ok (.aload_n 0, 1) := by decide +kernel
theorem dX5_choice_112 : decode cX5_choice 112 = .ok (.iload_n 1, 1) := by decide +kernel
theorem dX5_choice_113 : decode cX5_choice 113 = .ok (.iload 6, 2) := by decide +kernel
theorem dX5_choice_115 : decode cX5_choice 115 = .ok (.invokevirtual 83, 3) := by decide +kernel
theorem dX5_choice_118 : decode cX5_choice 118 = .ok (.istore 7, 2) := by decide +kernel
theorem dX5_choice_120 : decode cX5_choice 120 = .ok (.iload 7, 2) := by decide +kernel
theorem dX5_choice_122 : decode cX5_choice 122 = .ok (.iload 4, 2) := by decide +kernel
theorem dX5_choice_124 : decode cX5_choice 124 = .ok (.if_icmp .le 11, 3) := by decide +kernel
theorem dX5_choice_127 : decode cX5_choice 127 = .ok (.iload 7, 2) := by decide +kernel
theorem dX5_choice_129 : decode cX5_choice 129 = .ok (.istore 4, 2) := by decide +kernel
theorem dX5_choice_131 : decode cX5_choice 131 = .ok (.iload 6, 2) := by decide +kernel
theorem dX5_choice_133 : decode cX5_choice 133 = .ok (.istore 5, 2) := by decide +kernel
theorem dX5_choice_135 : decode cX5_choice 135 = .ok (.iinc 6 1, 3) := by decide +kernel
theorem dX5_choice_138 : decode cX5_choice 138 = .ok (.goto (-66), 3) := by decide +kernel
theorem dX5_choice_141 : decode cX5_choice 141 = .ok (.iload 5, 2) := by decide +kernel
theorem dX5_choice_143 : decode cX5_choice 143 = .ok (.ireturn, 1) := by decide +kernel
theorem dX5_rests_0 : decode cX5_rests 0 = .ok (.iconst 0, 1) := by decide +kernel
theorem dX5_rests_1 : decode cX5_rests 1 = .ok (.istore_n 1, 1) := by decide +kernel
theorem dX5_rests_2 : decode cX5_rests 2 = .ok (.iload_n 1, 1) := by decide +kernel
theorem dX5_rests_3 : decode cX5_rests 3 = .ok (.aload_n 0, 1) := by decide +kernel
theorem dX5_rests_4 : decode cX5_rests 4 = .ok (.getfield 40, 3) := by decide +kernel
theorem dX5_rests_7 : decode cX5_rests 7 = .ok (.if_icmp .ge 21, 3) := by decide +kernel
theorem dX5_rests_10 : decode cX5_rests 10 = .ok (.aload_n 0, 1) := by decide +kernel
theorem dX5_rests_11 : decode cX5_rests 11 = .ok (.iload_n 1, 1) := by decide +kernel
theorem dX5_rests_12 : decode cX5_rests 12 = .ok (.invokevirtual 102, 3) := by decide +kernel
theorem dX5_rests_15 : decode cX5_rests 15 = .ok (.bipush (-5), 2) := by decide +kernel
theorem dX5_rests_17 : decode cX5_rests 17 = .ok (.if_icmp .eq 5, 3) := by decide +kernel
theorem dX5_rests_20 : decode cX5_rests 20 = .ok (.iconst 0, 1) := by decide +kernel
theorem dX5_rests_21 : decode cX5_rests 21 = .ok (.ireturn, 1) := by decide +kernel
theorem dX5_rests_22 : decode cX5_rests 22 = .ok (.iinc 1 1, 3) := by decide +kernel
theorem dX5_rests_25 : decode cX5_rests 25 = .ok (.goto (-23), 3) := by decide +kernel
theorem dX5_rests_28 : decode cX5_rests 28 = .ok (.iconst 1, 1) := by decide +kernel
theorem dX5_rests_29 : decode cX5_rests 29 = .ok (.ireturn, 1) := by decide +kernel
theorem dX5_isStuck_0 : decode cX5_isStuck 0 = .ok (.iconst 0, 1) := by decide +kernel
theorem dX5_isStuck_1 : decode cX5_isStuck 1 = .ok (.istore_n 1, 1) := by decide +kernel
theorem dX5_isStuck_2 : decode cX5_isStuck 2 = .ok (.iload_n 1, 1) := by decide +kernel
theorem dX5_isStuck_3 : decode cX5_isStuck 3 = .ok (.aload_n 0, 1) := by decide +kernel
theorem dX5_isStuck_4 : decode cX5_isStuck 4 = .ok (.getfield 40, 3) := by decide +kernel
theorem dX5_isStuck_7 : decode cX5_isStuck 7 = .ok (.if_icmp .ge 19, 3) := by decide +kernel
theorem dX5_isStuck_10 : decode cX5_isStuck 10 = .ok (.aload_n 0, 1) := by decide +kernel
theorem dX5_isStuck_11 : decode cX5_isStuck 11 = .ok (.iload_n 1, 1) := by decide +kernel
theorem dX5_isStuck_12 : decode cX5_isStuck 12 = .ok (.invokevirtual 105, 3) := by decide +kernel
theorem dX5_isStuck_15 : decode cX5_isStuck 15 = .ok (.ifCond .eq 5, 3) := by decide +kernel
theorem dX5_isStuck_18 : decode cX5_isStuck 18 = .ok (.iconst 0, 1) := by decide +kernel
theorem dX5_isStuck_19 : decode cX5_isStuck 19 = .ok (.ireturn, 1) := by decide +kernel
theorem dX5_isStuck_20 : decode cX5_isStuck 20 = .ok (.iinc 1 1, 3) := by decide +kernel
theorem dX5_isStuck_23 : decode cX5_isStuck 23 = .ok (.goto (-21), 3) := by decide +kernel
theorem dX5_isStuck_26 : decode cX5_isStuck 26 = .ok (.iconst 1, 1) := by decide +kernel
theorem dX5_isStuck_27 : decode cX5_isStuck 27 = .ok (.ireturn, 1) := by decide +kernel
theorem dX5_comes_0 : decode cX5_comes 0 = .ok (.aload_n 0, 1) := by decide +kernel
theorem dX5_comes_1 : decode cX5_comes 1 = .ok (.iload_n 1, 1) := by decide +kernel
theorem dX5_comes_2 : decode cX5_comes 2 = .ok (.invokevirtual 102, 3) := by decide +kernel
theorem dX5_comes_5 : decode cX5_comes 5 = .ok (.istore_n 2, 1) := by decide +kernel
theorem dX5_comes_6 : decode cX5_comes 6 = .ok (.iload_n 2, 1) := by decide +kernel
theorem dX5_comes_7 : decode cX5_comes 7 = .ok (.bipush (-5), 2) := by decide +kernel
theorem dX5_comes_9 : decode cX5_comes 9 = .ok (.if_icmp .ne 5, 3) := by decide +kernel
theorem dX5_comes_12 : decode cX5_comes 12 = .ok (.iconst 0, 1) := by decide +kernel
theorem dX5_comes_13 : decode cX5_comes 13 = .ok (.ireturn, 1) := by decide +kernel
theorem dX5_comes_14 : decode cX5_comes 14 = .ok (.aload_n 0, 1) := by decide +kernel
theorem dX5_comes_15 : decode cX5_comes 15 = .ok (.getfield 21, 3) := by decide +kernel
theorem dX5_comes_18 : decode cX5_comes 18 = .ok (.iload_n 1, 1) := by decide +kernel
theorem dX5_comes_19 : decode cX5_comes 19 = .ok (.iload_n 2, 1) := by decide +kernel
theorem dX5_comes_20 : decode cX5_comes 20 = .ok (.invokestatic 60, 3) := by decide +kernel
theorem dX5_comes_23 : decode cX5_comes 23 = .ok (.iconst 1, 1) := by decide +kernel
theorem dX5_comes_24 : decode cX5_comes 24 = .ok (.ireturn, 1) := by decide +kernel
theorem dX5_goDay_0 : decode cX5_goDay 0 = .ok (.iconst 0, 1) := by decide +kernel
theorem dX5_goDay_1 : decode cX5_goDay 1 = .ok (.istore_n 1, 1) := by decide +kernel
theorem dX5_goDay_2 : decode cX5_goDay 2 = .ok (.iconst 0, 1) := by decide +kernel
theorem dX5_goDay_3 : decode cX5_goDay 3 = .ok (.istore_n 2, 1) := by decide +kernel
theorem dX5_goDay_4 : decode cX5_goDay 4 = .ok (.iload_n 2, 1) := by decide +kernel
theorem dX5_goDay_5 : decode cX5_goDay 5 = .ok (.aload_n 0, 1) := by decide +kernel
theorem dX5_goDay_6 : decode cX5_goDay 6 = .ok (.getfield 40, 3) := by decide +kernel
theorem dX5_goDay_9 : decode cX5_goDay 9 = .ok (.if_icmp .ge 20, 3) := by decide +kernel
theorem dX5_goDay_12 : decode cX5_goDay 12 = .ok (.aload_n 0, 1) := by decide +kernel
theorem dX5_goDay_13 : decode cX5_goDay 13 = .ok (.iload_n 2, 1) := by decide +kernel
theorem dX5_goDay_14 : decode cX5_goDay 14 = .ok (.invokevirtual 108, 3) := by decide +kernel
theorem dX5_goDay_17 : decode cX5_goDay 17 = .ok (.ifCond .eq 6, 3) := by decide +kernel
theorem dX5_goDay_20 : decode cX5_goDay 20 = .ok (.iinc 1 1, 3) := by decide +kernel
theorem dX5_goDay_23 : decode cX5_goDay 23 = .ok (.iinc 2 1, 3) := by decide +kernel
theorem dX5_goDay_26 : decode cX5_goDay 26 = .ok (.goto (-22), 3) := by decide +kernel
theorem dX5_goDay_29 : decode cX5_goDay 29 = .ok (.aload_n 0, 1) := by decide +kernel
theorem dX5_goDay_30 : decode cX5_goDay 30 = .ok (.dup, 1) := by decide +kernel
theorem dX5_goDay_31 : decode cX5_goDay 31 = .ok (.getfield 43, 3) := by decide +kernel
theorem dX5_goDay_34 : decode cX5_goDay 34 = .ok (.iconst 1, 1) := by decide +kernel
theorem dX5_goDay_35 : decode cX5_goDay 35 = .ok (.iadd, 1) := by decide +kernel
theorem dX5_goDay_36 : decode cX5_goDay 36 = .ok (.putfield 43, 3) := by decide +kernel
theorem dX5_goDay_39 : decode cX5_goDay 39 = .ok (.aload_n 0, 1) := by decide +kernel
theorem dX5_goDay_40 : decode cX5_goDay 40 = .ok (.invokevirtual 76, 3) := by decide +kernel
theorem dX5_goDay_43 : decode cX5_goDay 43 = .ok (.iload_n 1, 1) := by decide +kernel
theorem dX5_goDay_44 : decode cX5_goDay 44 = .ok (.ireturn, 1) := by decide +kernel
theorem dX5_bind_0 : decode cX5_bind 0 = .ok (.aload_n 0, 1) := by decide +kernel
theorem dX5_bind_1 : decode cX5_bind 1 = .ok (.getfield 21, 3) := by decide +kernel
theorem dX5_bind_4 : decode cX5_bind 4 = .ok (.iload_n 1, 1) := by decide +kernel
theorem dX5_bind_5 : decode cX5_bind 5 = .ok (.invokestatic 68, 3) := by decide +kernel
theorem dX5_bind_8 : decode cX5_bind 8 = .ok (.istore_n 3, 1) := by decide +kernel
theorem dX5_bind_9 : decode cX5_bind 9 = .ok (.iload_n 3, 1) := by decide +kernel
theorem dX5_bind_10 : decode cX5_bind 10 = .ok (.bipush (-5), 2) := by decide +kernel
theorem dX5_bind_12 : decode cX5_bind 12 = .ok (.if_icmp .ne 4, 3) := by decide +kernel
theorem dX5_bind_15 : decode cX5_bind 15 = .ok (.return_, 1) := by decide +kernel
theorem dX5_bind_16 : decode cX5_bind 16 = .ok (.iload_n 2, 1) := by decide +kernel
theorem dX5_bind_17 : decode cX5_bind 17 = .ok (.ifCond .eq 13, 3) := by decide +kernel
theorem dX5_bind_20 : decode cX5_bind 20 = .ok (.aload_n 0, 1) := by decide +kernel
theorem dX5_bind_21 : decode cX5_bind 21 = .ok (.getfield 52, 3) := by decide +kernel
theorem dX5_bind_24 : decode cX5_bind 24 = .ok (.getfield 112, 3) := by decide +kernel
theorem dX5_bind_27 : decode cX5_bind 27 = .ok (.goto 11, 3) := by decide +kernel
theorem dX5_bind_30 : decode cX5_bind 30 = .ok (.aload_n 0, 1) := by decide +kernel
theorem dX5_bind_31 : decode cX5_bind 31 = .ok (.getfield 52, 3) := by decide +kernel
theorem dX5_bind_34 : decode cX5_bind 34 = .ok (.getfield 112, 3) := by decide +kernel
theorem dX5_bind_37 : decode cX5_bind 37 = .ok (.ineg, 1) := by decide +kernel
theorem dX5_bind_38 : decode cX5_bind 38 = .ok (.istore 4, 2) := by decide +kernel
theorem dX5_bind_40 : decode cX5_bind 40 = .ok (.aload_n 0, 1) := by decide +kernel
theorem dX5_bind_41 : decode cX5_bind 41 = .ok (.getfield 9, 3) := by decide +kernel
theorem dX5_bind_44 : decode cX5_bind 44 = .ok (.iload_n 3, 1) := by decide +kernel
theorem dX5_bind_45 : decode cX5_bind 45 = .ok (.iconst 1, 1) := by decide +kernel
theorem dX5_bind_46 : decode cX5_bind 46 = .ok (.bipush 99, 2) := by decide +kernel
theorem dX5_bind_48 : decode cX5_bind 48 = .ok (.aload_n 0, 1) := by decide +kernel
theorem dX5_bind_49 : decode cX5_bind 49 = .ok (.getfield 9, 3) := by decide +kernel
theorem dX5_bind_52 : decode cX5_bind 52 = .ok (.iload_n 3, 1) := by decide +kernel
theorem dX5_bind_53 : decode cX5_bind 53 = .ok (.invokestatic 68, 3) := by decide +kernel
theorem dX5_bind_56 : decode cX5_bind 56 = .ok (.iload 4, 2) := by decide +kernel
theorem dX5_bind_58 : decode cX5_bind 58 = .ok (.iadd, 1) := by decide +kernel
theorem dX5_bind_59 : decode cX5_bind 59 = .ok (.invokestatic 115, 3) := by decide +kernel
theorem dX5_bind_62 : decode cX5_bind 62 = .ok (.invokestatic 90, 3) := by decide +kernel
theorem dX5_bind_65 : decode cX5_bind 65 = .ok (.invokestatic 60, 3) := by decide +kernel
theorem dX5_bind_68 : decode cX5_bind 68 = .ok (.aload_n 0, 1) := by decide +kernel
theorem dX5_bind_69 : decode cX5_bind 69 = .ok (.iconst 0, 1) := by decide +kernel
theorem dX5_bind_70 : decode cX5_bind 70 = .ok (.putfield 33, 3) := by decide +kernel
theorem dX5_bind_73 : decode cX5_bind 73 = .ok (.aload_n 0, 1) := by decide +kernel
theorem dX5_bind_74 : decode cX5_bind 74 = .ok (.invokevirtual 76, 3) := by decide +kernel
theorem dX5_bind_77 : decode cX5_bind 77 = .ok (.return_, 1) := by decide +kernel
theorem dX5_trade_0 : decode cX5_trade 0 = .ok (.aload_n 0, 1) := by decide +kernel
theorem dX5_trade_1 : decode cX5_trade 1 = .ok (.iload_n 2, 1) := by decide +kernel
theorem dX5_trade_2 : decode cX5_trade 2 = .ok (.invokevirtual 72, 3) := by decide +kernel
theorem dX5_trade_5 : decode cX5_trade 5 = .ok (.istore_n 3, 1) := by decide +kernel
theorem dX5_trade_6 : decode cX5_trade 6 = .ok (.iload_n 3, 1) := by decide +kernel
theorem dX5_trade_7 : decode cX5_trade 7 = .ok (.bipush (-5), 2) := by decide +kernel
theorem dX5_trade_9 : decode cX5_trade 9 = .ok (.if_icmp .eq 19, 3) := by decide +kernel
theorem dX5_trade_12 : decode cX5_trade 12 = .ok (.aload_n 0, 1) := by decide +kernel
theorem dX5_trade_13 : decode cX5_trade 13 = .ok (.getfield 21, 3) := by decide +kernel
theorem dX5_trade_16 : decode cX5_trade 16 = .ok (.iload_n 3, 1) := by decide +kernel
theorem dX5_trade_17 : decode cX5_trade 17 = .ok (.aload_n 0, 1) := by decide +kernel
theorem dX5_trade_18 : decode cX5_trade 18 = .ok (.getfield 21, 3) := by decide +kernel
theorem dX5_trade_21 : decode cX5_trade 21 = .ok (.iload_n 1, 1) := by decide +kernel
theorem dX5_trade_22 : decode cX5_trade 22 = .ok (.invokestatic 68, 3) := by decide +kernel
theorem dX5_trade_25 : decode cX5_trade 25 = .ok (.invokestatic 60, 3) := by decide +kernel
theorem dX5_trade_28 : decode cX5_trade 28 = .ok (.aload_n 0, 1) := by decide +kernel
theorem dX5_trade_29 : decode cX5_trade 29 = .ok (.getfield 21, 3) := by decide +kernel
theorem dX5_trade_32 : decode cX5_trade 32 = .ok (.iload_n 1, 1) := by decide +kernel
theorem dX5_trade_33 : decode cX5_trade 33 = .ok (.iload_n 2, 1) := by decide +kernel
theorem dX5_trade_34 : decode cX5_trade 34 = .ok (.invokestatic 60, 3) := by decide +kernel
theorem dX5_trade_37 : decode cX5_trade 37 = .ok (.return_, 1) := by decide +kernel
theorem dX5_wouldChange_0 : decode cX5_wouldChange 0 = .ok (.aload_n 0, 1) := by decide +kernel
theorem dX5_wouldChange_1 : decode cX5_wouldChange 1 = .ok (.getfield 21, 3) := by decide +kernel
theorem dX5_wouldChange_4 : decode cX5_wouldChange 4 = .ok (.iload_n 1, 1) := by decide +kernel
theorem dX5_wouldChange_5 : decode cX5_wouldChange 5 = .ok (.invokestatic 68, 3) := by decide +kernel
theorem dX5_wouldChange_8 : decode cX5_wouldChange 8 = .ok (.istore_n 3, 1) := by decide +kernel
theorem dX5_wouldChange_9 : decode cX5_wouldChange 9 = .ok (.aload_n 0, 1) := by decide +kernel
theorem dX5_wouldChange_10 : decode cX5_wouldChange 10 = .ok (.getfield 21, 3) := by decide +kernel
theorem dX5_wouldChange_13 : decode cX5_wouldChange 13 = .ok (.iload_n 2, 1) := by decide +kernel
theorem dX5_wouldChange_14 : decode cX5_wouldChange 14 = .ok (.invokestatic 68, 3) := by decide +kernel
theorem dX5_wouldChange_17 : decode cX5_wouldChange 17 = .ok (.istore 4, 2) := by decide +kernel
theorem dX5_wouldChange_19 : decode cX5_wouldChange 19 = .ok (.iload_n 3, 1) := by decide +kernel
theorem dX5_wouldChange_20 : decode cX5_wouldChange 20 = .ok (.bipush (-5), 2) := by decide +kernel
theorem dX5_wouldChange_22 : decode cX5_wouldChange 22 = .ok (.if_icmp .eq 10, 3) := by decide +kernel
theorem dX5_wouldChange_25 : decode cX5_wouldChange 25 = .ok (.iload 4, 2) := by decide +kernel
theorem dX5_wouldChange_27 : decode cX5_wouldChange 27 = .ok (.bipush (-5), 2) := by decide +kernel
theorem dX5_wouldChange_29 : decode cX5_wouldChange 29 = .ok (.if_icmp .ne 5, 3) := by decide +kernel
theorem dX5_wouldChange_32 : decode cX5_wouldChange 32 = .ok (.iconst 0, 1) := by decide +kernel
theorem dX5_wouldChange_33 : decode cX5_wouldChange 33 = .ok (.ireturn, 1) := by decide +kernel
theorem dX5_wouldChange_34 : decode cX5_wouldChange 34 = .ok (.aload_n 0, 1) := by decide +kernel
theorem dX5_wouldChange_35 : decode cX5_wouldChange 35 = .ok (.iload_n 1, 1) := by decide +kernel
theorem dX5_wouldChange_36 : decode cX5_wouldChange 36 = .ok (.iload 4, 2) := by decide +kernel
theorem dX5_wouldChange_38 : decode cX5_wouldChange 38 = .ok (.invokevirtual 83, 3) := by decide +kernel
theorem dX5_wouldChange_41 : decode cX5_wouldChange 41 = .ok (.aload_n 0, 1) := by decide +kernel
theorem dX5_wouldChange_42 : decode cX5_wouldChange 42 = .ok (.iload_n 1, 1) := by decide +kernel
theorem dX5_wouldChange_43 : decode cX5_wouldChange 43 = .ok (.iload_n 3, 1) := by decide +kernel
theorem dX5_wouldChange_44 : decode cX5_wouldChange 44 = .ok (.invokevirtual 83, 3) := by decide +kernel
theorem dX5_wouldChange_47 : decode cX5_wouldChange 47 = .ok (.if_icmp .le 23, 3) := by decide +kernel
theorem dX5_wouldChange_50 : decode cX5_wouldChange 50 = .ok (.aload_n 0, 1) := by decide +kernel
theorem dX5_wouldChange_51 : decode cX5_wouldChange 51 = .ok (.iload_n 2, 1) := by decide +kernel
theorem dX5_wouldChange_52 : decode cX5_wouldChange 52 = .ok (.iload_n 3, 1) := by decide +kernel
theorem dX5_wouldChange_53 : decode cX5_wouldChange 53 = .ok (.invokevirtual 83, 3) := by decide +kernel
theorem dX5_wouldChange_56 : decode cX5_wouldChange 56 = .ok (.aload_n 0, 1) := by decide +kernel
theorem dX5_wouldChange_57 : decode cX5_wouldChange 57 = .ok (.iload_n 2, 1) := by decide +kernel
theorem dX5_wouldChange_58 : decode cX5_wouldChange 58 = .ok (.iload 4, 2) := by decide +kernel
theorem dX5_wouldChange_60 : decode cX5_wouldChange 60 = .ok (.invokevirtual 83, 3) := by decide +kernel
theorem dX5_wouldChange_63 : decode cX5_wouldChange 63 = .ok (.if_icmp .le 7, 3) := by decide +kernel
theorem dX5_wouldChange_66 : decode cX5_wouldChange 66 = .ok (.iconst 1, 1) := by decide +kernel
theorem dX5_wouldChange_67 : decode cX5_wouldChange 67 = .ok (.goto 4, 3) := by decide +kernel
theorem dX5_wouldChange_70 : decode cX5_wouldChange 70 = .ok (.iconst 0, 1) := by decide +kernel
theorem dX5_wouldChange_71 : decode cX5_wouldChange 71 = .ok (.ireturn, 1) := by decide +kernel
theorem dX5_holding_0 : decode cX5_holding 0 = .ok (.iconst 0, 1) := by decide +kernel
theorem dX5_holding_1 : decode cX5_holding 1 = .ok (.istore_n 1, 1) := by decide +kernel
theorem dX5_holding_2 : decode cX5_holding 2 = .ok (.iconst 0, 1) := by decide +kernel
theorem dX5_holding_3 : decode cX5_holding 3 = .ok (.istore_n 2, 1) := by decide +kernel
theorem dX5_holding_4 : decode cX5_holding 4 = .ok (.iload_n 2, 1) := by decide +kernel
theorem dX5_holding_5 : decode cX5_holding 5 = .ok (.aload_n 0, 1) := by decide +kernel
theorem dX5_holding_6 : decode cX5_holding 6 = .ok (.getfield 40, 3) := by decide +kernel
theorem dX5_holding_9 : decode cX5_holding 9 = .ok (.if_icmp .ge 36, 3) := by decide +kernel
theorem dX5_holding_12 : decode cX5_holding 12 = .ok (.aload_n 0, 1) := by decide +kernel
theorem dX5_holding_13 : decode cX5_holding 13 = .ok (.getfield 21, 3) := by decide +kernel
theorem dX5_holding_16 : decode cX5_holding 16 = .ok (.iload_n 2, 1) := by decide +kernel
theorem dX5_holding_17 : decode cX5_holding 17 = .ok (.invokestatic 68, 3) := by decide +kernel
theorem dX5_holding_20 : decode cX5_holding 20 = .ok (.istore_n 3, 1) := by decide +kernel
theorem dX5_holding_21 : decode cX5_holding 21 = .ok (.iload_n 1, 1) := by decide +kernel
theorem dX5_holding_22 : decode cX5_holding 22 = .ok (.bipush 8, 2) := by decide +kernel
theorem dX5_holding_24 : decode cX5_holding 24 = .ok (.imul, 1) := by decide +kernel
theorem dX5_holding_25 : decode cX5_holding 25 = .ok (.iload_n 3, 1) := by decide +kernel
theorem dX5_holding_26 : decode cX5_holding 26 = .ok (.bipush (-5), 2) := by decide +kernel
theorem dX5_holding_28 : decode cX5_holding 28 = .ok (.if_icmp .ne 8, 3) := by decide +kernel
theorem dX5_holding_31 : decode cX5_holding 31 = .ok (.bipush 7, 2) := by decide +kernel
theorem dX5_holding_33 : decode cX5_holding 33 = .ok (.goto 4, 3) := by decide +kernel
theorem dX5_holding_36 : decode cX5_holding 36 = .ok (.iload_n 3, 1) := by decide +kernel
theorem dX5_holding_37 : decode cX5_holding 37 = .ok (.iadd, 1) := by decide +kernel
theorem dX5_holding_38 : decode cX5_holding 38 = .ok (.istore_n 1, 1) := by decide +kernel
theorem dX5_holding_39 : decode cX5_holding 39 = .ok (.iinc 2 1, 3) := by decide +kernel
theorem dX5_holding_42 : decode cX5_holding 42 = .ok (.goto (-38), 3) := by decide +kernel
theorem dX5_holding_45 : decode cX5_holding 45 = .ok (.iload_n 1, 1) := by decide +kernel
theorem dX5_holding_46 : decode cX5_holding 46 = .ok (.ireturn, 1) := by decide +kernel
theorem dX5_hold_0 : decode cX5_hold 0 = .ok (.iconst 0, 1) := by decide +kernel
theorem dX5_hold_1 : decode cX5_hold 1 = .ok (.istore_n 2, 1) := by decide +kernel
theorem dX5_hold_2 : decode cX5_hold 2 = .ok (.iload_n 2, 1) := by decide +kernel
theorem dX5_hold_3 : decode cX5_hold 3 = .ok (.aload_n 0, 1) := by decide +kernel
theorem dX5_hold_4 : decode cX5_hold 4 = .ok (.getfield 40, 3) := by decide +kernel
theorem dX5_hold_7 : decode cX5_hold 7 = .ok (.if_icmp .ge 39, 3) := by decide +kernel
theorem dX5_hold_10 : decode cX5_hold 10 = .ok (.iload_n 1, 1) := by decide +kernel
theorem dX5_hold_11 : decode cX5_hold 11 = .ok (.iload_n 2, 1) := by decide +kernel
theorem dX5_hold_12 : decode cX5_hold 12 = .ok (.aload_n 0, 1) := by decide +kernel
theorem dX5_hold_13 : decode cX5_hold 13 = .ok (.getfield 40, 3) := by decide +kernel
theorem dX5_hold_16 : decode cX5_hold 16 = .ok (.invokestatic 118, 3) := by decide +kernel
theorem dX5_hold_19 : decode cX5_hold 19 = .ok (.istore_n 3, 1) := by decide +kernel
theorem dX5_hold_20 : decode cX5_hold 20 = .ok (.aload_n 0, 1) := by decide +kernel
theorem dX5_hold_21 : decode cX5_hold 21 = .ok (.getfield 21, 3) := by decide +kernel
theorem dX5_hold_24 : decode cX5_hold 24 = .ok (.iload_n 2, 1) := by decide +kernel
theorem dX5_hold_25 : decode cX5_hold 25 = .ok (.iload_n 3, 1) := by decide +kernel
theorem dX5_hold_26 : decode cX5_hold 26 = .ok (.bipush 7, 2) := by decide +kernel
theorem dX5_hold_28 : decode cX5_hold 28 = .ok (.if_icmp .ne 8, 3) := by decide +kernel
theorem dX5_hold_31 : decode cX5_hold 31 = .ok (.bipush (-5), 2) := by decide +kernel
theorem dX5_hold_33 : decode cX5_hold 33 = .ok (.goto 4, 3) := by decide +kernel
theorem dX5_hold_36 : decode cX5_hold 36 = .ok (.iload_n 3, 1) := by decide +kernel
theorem dX5_hold_37 : decode cX5_hold 37 = .ok (.invokestatic 60, 3) := by decide +kernel
theorem dX5_hold_40 : decode cX5_hold 40 = .ok (.iinc 2 1, 3) := by decide +kernel
theorem dX5_hold_43 : decode cX5_hold 43 = .ok (.goto (-41), 3) := by decide +kernel
theorem dX5_hold_46 : decode cX5_hold 46 = .ok (.return_, 1) := by decide +kernel
theorem dJ6_bitCount_0f7a4_0 : decode cJ6_bitCount_0f7a4 0 = .ok (.iload_n 0, 1) := by decide +kernel
theorem dJ6_bitCount_0f7a4_1 : decode cJ6_bitCount_0f7a4 1 = .ok (.iload_n 0, 1) := by decide +kernel
theorem dJ6_bitCount_0f7a4_2 : decode cJ6_bitCount_0f7a4 2 = .ok (.iconst 1, 1) := by decide +kernel
theorem dJ6_bitCount_0f7a4_3 : decode cJ6_bitCount_0f7a4 3 = .ok (.iushr, 1) := by decide +kernel
theorem dJ6_bitCount_0f7a4_4 : decode cJ6_bitCount_0f7a4 4 = .ok (.ldc_w 265, 3) := by decide +kernel
theorem dJ6_bitCount_0f7a4_7 : decode cJ6_bitCount_0f7a4 7 = .ok (.iand, 1) := by decide +kernel
theorem dJ6_bitCount_0f7a4_8 : decode cJ6_bitCount_0f7a4 8 = .ok (.isub, 1) := by decide +kernel
theorem dJ6_bitCount_0f7a4_9 : decode cJ6_bitCount_0f7a4 9 = .ok (.istore_n 0, 1) := by decide +kernel
theorem dJ6_bitCount_0f7a4_10 : decode cJ6_bitCount_0f7a4 10 = .ok (.iload_n 0, 1) := by decide +kernel
theorem dJ6_bitCount_0f7a4_11 : decode cJ6_bitCount_0f7a4 11 = .ok (.ldc_w 266, 3) := by decide +kernel
theorem dJ6_bitCount_0f7a4_14 : decode cJ6_bitCount_0f7a4 14 = .ok (.iand, 1) := by decide +kernel
theorem dJ6_bitCount_0f7a4_15 : decode cJ6_bitCount_0f7a4 15 = .ok (.iload_n 0, 1) := by decide +kernel
theorem dJ6_bitCount_0f7a4_16 : decode cJ6_bitCount_0f7a4 16 = .ok (.iconst 2, 1) := by decide +kernel
theorem dJ6_bitCount_0f7a4_17 : decode cJ6_bitCount_0f7a4 17 = .ok (.iushr, 1) := by decide +kernel
theorem dJ6_bitCount_0f7a4_18 : decode cJ6_bitCount_0f7a4 18 = .ok (.ldc_w 266, 3) := by decide +kernel
theorem dJ6_bitCount_0f7a4_21 : decode cJ6_bitCount_0f7a4 21 = .ok (.iand, 1) := by decide +kernel
theorem dJ6_bitCount_0f7a4_22 : decode cJ6_bitCount_0f7a4 22 = .ok (.iadd, 1) := by decide +kernel
theorem dJ6_bitCount_0f7a4_23 : decode cJ6_bitCount_0f7a4 23 = .ok (.istore_n 0, 1) := by decide +kernel
theorem dJ6_bitCount_0f7a4_24 : decode cJ6_bitCount_0f7a4 24 = .ok (.iload_n 0, 1) := by decide +kernel
theorem dJ6_bitCount_0f7a4_25 : decode cJ6_bitCount_0f7a4 25 = .ok (.iload_n 0, 1) := by decide +kernel
theorem dJ6_bitCount_0f7a4_26 : decode cJ6_bitCount_0f7a4 26 = .ok (.iconst 4, 1) := by decide +kernel
theorem dJ6_bitCount_0f7a4_27 : decode cJ6_bitCount_0f7a4 27 = .ok (.iushr, 1) := by decide +kernel
theorem dJ6_bitCount_0f7a4_28 : decode cJ6_bitCount_0f7a4 28 = .ok (.iadd, 1) := by decide +kernel
theorem dJ6_bitCount_0f7a4_29 : decode cJ6_bitCount_0f7a4 29 = .ok (.ldc_w 267, 3) := by decide +kernel
theorem dJ6_bitCount_0f7a4_32 : decode cJ6_bitCount_0f7a4 32 = .ok (.iand, 1) := by decide +kernel
theorem dJ6_bitCount_0f7a4_33 : decode cJ6_bitCount_0f7a4 33 = .ok (.istore_n 0, 1) := by decide +kernel
theorem dJ6_bitCount_0f7a4_34 : decode cJ6_bitCount_0f7a4 34 = .ok (.iload_n 0, 1) := by decide +kernel
theorem dJ6_bitCount_0f7a4_35 : decode cJ6_bitCount_0f7a4 35 = .ok (.iload_n 0, 1) := by decide +kernel
theorem dJ6_bitCount_0f7a4_36 : decode cJ6_bitCount_0f7a4 36 = .ok (.bipush 8, 2) := by decide +kernel
theorem dJ6_bitCount_0f7a4_38 : decode cJ6_bitCount_0f7a4 38 = .ok (.iushr, 1) := by decide +kernel
theorem dJ6_bitCount_0f7a4_39 : decode cJ6_bitCount_0f7a4 39 = .ok (.iadd, 1) := by decide +kernel
theorem dJ6_bitCount_0f7a4_40 : decode cJ6_bitCount_0f7a4 40 = .ok (.istore_n 0, 1) := by decide +kernel
theorem dJ6_bitCount_0f7a4_41 : decode cJ6_bitCount_0f7a4 41 = .ok (.iload_n 0, 1) := by decide +kernel
theorem dJ6_bitCount_0f7a4_42 : decode cJ6_bitCount_0f7a4 42 = .ok (.iload_n 0, 1) := by decide +kernel
theorem dJ6_bitCount_0f7a4_43 : decode cJ6_bitCount_0f7a4 43 = .ok (.bipush 16, 2) := by decide +kernel
theorem dJ6_bitCount_0f7a4_45 : decode cJ6_bitCount_0f7a4 45 = .ok (.iushr, 1) := by decide +kernel
theorem dJ6_bitCount_0f7a4_46 : decode cJ6_bitCount_0f7a4 46 = .ok (.iadd, 1) := by decide +kernel
theorem dJ6_bitCount_0f7a4_47 : decode cJ6_bitCount_0f7a4 47 = .ok (.istore_n 0, 1) := by decide +kernel
theorem dJ6_bitCount_0f7a4_48 : decode cJ6_bitCount_0f7a4 48 = .ok (.iload_n 0, 1) := by decide +kernel
theorem dJ6_bitCount_0f7a4_49 : decode cJ6_bitCount_0f7a4 49 = .ok (.bipush 63, 2) := by decide +kernel
theorem dJ6_bitCount_0f7a4_51 : decode cJ6_bitCount_0f7a4 51 = .ok (.iand, 1) := by decide +kernel
theorem dJ6_bitCount_0f7a4_52 : decode cJ6_bitCount_0f7a4 52 = .ok (.ireturn, 1) := by decide +kernel
theorem dJ9_max_7cf53_0 : decode cJ9_max_7cf53 0 = .ok (.iload_n 0, 1) := by decide +kernel
theorem dJ9_max_7cf53_1 : decode cJ9_max_7cf53 1 = .ok (.iload_n 1, 1) := by decide +kernel
theorem dJ9_max_7cf53_2 : decode cJ9_max_7cf53 2 = .ok (.if_icmp .lt 7, 3) := by decide +kernel
theorem dJ9_max_7cf53_5 : decode cJ9_max_7cf53 5 = .ok (.iload_n 0, 1) := by decide +kernel
theorem dJ9_max_7cf53_6 : decode cJ9_max_7cf53 6 = .ok (.goto 4, 3) := by decide +kernel
theorem dJ9_max_7cf53_9 : decode cJ9_max_7cf53 9 = .ok (.iload_n 1, 1) := by decide +kernel
theorem dJ9_max_7cf53_10 : decode cJ9_max_7cf53 10 = .ok (.ireturn, 1) := by decide +kernel
theorem dJ9_min_7cf53_0 : decode cJ9_min_7cf53 0 = .ok (.iload_n 0, 1) := by decide +kernel
theorem dJ9_min_7cf53_1 : decode cJ9_min_7cf53 1 = .ok (.iload_n 1, 1) := by decide +kernel
theorem dJ9_min_7cf53_2 : decode cJ9_min_7cf53 2 = .ok (.if_icmp .gt 7, 3) := by decide +kernel
theorem dJ9_min_7cf53_5 : decode cJ9_min_7cf53 5 = .ok (.iload_n 0, 1) := by decide +kernel
theorem dJ9_min_7cf53_6 : decode cJ9_min_7cf53 6 = .ok (.goto 4, 3) := by decide +kernel
theorem dJ9_min_7cf53_9 : decode cJ9_min_7cf53 9 = .ok (.iload_n 1, 1) := by decide +kernel
theorem dJ9_min_7cf53_10 : decode cJ9_min_7cf53 10 = .ok (.ireturn, 1) := by decide +kernel
theorem dJ0_length_8abf5_0 : decode cJ0_length_8abf5 0 = .ok (.aload_n 0, 1) := by decide +kernel
theorem dJ0_length_8abf5_1 : decode cJ0_length_8abf5 1 = .ok (.getfield 9, 3) := by decide +kernel
theorem dJ0_length_8abf5_4 : decode cJ0_length_8abf5 4 = .ok (.arraylength, 1) := by decide +kernel
theorem dJ0_length_8abf5_5 : decode cJ0_length_8abf5 5 = .ok (.aload_n 0, 1) := by decide +kernel
theorem dJ0_length_8abf5_6 : decode cJ0_length_8abf5 6 = .ok (.invokevirtual 335, 3) := by decide +kernel
theorem dJ0_length_8abf5_9 : decode cJ0_length_8abf5 9 = .ok (.ishr, 1) := by decide +kernel
theorem dJ0_length_8abf5_10 : decode cJ0_length_8abf5 10 = .ok (.ireturn, 1) := by decide +kernel
theorem dJ0_charAt_5068e_0 : decode cJ0_charAt_5068e 0 = .ok (.aload_n 0, 1) := by decide +kernel
theorem dJ0_charAt_5068e_1 : decode cJ0_charAt_5068e 1 = .ok (.invokevirtual 492, 3) := by decide +kernel
theorem dJ0_charAt_5068e_4 : decode cJ0_charAt_5068e 4 = .ok (.ifCond .eq 12, 3) := by decide +kernel
theorem dJ0_charAt_5068e_7 : decode cJ0_charAt_5068e 7 = .ok (.aload_n 0, 1) := by decide +kernel
theorem dJ0_charAt_5068e_8 : decode cJ0_charAt_5068e 8 = .ok (.getfield 9, 3) := by decide +kernel
theorem dJ0_charAt_5068e_11 : decode cJ0_charAt_5068e 11 = .ok (.iload_n 1, 1) := by decide +kernel
theorem dJ0_charAt_5068e_12 : decode cJ0_charAt_5068e 12 = .ok (.invokestatic 495, 3) := by decide +kernel
theorem dJ0_charAt_5068e_15 : decode cJ0_charAt_5068e 15 = .ok (.ireturn, 1) := by decide +kernel
theorem dJ0_charAt_5068e_16 : decode cJ0_charAt_5068e 16 = .ok (.aload_n 0, 1) := by decide +kernel
theorem dJ0_charAt_5068e_17 : decode cJ0_charAt_5068e 17 = .ok (.getfield 9, 3) := by decide +kernel
theorem dJ0_charAt_5068e_20 : decode cJ0_charAt_5068e 20 = .ok (.iload_n 1, 1) := by decide +kernel
theorem dJ0_charAt_5068e_21 : decode cJ0_charAt_5068e 21 = .ok (.invokestatic 498, 3) := by decide +kernel
theorem dJ0_charAt_5068e_24 : decode cJ0_charAt_5068e 24 = .ok (.ireturn, 1) := by decide +kernel
theorem dJ0_coder_7d493_0 : decode cJ0_coder_7d493 0 = .ok (.getstatic 38, 3) := by decide +kernel
theorem dJ0_coder_7d493_3 : decode cJ0_coder_7d493 3 = .ok (.ifCond .eq 10, 3) := by decide +kernel
theorem dJ0_coder_7d493_6 : decode cJ0_coder_7d493 6 = .ok (.aload_n 0, 1) := by decide +kernel
theorem dJ0_coder_7d493_7 : decode cJ0_coder_7d493 7 = .ok (.getfield 15, 3) := by decide +kernel
theorem dJ0_coder_7d493_10 : decode cJ0_coder_7d493 10 = .ok (.goto 4, 3) := by decide +kernel
theorem dJ0_coder_7d493_13 : decode cJ0_coder_7d493 13 = .ok (.iconst 1, 1) := by decide +kernel
theorem dJ0_coder_7d493_14 : decode cJ0_coder_7d493 14 = .ok (.ireturn, 1) := by decide +kernel
theorem dJ0_isLatin1_aae02_0 : decode cJ0_isLatin1_aae02 0 = .ok (.getstatic 38, 3) := by decide +kernel
theorem dJ0_isLatin1_aae02_3 : decode cJ0_isLatin1_aae02 3 = .ok (.ifCond .eq 14, 3) := by decide +kernel
theorem dJ0_isLatin1_aae02_6 : decode cJ0_isLatin1_aae02 6 = .ok (.aload_n 0, 1) := by decide +kernel
theorem dJ0_isLatin1_aae02_7 : decode cJ0_isLatin1_aae02 7 = .ok (.getfield 15, 3) := by decide +kernel
theorem dJ0_isLatin1_aae02_10 : decode cJ0_isLatin1_aae02 10 = .ok (.ifCond .ne 7, 3) := by decide +kernel
theorem dJ0_isLatin1_aae02_13 : decode cJ0_isLatin1_aae02 13 = .ok (.iconst 1, 1) := by decide +kernel
theorem dJ0_isLatin1_aae02_14 : decode cJ0_isLatin1_aae02 14 = .ok (.goto 4, 3) := by decide +kernel
theorem dJ0_isLatin1_aae02_17 : decode cJ0_isLatin1_aae02 17 = .ok (.iconst 0, 1) := by decide +kernel
theorem dJ0_isLatin1_aae02_18 : decode cJ0_isLatin1_aae02 18 = .ok (.ireturn, 1) := by decide +kernel
theorem dJ0_checkIndex_df160_0 : decode cJ0_checkIndex_df160 0 = .ok (.iload_n 0, 1) := by decide +kernel
theorem dJ0_checkIndex_df160_1 : decode cJ0_checkIndex_df160 1 = .ok (.iload_n 1, 1) := by decide +kernel
theorem dJ0_checkIndex_df160_2 : decode cJ0_checkIndex_df160 2 = .ok (.getstatic 1053, 3) := by decide +kernel
theorem dJ0_checkIndex_df160_5 : decode cJ0_checkIndex_df160 5 = .ok (.invokestatic 1059, 3) := by decide +kernel
theorem dJ0_checkIndex_df160_8 : decode cJ0_checkIndex_df160 8 = .ok (.pop, 1) := by decide +kernel
theorem dJ0_checkIndex_df160_9 : decode cJ0_checkIndex_df160 9 = .ok (.return_, 1) := by decide +kernel
theorem dJ1_charAt_3b067_0 : decode cJ1_charAt_3b067 0 = .ok (.iload_n 1, 1) := by decide +kernel
theorem dJ1_charAt_3b067_1 : decode cJ1_charAt_3b067 1 = .ok (.aload_n 0, 1) := by decide +kernel
theorem dJ1_charAt_3b067_2 : decode cJ1_charAt_3b067 2 = .ok (.arraylength, 1) := by decide +kernel
theorem dJ1_charAt_3b067_3 : decode cJ1_charAt_3b067 3 = .ok (.invokestatic 9, 3) := by decide +kernel
theorem dJ1_charAt_3b067_6 : decode cJ1_charAt_3b067 6 = .ok (.aload_n 0, 1) := by decide +kernel
theorem dJ1_charAt_3b067_7 : decode cJ1_charAt_3b067 7 = .ok (.iload_n 1, 1) := by decide +kernel
theorem dJ1_charAt_3b067_8 : decode cJ1_charAt_3b067 8 = .ok (.baload, 1) := by decide +kernel
theorem dJ1_charAt_3b067_9 : decode cJ1_charAt_3b067 9 = .ok (.sipush 255, 3) := by decide +kernel
theorem dJ1_charAt_3b067_12 : decode cJ1_charAt_3b067 12 = .ok (.iand, 1) := by decide +kernel
theorem dJ1_charAt_3b067_13 : decode cJ1_charAt_3b067 13 = .ok (.i2c, 1) := by decide +kernel
theorem dJ1_charAt_3b067_14 : decode cJ1_charAt_3b067 14 = .ok (.ireturn, 1) := by decide +kernel
theorem dJ2_getChar_3b067_0 : decode cJ2_getChar_3b067 0 = .ok (.getstatic 44, 3) := by decide +kernel
theorem dJ2_getChar_3b067_3 : decode cJ2_getChar_3b067 3 = .ok (.ifCond .ne 25, 3) := by decide +kernel
theorem dJ2_getChar_3b067_6 : decode cJ2_getChar_3b067 6 = .ok (.iload_n 1, 1) := by decide +kernel
theorem dJ2_getChar_3b067_7 : decode cJ2_getChar_3b067 7 = .ok (.ifCond .lt 11, 3) := by decide +kernel
theorem dJ2_getChar_3b067_10 : decode cJ2_getChar_3b067 10 = .ok (.iload_n 1, 1) := by decide +kernel
theorem dJ2_getChar_3b067_11 : decode cJ2_getChar_3b067 11 = .ok (.aload_n 0, 1) := by decide +kernel
theorem dJ2_getChar_3b067_12 : decode cJ2_getChar_3b067 12 = .ok (.invokestatic 48, 3) := by decide +kernel
theorem dJ2_getChar_3b067_15 : decode cJ2_getChar_3b067 15 = .ok (.if_icmp .lt 13, 3) := by decide +kernel
theorem dJ2_getChar_3b067_18 : decode cJ2_getChar_3b067 18 = .ok (.new 52, 3) := by decide +kernel
theorem dJ2_getChar_3b067_21 : decode cJ2_getChar_3b067 21 = .ok (.dup, 1) := by decide +kernel
theorem dJ2_getChar_3b067_22 : decode cJ2_getChar_3b067 22 = .ok (.ldc 54, 2) := by decide +kernel
theorem dJ2_getChar_3b067_24 : decode cJ2_getChar_3b067 24 = .ok (.invokespecial 56, 3) := by decide +kernel
theorem dJ2_getChar_3b067_27 : decode cJ2_getChar_3b067 27 = .ok (.athrow, 1) := by decide +kernel
theorem dJ2_getChar_3b067_28 : decode cJ2_getChar_3b067 28 = .ok (.iload_n 1, 1) := by decide +kernel
theorem dJ2_getChar_3b067_29 : decode cJ2_getChar_3b067 29 = .ok (.iconst 1, 1) := by decide +kernel
theorem dJ2_getChar_3b067_30 : decode cJ2_getChar_3b067 30 = .ok (.ishl, 1) := by decide +kernel
theorem dJ2_getChar_3b067_31 : decode cJ2_getChar_3b067 31 = .ok (.istore_n 1, 1) := by decide +kernel
theorem dJ2_getChar_3b067_32 : decode cJ2_getChar_3b067 32 = .ok (.aload_n 0, 1) := by decide +kernel
theorem dJ2_getChar_3b067_33 : decode cJ2_getChar_3b067 33 = .ok (.iload_n 1, 1) := by decide +kernel
theorem dJ2_getChar_3b067_34 : decode cJ2_getChar_3b067 34 = .ok (.iinc 1 1, 3) := by decide +kernel
theorem dJ2_getChar_3b067_37 : decode cJ2_getChar_3b067 37 = .ok (.baload, 1) := by decide +kernel
theorem dJ2_getChar_3b067_38 : decode cJ2_getChar_3b067 38 = .ok (.sipush 255, 3) := by decide +kernel
theorem dJ2_getChar_3b067_41 : decode cJ2_getChar_3b067 41 = .ok (.iand, 1) := by decide +kernel
theorem dJ2_getChar_3b067_42 : decode cJ2_getChar_3b067 42 = .ok (.getstatic 59, 3) := by decide +kernel
theorem dJ2_getChar_3b067_45 : decode cJ2_getChar_3b067 45 = .ok (.ishl, 1) := by decide +kernel
theorem dJ2_getChar_3b067_46 : decode cJ2_getChar_3b067 46 = .ok (.aload_n 0, 1) := by decide +kernel
theorem dJ2_getChar_3b067_47 : decode cJ2_getChar_3b067 47 = .ok (.iload_n 1, 1) := by decide +kernel
theorem dJ2_getChar_3b067_48 : decode cJ2_getChar_3b067 48 = .ok (.baload, 1) := by decide +kernel
theorem dJ2_getChar_3b067_49 : decode cJ2_getChar_3b067 49 = .ok (.sipush 255, 3) := by decide +kernel
theorem dJ2_getChar_3b067_52 : decode cJ2_getChar_3b067 52 = .ok (.iand, 1) := by decide +kernel
theorem dJ2_getChar_3b067_53 : decode cJ2_getChar_3b067 53 = .ok (.getstatic 63, 3) := by decide +kernel
theorem dJ2_getChar_3b067_56 : decode cJ2_getChar_3b067 56 = .ok (.ishl, 1) := by decide +kernel
theorem dJ2_getChar_3b067_57 : decode cJ2_getChar_3b067 57 = .ok (.ior, 1) := by decide +kernel
theorem dJ2_getChar_3b067_58 : decode cJ2_getChar_3b067 58 = .ok (.i2c, 1) := by decide +kernel
theorem dJ2_getChar_3b067_59 : decode cJ2_getChar_3b067 59 = .ok (.ireturn, 1) := by decide +kernel
theorem dJ2_length_9d52b_0 : decode cJ2_length_9d52b 0 = .ok (.aload_n 0, 1) := by decide +kernel
theorem dJ2_length_9d52b_1 : decode cJ2_length_9d52b 1 = .ok (.arraylength, 1) := by decide +kernel
theorem dJ2_length_9d52b_2 : decode cJ2_length_9d52b 2 = .ok (.iconst 1, 1) := by decide +kernel
theorem dJ2_length_9d52b_3 : decode cJ2_length_9d52b 3 = .ok (.ishr, 1) := by decide +kernel
theorem dJ2_length_9d52b_4 : decode cJ2_length_9d52b 4 = .ok (.ireturn, 1) := by decide +kernel
theorem dJ2_charAt_3b067_0 : decode cJ2_charAt_3b067 0 = .ok (.iload_n 1, 1) := by decide +kernel
theorem dJ2_charAt_3b067_1 : decode cJ2_charAt_3b067 1 = .ok (.aload_n 0, 1) := by decide +kernel
theorem dJ2_charAt_3b067_2 : decode cJ2_charAt_3b067 2 = .ok (.invokestatic 67, 3) := by decide +kernel
theorem dJ2_charAt_3b067_5 : decode cJ2_charAt_3b067 5 = .ok (.aload_n 0, 1) := by decide +kernel
theorem dJ2_charAt_3b067_6 : decode cJ2_charAt_3b067 6 = .ok (.iload_n 1, 1) := by decide +kernel
theorem dJ2_charAt_3b067_7 : decode cJ2_charAt_3b067 7 = .ok (.invokestatic 71, 3) := by decide +kernel
theorem dJ2_charAt_3b067_10 : decode cJ2_charAt_3b067 10 = .ok (.ireturn, 1) := by decide +kernel
theorem dJ2_checkIndex_2214a_0 : decode cJ2_checkIndex_2214a 0 = .ok (.iload_n 0, 1) := by decide +kernel
theorem dJ2_checkIndex_2214a_1 : decode cJ2_checkIndex_2214a 1 = .ok (.aload_n 1, 1) := by decide +kernel
theorem dJ2_checkIndex_2214a_2 : decode cJ2_checkIndex_2214a 2 = .ok (.invokestatic 48, 3) := by decide +kernel
theorem dJ2_checkIndex_2214a_5 : decode cJ2_checkIndex_2214a 5 = .ok (.invokestatic 414, 3) := by decide +kernel
theorem dJ2_checkIndex_2214a_8 : decode cJ2_checkIndex_2214a 8 = .ok (.return_, 1) := by decide +kernel
theorem dJ7_fill_53178_0 : decode cJ7_fill_53178 0 = .ok (.iconst 0, 1) := by decide +kernel
theorem dJ7_fill_53178_1 : decode cJ7_fill_53178 1 = .ok (.istore_n 2, 1) := by decide +kernel
theorem dJ7_fill_53178_2 : decode cJ7_fill_53178 2 = .ok (.aload_n 0, 1) := by decide +kernel
theorem dJ7_fill_53178_3 : decode cJ7_fill_53178 3 = .ok (.arraylength, 1) := by decide +kernel
theorem dJ7_fill_53178_4 : decode cJ7_fill_53178 4 = .ok (.istore_n 3, 1) := by decide +kernel
theorem dJ7_fill_53178_5 : decode cJ7_fill_53178 5 = .ok (.iload_n 2, 1) := by decide +kernel
theorem dJ7_fill_53178_6 : decode cJ7_fill_53178 6 = .ok (.iload_n 3, 1) := by decide +kernel
theorem dJ7_fill_53178_7 : decode cJ7_fill_53178 7 = .ok (.if_icmp .ge 13, 3) := by decide +kernel
theorem dJ7_fill_53178_10 : decode cJ7_fill_53178 10 = .ok (.aload_n 0, 1) := by decide +kernel
theorem dJ7_fill_53178_11 : decode cJ7_fill_53178 11 = .ok (.iload_n 2, 1) := by decide +kernel
theorem dJ7_fill_53178_12 : decode cJ7_fill_53178 12 = .ok (.iload_n 1, 1) := by decide +kernel
theorem dJ7_fill_53178_13 : decode cJ7_fill_53178 13 = .ok (.iastore, 1) := by decide +kernel
theorem dJ7_fill_53178_14 : decode cJ7_fill_53178 14 = .ok (.iinc 2 1, 3) := by decide +kernel
theorem dJ7_fill_53178_17 : decode cJ7_fill_53178 17 = .ok (.goto (-12), 3) := by decide +kernel
theorem dJ7_fill_53178_20 : decode cJ7_fill_53178 20 = .ok (.return_, 1) := by decide +kernel
theorem dJ3_checkIndex_8e157_0 : decode cJ3_checkIndex_8e157 0 = .ok (.iload_n 0, 1) := by decide +kernel
theorem dJ3_checkIndex_8e157_1 : decode cJ3_checkIndex_8e157 1 = .ok (.ifCond .lt 8, 3) := by decide +kernel
theorem dJ3_checkIndex_8e157_4 : decode cJ3_checkIndex_8e157 4 = .ok (.iload_n 0, 1) := by decide +kernel
theorem dJ3_checkIndex_8e157_5 : decode cJ3_checkIndex_8e157 5 = .ok (.iload_n 1, 1) := by decide +kernel
theorem dJ3_checkIndex_8e157_6 : decode cJ3_checkIndex_8e157 6 = .ok (.if_icmp .lt 10, 3) := by decide +kernel
theorem dJ3_checkIndex_8e157_9 : decode cJ3_checkIndex_8e157 9 = .ok (.aload_n 2, 1) := by decide +kernel
theorem dJ3_checkIndex_8e157_10 : decode cJ3_checkIndex_8e157 10 = .ok (.iload_n 0, 1) := by decide +kernel
theorem dJ3_checkIndex_8e157_11 : decode cJ3_checkIndex_8e157 11 = .ok (.iload_n 1, 1) := by decide +kernel
theorem dJ3_checkIndex_8e157_12 : decode cJ3_checkIndex_8e157 12 = .ok (.invokestatic 95, 3) := by decide +kernel
theorem dJ3_checkIndex_8e157_15 : decode cJ3_checkIndex_8e157 15 = .ok (.athrow, 1) := by decide +kernel
theorem dJ3_checkIndex_8e157_16 : decode cJ3_checkIndex_8e157 16 = .ok (.iload_n 0, 1) := by decide +kernel
theorem dJ3_checkIndex_8e157_17 : decode cJ3_checkIndex_8e157 17 = .ok (.ireturn, 1) := by decide +kernel
