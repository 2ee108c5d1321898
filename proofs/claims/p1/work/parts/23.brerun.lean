theorem d_B_rerun_0 : decode prog_11_method_28_code 0 = .ok (.aload_n 0, 1) := by decide +kernel
theorem d_B_rerun_1 : decode prog_11_method_28_code 1 = .ok (.iconst 0, 1) := by decide +kernel
theorem d_B_rerun_2 : decode prog_11_method_28_code 2 = .ok (.putfield 105, 3) := by decide +kernel
theorem d_B_rerun_5 : decode prog_11_method_28_code 5 = .ok (.aload_n 0, 1) := by decide +kernel
theorem d_B_rerun_6 : decode prog_11_method_28_code 6 = .ok (.iload_n 1, 1) := by decide +kernel
theorem d_B_rerun_7 : decode prog_11_method_28_code 7 = .ok (.invokevirtual 170, 3) := by decide +kernel
theorem d_B_rerun_10 : decode prog_11_method_28_code 10 = .ok (.ifCond .ne 5, 3) := by decide +kernel
theorem d_B_rerun_13 : decode prog_11_method_28_code 13 = .ok (.iconst (-1), 1) := by decide +kernel
theorem d_B_rerun_14 : decode prog_11_method_28_code 14 = .ok (.ireturn, 1) := by decide +kernel
theorem d_B_rerun_15 : decode prog_11_method_28_code 15 = .ok (.aload_n 0, 1) := by decide +kernel
theorem d_B_rerun_16 : decode prog_11_method_28_code 16 = .ok (.getfield 65, 3) := by decide +kernel
theorem d_B_rerun_19 : decode prog_11_method_28_code 19 = .ok (.iload_n 1, 1) := by decide +kernel
theorem d_B_rerun_20 : decode prog_11_method_28_code 20 = .ok (.iaload, 1) := by decide +kernel
theorem d_B_rerun_21 : decode prog_11_method_28_code 21 = .ok (.iconst 3, 1) := by decide +kernel
theorem d_B_rerun_22 : decode prog_11_method_28_code 22 = .ok (.if_icmp .eq 15, 3) := by decide +kernel
theorem d_B_rerun_25 : decode prog_11_method_28_code 25 = .ok (.aload_n 0, 1) := by decide +kernel
theorem d_B_rerun_26 : decode prog_11_method_28_code 26 = .ok (.getfield 65, 3) := by decide +kernel
theorem d_B_rerun_29 : decode prog_11_method_28_code 29 = .ok (.iload_n 1, 1) := by decide +kernel
theorem d_B_rerun_30 : decode prog_11_method_28_code 30 = .ok (.iaload, 1) := by decide +kernel
theorem d_B_rerun_31 : decode prog_11_method_28_code 31 = .ok (.iconst 4, 1) := by decide +kernel
theorem d_B_rerun_32 : decode prog_11_method_28_code 32 = .ok (.if_icmp .eq 5, 3) := by decide +kernel
theorem d_B_rerun_35 : decode prog_11_method_28_code 35 = .ok (.iconst 0, 1) := by decide +kernel
theorem d_B_rerun_36 : decode prog_11_method_28_code 36 = .ok (.ireturn, 1) := by decide +kernel
theorem d_B_rerun_37 : decode prog_11_method_28_code 37 = .ok (.iconst 0, 1) := by decide +kernel
theorem d_B_rerun_38 : decode prog_11_method_28_code 38 = .ok (.istore_n 2, 1) := by decide +kernel
theorem d_B_rerun_39 : decode prog_11_method_28_code 39 = .ok (.iload_n 2, 1) := by decide +kernel
theorem d_B_rerun_40 : decode prog_11_method_28_code 40 = .ok (.bipush 26, 2) := by decide +kernel
theorem d_B_rerun_42 : decode prog_11_method_28_code 42 = .ok (.if_icmp .gt 25, 3) := by decide +kernel
theorem d_B_rerun_45 : decode prog_11_method_28_code 45 = .ok (.aload_n 0, 1) := by decide +kernel
theorem d_B_rerun_46 : decode prog_11_method_28_code 46 = .ok (.getfield 92, 3) := by decide +kernel
theorem d_B_rerun_49 : decode prog_11_method_28_code 49 = .ok (.iload_n 2, 1) := by decide +kernel
theorem d_B_rerun_50 : decode prog_11_method_28_code 50 = .ok (.iload_n 2, 1) := by decide +kernel
theorem d_B_rerun_51 : decode prog_11_method_28_code 51 = .ok (.iload_n 1, 1) := by decide +kernel
theorem d_B_rerun_52 : decode prog_11_method_28_code 52 = .ok (.if_icmp .ne 7, 3) := by decide +kernel
theorem d_B_rerun_55 : decode prog_11_method_28_code 55 = .ok (.iconst 1, 1) := by decide +kernel
theorem d_B_rerun_56 : decode prog_11_method_28_code 56 = .ok (.goto 4, 3) := by decide +kernel
theorem d_B_rerun_59 : decode prog_11_method_28_code 59 = .ok (.iconst 0, 1) := by decide +kernel
theorem d_B_rerun_60 : decode prog_11_method_28_code 60 = .ok (.bastore, 1) := by decide +kernel
theorem d_B_rerun_61 : decode prog_11_method_28_code 61 = .ok (.iinc 2 1, 3) := by decide +kernel
theorem d_B_rerun_64 : decode prog_11_method_28_code 64 = .ok (.goto (-25), 3) := by decide +kernel
theorem d_B_rerun_67 : decode prog_11_method_28_code 67 = .ok (.iconst 1, 1) := by decide +kernel
theorem d_B_rerun_68 : decode prog_11_method_28_code 68 = .ok (.istore_n 2, 1) := by decide +kernel
theorem d_B_rerun_69 : decode prog_11_method_28_code 69 = .ok (.iload_n 2, 1) := by decide +kernel
theorem d_B_rerun_70 : decode prog_11_method_28_code 70 = .ok (.ifCond .eq 97, 3) := by decide +kernel
theorem d_B_rerun_73 : decode prog_11_method_28_code 73 = .ok (.iconst 0, 1) := by decide +kernel
theorem d_B_rerun_74 : decode prog_11_method_28_code 74 = .ok (.istore_n 2, 1) := by decide +kernel
theorem d_B_rerun_75 : decode prog_11_method_28_code 75 = .ok (.iconst 1, 1) := by decide +kernel
theorem d_B_rerun_76 : decode prog_11_method_28_code 76 = .ok (.istore_n 3, 1) := by decide +kernel
theorem d_B_rerun_77 : decode prog_11_method_28_code 77 = .ok (.iload_n 3, 1) := by decide +kernel
theorem d_B_rerun_78 : decode prog_11_method_28_code 78 = .ok (.aload_n 0, 1) := by decide +kernel
theorem d_B_rerun_79 : decode prog_11_method_28_code 79 = .ok (.getfield 149, 3) := by decide +kernel
theorem d_B_rerun_82 : decode prog_11_method_28_code 82 = .ok (.if_icmp .gt 82, 3) := by decide +kernel
theorem d_B_rerun_85 : decode prog_11_method_28_code 85 = .ok (.iconst 0, 1) := by decide +kernel
theorem d_B_rerun_86 : decode prog_11_method_28_code 86 = .ok (.istore 4, 2) := by decide +kernel
theorem d_B_rerun_88 : decode prog_11_method_28_code 88 = .ok (.iload 4, 2) := by decide +kernel
theorem d_B_rerun_90 : decode prog_11_method_28_code 90 = .ok (.aload_n 0, 1) := by decide +kernel
theorem d_B_rerun_91 : decode prog_11_method_28_code 91 = .ok (.getfield 28, 3) := by decide +kernel
theorem d_B_rerun_94 : decode prog_11_method_28_code 94 = .ok (.iload_n 3, 1) := by decide +kernel
theorem d_B_rerun_95 : decode prog_11_method_28_code 95 = .ok (.iaload, 1) := by decide +kernel
theorem d_B_rerun_96 : decode prog_11_method_28_code 96 = .ok (.if_icmp .ge 62, 3) := by decide +kernel
theorem d_B_rerun_99 : decode prog_11_method_28_code 99 = .ok (.aload_n 0, 1) := by decide +kernel
theorem d_B_rerun_100 : decode prog_11_method_28_code 100 = .ok (.getfield 92, 3) := by decide +kernel
theorem d_B_rerun_103 : decode prog_11_method_28_code 103 = .ok (.iload_n 3, 1) := by decide +kernel
theorem d_B_rerun_104 : decode prog_11_method_28_code 104 = .ok (.baload, 1) := by decide +kernel
theorem d_B_rerun_105 : decode prog_11_method_28_code 105 = .ok (.ifCond .ne 53, 3) := by decide +kernel
theorem d_B_rerun_108 : decode prog_11_method_28_code 108 = .ok (.aload_n 0, 1) := by decide +kernel
theorem d_B_rerun_109 : decode prog_11_method_28_code 109 = .ok (.getfield 92, 3) := by decide +kernel
theorem d_B_rerun_112 : decode prog_11_method_28_code 112 = .ok (.iload_n 3, 1) := by decide +kernel
theorem d_B_rerun_113 : decode prog_11_method_28_code 113 = .ok (.aload_n 0, 1) := by decide +kernel
theorem d_B_rerun_114 : decode prog_11_method_28_code 114 = .ok (.getfield 92, 3) := by decide +kernel
theorem d_B_rerun_117 : decode prog_11_method_28_code 117 = .ok (.aload_n 0, 1) := by decide +kernel
theorem d_B_rerun_118 : decode prog_11_method_28_code 118 = .ok (.getfield 40, 3) := by decide +kernel
theorem d_B_rerun_121 : decode prog_11_method_28_code 121 = .ok (.bipush 20, 2) := by decide +kernel
theorem d_B_rerun_123 : decode prog_11_method_28_code 123 = .ok (.iload_n 3, 1) := by decide +kernel
theorem d_B_rerun_124 : decode prog_11_method_28_code 124 = .ok (.iconst 1, 1) := by decide +kernel
theorem d_B_rerun_125 : decode prog_11_method_28_code 125 = .ok (.isub, 1) := by decide +kernel
theorem d_B_rerun_126 : decode prog_11_method_28_code 126 = .ok (.imul, 1) := by decide +kernel
theorem d_B_rerun_127 : decode prog_11_method_28_code 127 = .ok (.iload 4, 2) := by decide +kernel
theorem d_B_rerun_129 : decode prog_11_method_28_code 129 = .ok (.iadd, 1) := by decide +kernel
theorem d_B_rerun_130 : decode prog_11_method_28_code 130 = .ok (.iaload, 1) := by decide +kernel
theorem d_B_rerun_131 : decode prog_11_method_28_code 131 = .ok (.baload, 1) := by decide +kernel
theorem d_B_rerun_132 : decode prog_11_method_28_code 132 = .ok (.bastore, 1) := by decide +kernel
theorem d_B_rerun_133 : decode prog_11_method_28_code 133 = .ok (.iload_n 2, 1) := by decide +kernel
theorem d_B_rerun_134 : decode prog_11_method_28_code 134 = .ok (.ifCond .ne 12, 3) := by decide +kernel
theorem d_B_rerun_137 : decode prog_11_method_28_code 137 = .ok (.aload_n 0, 1) := by decide +kernel
theorem d_B_rerun_138 : decode prog_11_method_28_code 138 = .ok (.getfield 92, 3) := by decide +kernel
theorem d_B_rerun_141 : decode prog_11_method_28_code 141 = .ok (.iload_n 3, 1) := by decide +kernel
theorem d_B_rerun_142 : decode prog_11_method_28_code 142 = .ok (.baload, 1) := by decide +kernel
theorem d_B_rerun_143 : decode prog_11_method_28_code 143 = .ok (.ifCond .eq 7, 3) := by decide +kernel
theorem d_B_rerun_146 : decode prog_11_method_28_code 146 = .ok (.iconst 1, 1) := by decide +kernel
theorem d_B_rerun_147 : decode prog_11_method_28_code 147 = .ok (.goto 4, 3) := by decide +kernel
theorem d_B_rerun_150 : decode prog_11_method_28_code 150 = .ok (.iconst 0, 1) := by decide +kernel
theorem d_B_rerun_151 : decode prog_11_method_28_code 151 = .ok (.istore_n 2, 1) := by decide +kernel
theorem d_B_rerun_152 : decode prog_11_method_28_code 152 = .ok (.iinc 4 1, 3) := by decide +kernel
theorem d_B_rerun_155 : decode prog_11_method_28_code 155 = .ok (.goto (-67), 3) := by decide +kernel
theorem d_B_rerun_158 : decode prog_11_method_28_code 158 = .ok (.iinc 3 1, 3) := by decide +kernel
theorem d_B_rerun_161 : decode prog_11_method_28_code 161 = .ok (.goto (-84), 3) := by decide +kernel
theorem d_B_rerun_164 : decode prog_11_method_28_code 164 = .ok (.goto (-95), 3) := by decide +kernel
theorem d_B_rerun_167 : decode prog_11_method_28_code 167 = .ok (.iconst 0, 1) := by decide +kernel
theorem d_B_rerun_168 : decode prog_11_method_28_code 168 = .ok (.istore_n 3, 1) := by decide +kernel
theorem d_B_rerun_169 : decode prog_11_method_28_code 169 = .ok (.iconst 0, 1) := by decide +kernel
theorem d_B_rerun_170 : decode prog_11_method_28_code 170 = .ok (.istore 4, 2) := by decide +kernel
theorem d_B_rerun_172 : decode prog_11_method_28_code 172 = .ok (.iconst 1, 1) := by decide +kernel
theorem d_B_rerun_173 : decode prog_11_method_28_code 173 = .ok (.istore 5, 2) := by decide +kernel
theorem d_B_rerun_175 : decode prog_11_method_28_code 175 = .ok (.iload 5, 2) := by decide +kernel
theorem d_B_rerun_177 : decode prog_11_method_28_code 177 = .ok (.aload_n 0, 1) := by decide +kernel
theorem d_B_rerun_178 : decode prog_11_method_28_code 178 = .ok (.getfield 149, 3) := by decide +kernel
theorem d_B_rerun_181 : decode prog_11_method_28_code 181 = .ok (.if_icmp .gt 82, 3) := by decide +kernel
theorem d_B_rerun_184 : decode prog_11_method_28_code 184 = .ok (.iload_n 3, 1) := by decide +kernel
theorem d_B_rerun_185 : decode prog_11_method_28_code 185 = .ok (.ifCond .ne 24, 3) := by decide +kernel
theorem d_B_rerun_188 : decode prog_11_method_28_code 188 = .ok (.aload_n 0, 1) := by decide +kernel
theorem d_B_rerun_189 : decode prog_11_method_28_code 189 = .ok (.getfield 92, 3) := by decide +kernel
theorem d_B_rerun_192 : decode prog_11_method_28_code 192 = .ok (.iload 5, 2) := by decide +kernel
theorem d_B_rerun_194 : decode prog_11_method_28_code 194 = .ok (.baload, 1) := by decide +kernel
theorem d_B_rerun_195 : decode prog_11_method_28_code 195 = .ok (.ifCond .eq 18, 3) := by decide +kernel
theorem d_B_rerun_198 : decode prog_11_method_28_code 198 = .ok (.aload_n 0, 1) := by decide +kernel
theorem d_B_rerun_199 : decode prog_11_method_28_code 199 = .ok (.getfield 65, 3) := by decide +kernel
theorem d_B_rerun_202 : decode prog_11_method_28_code 202 = .ok (.iload 5, 2) := by decide +kernel
theorem d_B_rerun_204 : decode prog_11_method_28_code 204 = .ok (.iaload, 1) := by decide +kernel
theorem d_B_rerun_205 : decode prog_11_method_28_code 205 = .ok (.iconst 2, 1) := by decide +kernel
theorem d_B_rerun_206 : decode prog_11_method_28_code 206 = .ok (.if_icmp .ne 7, 3) := by decide +kernel
theorem d_B_rerun_209 : decode prog_11_method_28_code 209 = .ok (.iconst 1, 1) := by decide +kernel
theorem d_B_rerun_210 : decode prog_11_method_28_code 210 = .ok (.goto 4, 3) := by decide +kernel
theorem d_B_rerun_213 : decode prog_11_method_28_code 213 = .ok (.iconst 0, 1) := by decide +kernel
theorem d_B_rerun_214 : decode prog_11_method_28_code 214 = .ok (.istore_n 3, 1) := by decide +kernel
theorem d_B_rerun_215 : decode prog_11_method_28_code 215 = .ok (.iload 4, 2) := by decide +kernel
theorem d_B_rerun_217 : decode prog_11_method_28_code 217 = .ok (.aload_n 0, 1) := by decide +kernel
theorem d_B_rerun_218 : decode prog_11_method_28_code 218 = .ok (.getfield 92, 3) := by decide +kernel
theorem d_B_rerun_221 : decode prog_11_method_28_code 221 = .ok (.iload 5, 2) := by decide +kernel
theorem d_B_rerun_223 : decode prog_11_method_28_code 223 = .ok (.baload, 1) := by decide +kernel
theorem d_B_rerun_224 : decode prog_11_method_28_code 224 = .ok (.ifCond .eq 29, 3) := by decide +kernel
theorem d_B_rerun_227 : decode prog_11_method_28_code 227 = .ok (.aload_n 0, 1) := by decide +kernel
theorem d_B_rerun_228 : decode prog_11_method_28_code 228 = .ok (.getfield 65, 3) := by decide +kernel
theorem d_B_rerun_231 : decode prog_11_method_28_code 231 = .ok (.iload 5, 2) := by decide +kernel
theorem d_B_rerun_233 : decode prog_11_method_28_code 233 = .ok (.iaload, 1) := by decide +kernel
theorem d_B_rerun_234 : decode prog_11_method_28_code 234 = .ok (.iconst 3, 1) := by decide +kernel
theorem d_B_rerun_235 : decode prog_11_method_28_code 235 = .ok (.if_icmp .eq 14, 3) := by decide +kernel
theorem d_B_rerun_238 : decode prog_11_method_28_code 238 = .ok (.aload_n 0, 1) := by decide +kernel
theorem d_B_rerun_239 : decode prog_11_method_28_code 239 = .ok (.getfield 65, 3) := by decide +kernel
theorem d_B_rerun_242 : decode prog_11_method_28_code 242 = .ok (.iload 5, 2) := by decide +kernel
theorem d_B_rerun_244 : decode prog_11_method_28_code 244 = .ok (.iaload, 1) := by decide +kernel
theorem d_B_rerun_245 : decode prog_11_method_28_code 245 = .ok (.iconst 4, 1) := by decide +kernel
theorem d_B_rerun_246 : decode prog_11_method_28_code 246 = .ok (.if_icmp .ne 7, 3) := by decide +kernel
theorem d_B_rerun_249 : decode prog_11_method_28_code 249 = .ok (.iconst 1, 1) := by decide +kernel
theorem d_B_rerun_250 : decode prog_11_method_28_code 250 = .ok (.goto 4, 3) := by decide +kernel
theorem d_B_rerun_253 : decode prog_11_method_28_code 253 = .ok (.iconst 0, 1) := by decide +kernel
theorem d_B_rerun_254 : decode prog_11_method_28_code 254 = .ok (.iadd, 1) := by decide +kernel
theorem d_B_rerun_255 : decode prog_11_method_28_code 255 = .ok (.istore 4, 2) := by decide +kernel
theorem d_B_rerun_257 : decode prog_11_method_28_code 257 = .ok (.iinc 5 1, 3) := by decide +kernel
theorem d_B_rerun_260 : decode prog_11_method_28_code 260 = .ok (.goto (-85), 3) := by decide +kernel
theorem d_B_rerun_263 : decode prog_11_method_28_code 263 = .ok (.iload_n 3, 1) := by decide +kernel
theorem d_B_rerun_264 : decode prog_11_method_28_code 264 = .ok (.ifCond .eq 5, 3) := by decide +kernel
theorem d_B_rerun_267 : decode prog_11_method_28_code 267 = .ok (.iconst 0, 1) := by decide +kernel
theorem d_B_rerun_268 : decode prog_11_method_28_code 268 = .ok (.ireturn, 1) := by decide +kernel
theorem d_B_rerun_269 : decode prog_11_method_28_code 269 = .ok (.iconst 1, 1) := by decide +kernel
theorem d_B_rerun_270 : decode prog_11_method_28_code 270 = .ok (.istore 5, 2) := by decide +kernel
theorem d_B_rerun_272 : decode prog_11_method_28_code 272 = .ok (.iload 5, 2) := by decide +kernel
theorem d_B_rerun_274 : decode prog_11_method_28_code 274 = .ok (.aload_n 0, 1) := by decide +kernel
theorem d_B_rerun_275 : decode prog_11_method_28_code 275 = .ok (.getfield 149, 3) := by decide +kernel
theorem d_B_rerun_278 : decode prog_11_method_28_code 278 = .ok (.if_icmp .gt 48, 3) := by decide +kernel
theorem d_B_rerun_281 : decode prog_11_method_28_code 281 = .ok (.aload_n 0, 1) := by decide +kernel
theorem d_B_rerun_282 : decode prog_11_method_28_code 282 = .ok (.getfield 65, 3) := by decide +kernel
theorem d_B_rerun_285 : decode prog_11_method_28_code 285 = .ok (.iload 5, 2) := by decide +kernel
theorem d_B_rerun_287 : decode prog_11_method_28_code 287 = .ok (.aload_n 0, 1) := by decide +kernel
theorem d_B_rerun_288 : decode prog_11_method_28_code 288 = .ok (.getfield 92, 3) := by decide +kernel
theorem d_B_rerun_291 : decode prog_11_method_28_code 291 = .ok (.iload 5, 2) := by decide +kernel
theorem d_B_rerun_293 : decode prog_11_method_28_code 293 = .ok (.baload, 1) := by decide +kernel
theorem d_B_rerun_294 : decode prog_11_method_28_code 294 = .ok (.ifCond .eq 18, 3) := by decide +kernel
theorem d_B_rerun_297 : decode prog_11_method_28_code 297 = .ok (.aload_n 0, 1) := by decide +kernel
theorem d_B_rerun_298 : decode prog_11_method_28_code 298 = .ok (.getfield 65, 3) := by decide +kernel
theorem d_B_rerun_301 : decode prog_11_method_28_code 301 = .ok (.iload 5, 2) := by decide +kernel
theorem d_B_rerun_303 : decode prog_11_method_28_code 303 = .ok (.iaload, 1) := by decide +kernel
theorem d_B_rerun_304 : decode prog_11_method_28_code 304 = .ok (.iconst 2, 1) := by decide +kernel
theorem d_B_rerun_305 : decode prog_11_method_28_code 305 = .ok (.if_icmp .le 7, 3) := by decide +kernel
theorem d_B_rerun_308 : decode prog_11_method_28_code 308 = .ok (.iconst 1, 1) := by decide +kernel
theorem d_B_rerun_309 : decode prog_11_method_28_code 309 = .ok (.goto 10, 3) := by decide +kernel
theorem d_B_rerun_312 : decode prog_11_method_28_code 312 = .ok (.aload_n 0, 1) := by decide +kernel
theorem d_B_rerun_313 : decode prog_11_method_28_code 313 = .ok (.getfield 65, 3) := by decide +kernel
theorem d_B_rerun_316 : decode prog_11_method_28_code 316 = .ok (.iload 5, 2) := by decide +kernel
theorem d_B_rerun_318 : decode prog_11_method_28_code 318 = .ok (.iaload, 1) := by decide +kernel
theorem d_B_rerun_319 : decode prog_11_method_28_code 319 = .ok (.iastore, 1) := by decide +kernel
theorem d_B_rerun_320 : decode prog_11_method_28_code 320 = .ok (.iinc 5 1, 3) := by decide +kernel
theorem d_B_rerun_323 : decode prog_11_method_28_code 323 = .ok (.goto (-51), 3) := by decide +kernel
theorem d_B_rerun_326 : decode prog_11_method_28_code 326 = .ok (.aload_n 0, 1) := by decide +kernel
theorem d_B_rerun_327 : decode prog_11_method_28_code 327 = .ok (.invokevirtual 208, 3) := by decide +kernel
theorem d_B_rerun_330 : decode prog_11_method_28_code 330 = .ok (.pop, 1) := by decide +kernel
theorem d_B_rerun_331 : decode prog_11_method_28_code 331 = .ok (.iload 4, 2) := by decide +kernel
theorem d_B_rerun_333 : decode prog_11_method_28_code 333 = .ok (.ireturn, 1) := by decide +kernel
def md_B_rerun_F272 (v_p0_jobs : Int32) (v_p0_now : Int64) (v_p0_started : Int32) (f_p0_priorities : Nat → Int32) (f_p0_starts : Nat → Int32) (f_p0_many : Nat → Int32) (f_p0_needs : Nat → Int32) (f_p0_conditions : Nat → Int32) (f_p0_ran : Nat → Int64) (f_p0_startedJob : Nat → Int32) (f_p0_startedAt : Nat → Int64) (N : Nat) (f5 : Nat → Int32) (x7 : Int32) (rec272 : Int32 → (Nat → Int32) → Option (Int32 × Int32 × Int32 × (Nat → Int32) × (Nat → Int64) × (Nat → Int32) × (Nat → Int64) × (Nat → Int32))) (x9 : Int32) (f10 : Nat → Int32) : Option (Int32 × Int32 × Int32 × (Nat → Int32) × (Nat → Int64) × (Nat → Int32) × (Nat → Int64) × (Nat → Int32)) :=
  (if v_p0_jobs < x9 then (zc (md_B_begin N v_p0_jobs v_p0_now v_p0_started f_p0_priorities f_p0_starts f_p0_many f_p0_needs f_p0_conditions f10 f_p0_ran f_p0_startedJob f_p0_startedAt) (fun o11 => (some (x7, (0 : Int32), o11.2.1, o11.2.2.1, o11.2.2.2.1, o11.2.2.2.2.1, o11.2.2.2.2.2, f5)))) else (if sg_in x9 27 = true then (if (f5 x9.toNatClampNeg) = 0 then (if sg_in x9 27 = true then (if sg_in x9 27 = true then zl (upd f10 x9.toNatClampNeg (f10 x9.toNatClampNeg)) (fun f12 => (rec272 (x9 + 1) f12)) else none) else none) else (if sg_in x9 27 = true then (if (f10 x9.toNatClampNeg) ≤ (2 : Int32) then (if sg_in x9 27 = true then (if sg_in x9 27 = true then zl (upd f10 x9.toNatClampNeg (f10 x9.toNatClampNeg)) (fun f13 => (rec272 (x9 + 1) f13)) else none) else none) else (if sg_in x9 27 = true then zl (upd f10 x9.toNatClampNeg (1 : Int32)) (fun f14 => (rec272 (x9 + 1) f14)) else none)) else none)) else none))
def md_B_rerun_F175 (v_p0_jobs : Int32) (v_p0_now : Int64) (v_p0_started : Int32) (f_p0_priorities : Nat → Int32) (f_p0_starts : Nat → Int32) (f_p0_many : Nat → Int32) (f_p0_needs : Nat → Int32) (f_p0_conditions : Nat → Int32) (f_p0_states : Nat → Int32) (f_p0_ran : Nat → Int64) (f_p0_startedJob : Nat → Int32) (f_p0_startedAt : Nat → Int64) (N : Nat) (f5 : Nat → Int32) (rec175 : Int32 → Int32 → Int32 → Option (Int32 × Int32 × Int32 × (Nat → Int32) × (Nat → Int64) × (Nat → Int32) × (Nat → Int64) × (Nat → Int32))) (x6 : Int32) (x7 : Int32) (x8 : Int32) : Option (Int32 × Int32 × Int32 × (Nat → Int32) × (Nat → Int64) × (Nat → Int32) × (Nat → Int64) × (Nat → Int32)) :=
  (if v_p0_jobs < x6 then (if x8 = 0 then (fx2 (md_B_rerun_F272 v_p0_jobs v_p0_now v_p0_started f_p0_priorities f_p0_starts f_p0_many f_p0_needs f_p0_conditions f_p0_ran f_p0_startedJob f_p0_startedAt N f5 x7) N (1 : Int32) f_p0_states) else (some ((0 : Int32), (0 : Int32), v_p0_started, f_p0_states, f_p0_ran, f_p0_startedJob, f_p0_startedAt, f5))) else (zl (fun (x15 : Int32) => (if sg_in x6 27 = true then (if (f5 x6.toNatClampNeg) = 0 then (rec175 (x6 + 1) (x7 + (0 : Int32)) x15) else (if sg_in x6 27 = true then (if (f_p0_states x6.toNatClampNeg) = (3 : Int32) then (rec175 (x6 + 1) (x7 + (1 : Int32)) x15) else (if sg_in x6 27 = true then (if (f_p0_states x6.toNatClampNeg) = (4 : Int32) then (rec175 (x6 + 1) (x7 + (1 : Int32)) x15) else (rec175 (x6 + 1) (x7 + (0 : Int32)) x15)) else none)) else none)) else none)) (fun k214 => (zl (k214 (1 : Int32)) (fun k209 => (if x8 = 0 then (if sg_in x6 27 = true then (zl (k214 (0 : Int32)) (fun k213 => (if (f5 x6.toNatClampNeg) = 0 then (k213) else (if sg_in x6 27 = true then (if (f_p0_states x6.toNatClampNeg) = (2 : Int32) then (k209) else (k213)) else none)))) else none) else (k209)))))))
def md_B_rerun_F88 (f_p0_many : Nat → Int32) (f_p0_needs : Nat → Int32) (x16 : Int32) (rec77 : Int32 → Int32 → (Nat → Int32) → Option (Int32 × Int32 × Int32 × (Nat → Int32) × (Nat → Int64) × (Nat → Int32) × (Nat → Int64) × (Nat → Int32))) (rec88 : Int32 → Int32 → (Nat → Int32) → Option (Int32 × Int32 × Int32 × (Nat → Int32) × (Nat → Int64) × (Nat → Int32) × (Nat → Int64) × (Nat → Int32))) (x19 : Int32) (x20 : Int32) (f21 : Nat → Int32) : Option (Int32 × Int32 × Int32 × (Nat → Int32) × (Nat → Int64) × (Nat → Int32) × (Nat → Int64) × (Nat → Int32)) :=
  (if sg_in x16 27 = true then (if (f_p0_many x16.toNatClampNeg) ≤ x19 then (rec77 (x16 + 1) x20 f21) else (if sg_in x16 27 = true then (if (f21 x16.toNatClampNeg) = 0 then (if sg_in (((20 : Int32) * (x16 - (1 : Int32))) + x19) 540 = true then (if sg_in (f_p0_needs (((20 : Int32) * (x16 - (1 : Int32))) + x19).toNatClampNeg) 27 = true then (if sg_in x16 27 = true then zl (upd f21 x16.toNatClampNeg (vp_nar .boolean (f21 (f_p0_needs (((20 : Int32) * (x16 - (1 : Int32))) + x19).toNatClampNeg).toNatClampNeg))) (fun f22 => (if x20 = 0 then (if sg_in x16 27 = true then (if (f22 x16.toNatClampNeg) = 0 then (rec88 (x19 + 1) (0 : Int32) f22) else (rec88 (x19 + 1) (1 : Int32) f22)) else none) else (rec88 (x19 + 1) (1 : Int32) f22))) else none) else none) else none) else (rec77 (x16 + 1) x20 f21)) else none)) else none)
def md_B_rerun_F77 (v_p0_jobs : Int32) (f_p0_many : Nat → Int32) (f_p0_needs : Nat → Int32) (N : Nat) (rec69 : Int32 → (Nat → Int32) → Option (Int32 × Int32 × Int32 × (Nat → Int32) × (Nat → Int64) × (Nat → Int32) × (Nat → Int64) × (Nat → Int32))) (rec77 : Int32 → Int32 → (Nat → Int32) → Option (Int32 × Int32 × Int32 × (Nat → Int32) × (Nat → Int64) × (Nat → Int32) × (Nat → Int64) × (Nat → Int32))) (x16 : Int32) (x17 : Int32) (f18 : Nat → Int32) : Option (Int32 × Int32 × Int32 × (Nat → Int32) × (Nat → Int64) × (Nat → Int32) × (Nat → Int64) × (Nat → Int32)) :=
  (if v_p0_jobs < x16 then (rec69 x17 f18) else (fx3 (md_B_rerun_F88 f_p0_many f_p0_needs x16 rec77) N (0 : Int32) x17 f18))
def md_B_rerun_F69 (v_p0_jobs : Int32) (v_p0_now : Int64) (v_p0_started : Int32) (f_p0_priorities : Nat → Int32) (f_p0_starts : Nat → Int32) (f_p0_many : Nat → Int32) (f_p0_needs : Nat → Int32) (f_p0_conditions : Nat → Int32) (f_p0_states : Nat → Int32) (f_p0_ran : Nat → Int64) (f_p0_startedJob : Nat → Int32) (f_p0_startedAt : Nat → Int64) (N : Nat) (rec69 : Int32 → (Nat → Int32) → Option (Int32 × Int32 × Int32 × (Nat → Int32) × (Nat → Int64) × (Nat → Int32) × (Nat → Int64) × (Nat → Int32))) (x4 : Int32) (f5 : Nat → Int32) : Option (Int32 × Int32 × Int32 × (Nat → Int32) × (Nat → Int64) × (Nat → Int32) × (Nat → Int64) × (Nat → Int32)) :=
  (if x4 = 0 then (fx3 (md_B_rerun_F175 v_p0_jobs v_p0_now v_p0_started f_p0_priorities f_p0_starts f_p0_many f_p0_needs f_p0_conditions f_p0_states f_p0_ran f_p0_startedJob f_p0_startedAt N f5) N (1 : Int32) (0 : Int32) (0 : Int32)) else (fx3 (md_B_rerun_F77 v_p0_jobs f_p0_many f_p0_needs N rec69) N (1 : Int32) (0 : Int32) f5))
def md_B_rerun_F39 (v_p0_jobs : Int32) (v_p0_now : Int64) (v_p0_started : Int32) (f_p0_priorities : Nat → Int32) (f_p0_starts : Nat → Int32) (f_p0_many : Nat → Int32) (f_p0_needs : Nat → Int32) (f_p0_conditions : Nat → Int32) (f_p0_states : Nat → Int32) (f_p0_ran : Nat → Int64) (f_p0_startedJob : Nat → Int32) (f_p0_startedAt : Nat → Int64) (a1_x : Int32) (N : Nat) (rec39 : Int32 → (Nat → Int32) → Option (Int32 × Int32 × Int32 × (Nat → Int32) × (Nat → Int64) × (Nat → Int32) × (Nat → Int64) × (Nat → Int32))) (x2 : Int32) (f3 : Nat → Int32) : Option (Int32 × Int32 × Int32 × (Nat → Int32) × (Nat → Int64) × (Nat → Int32) × (Nat → Int64) × (Nat → Int32)) :=
  (if (26 : Int32) < x2 then (fx2 (md_B_rerun_F69 v_p0_jobs v_p0_now v_p0_started f_p0_priorities f_p0_starts f_p0_many f_p0_needs f_p0_conditions f_p0_states f_p0_ran f_p0_startedJob f_p0_startedAt N) N (1 : Int32) f3) else (if x2 = a1_x then (if sg_in x2 27 = true then zl (upd f3 x2.toNatClampNeg (vp_nar .boolean (1 : Int32))) (fun f24 => (rec39 (x2 + 1) f24)) else none) else (if sg_in x2 27 = true then zl (upd f3 x2.toNatClampNeg (vp_nar .boolean (0 : Int32))) (fun f23 => (rec39 (x2 + 1) f23)) else none)))
def md_B_rerun (N : Nat) (v_p0_code : Int32) (v_p0_jobs : Int32) (v_p0_now : Int64) (v_p0_started : Int32) (f_p0_priorities : Nat → Int32) (f_p0_starts : Nat → Int32) (f_p0_many : Nat → Int32) (f_p0_needs : Nat → Int32) (f_p0_conditions : Nat → Int32) (f_p0_states : Nat → Int32) (f_p0_ran : Nat → Int64) (f_p0_startedJob : Nat → Int32) (f_p0_startedAt : Nat → Int64) (f_p0_again : Nat → Int32) (a1_x : Int32) : Option (Int32 × Int32 × Int32 × (Nat → Int32) × (Nat → Int64) × (Nat → Int32) × (Nat → Int64) × (Nat → Int32)) :=
  (zc (md_B_isJob N v_p0_jobs a1_x) (fun o1 => (if o1 = 0 then (some ((-1 : Int32), (0 : Int32), v_p0_started, f_p0_states, f_p0_ran, f_p0_startedJob, f_p0_startedAt, f_p0_again)) else (if sg_in a1_x 27 = true then (zl (fx2 (md_B_rerun_F39 v_p0_jobs v_p0_now v_p0_started f_p0_priorities f_p0_starts f_p0_many f_p0_needs f_p0_conditions f_p0_states f_p0_ran f_p0_startedJob f_p0_startedAt a1_x N) N (0 : Int32) f_p0_again) (fun k37 => (if (f_p0_states a1_x.toNatClampNeg) = (3 : Int32) then (k37) else (if sg_in a1_x 27 = true then (if (f_p0_states a1_x.toNatClampNeg) = (4 : Int32) then (k37) else (some ((0 : Int32), (0 : Int32), v_p0_started, f_p0_states, f_p0_ran, f_p0_startedJob, f_p0_startedAt, f_p0_again))) else none)))) else none))))
abbrev sc_B_rerun (cI cL cM cZ : ClassId) (q_p0 q_p0_text q_p0_names q_p0_calendars q_p0_priorities q_p0_starts q_p0_estimates q_p0_many q_p0_newNames q_p0_numbers q_p0_newMany q_p0_needs q_p0_conditions q_p0_newNeeds q_p0_newConditions q_p0_needPlaces q_p0_rules q_p0_of q_p0_holidays q_p0_states q_p0_ran q_p0_sums q_p0_kept q_p0_startedJob q_p0_startedAt q_p0_ring q_p0_came q_p0_level q_p0_again q_p0_way q_p0_before q_p0_path : Nat) (v_p0_code : Int32) (v_p0_length : Int32) (v_p0_jobs : Int32) (v_p0_newJobs : Int32) (v_p0_made : Int32) (v_p0_days : Int32) (v_p0_now : Int64) (v_p0_started : Int32) (v_p0_ringSize : Int32) (v_p0_place : Int32) (f_p0_priorities : Nat → Int32) (f_p0_starts : Nat → Int32) (f_p0_many : Nat → Int32) (f_p0_needs : Nat → Int32) (f_p0_conditions : Nat → Int32) (f_p0_states : Nat → Int32) (f_p0_ran : Nat → Int64) (f_p0_startedJob : Nat → Int32) (f_p0_startedAt : Nat → Int64) (f_p0_again : Nat → Int32) : List va_W := [[(q_p0, .inr (9, [.int v_p0_code, .ref q_p0_text, .int v_p0_length, .int v_p0_jobs, .int v_p0_newJobs, .ref q_p0_names, .ref q_p0_calendars, .ref q_p0_priorities, .ref q_p0_starts, .ref q_p0_estimates, .ref q_p0_many, .ref q_p0_newNames, .ref q_p0_numbers, .ref q_p0_newMany, .ref q_p0_needs, .ref q_p0_conditions, .ref q_p0_newNeeds, .ref q_p0_newConditions, .ref q_p0_needPlaces, .ref q_p0_rules, .ref q_p0_of, .int v_p0_made, .ref q_p0_holidays, .int v_p0_days, .ref q_p0_states, .ref q_p0_ran, .ref q_p0_sums, .ref q_p0_kept, .long v_p0_now, .ref q_p0_startedJob, .ref q_p0_startedAt, .int v_p0_started, .ref q_p0_ring, .ref q_p0_came, .ref q_p0_level, .int v_p0_ringSize, .ref q_p0_again, .ref q_p0_way, .ref q_p0_before, .ref q_p0_path, .int v_p0_place]))], [(q_p0_priorities, .inl (cI, 27, .inl f_p0_priorities))], [(q_p0_starts, .inl (cI, 27, .inl f_p0_starts))], [(q_p0_many, .inl (cI, 27, .inl f_p0_many))], [(q_p0_needs, .inl (cI, 540, .inl f_p0_needs))], [(q_p0_conditions, .inl (cI, 540, .inl f_p0_conditions))], [(q_p0_states, .inl (cI, 27, .inl f_p0_states))], [(q_p0_ran, .inl (cL, 27, .inr (.inl f_p0_ran)))], [(q_p0_startedJob, .inl (cI, 20000, .inl f_p0_startedJob))], [(q_p0_startedAt, .inl (cL, 20000, .inr (.inl f_p0_startedAt)))], [(q_p0_again, .inl (cZ, 27, .inl f_p0_again))]]
abbrev rm_B_rerun : Room := { frames := 3, cells := 0, slots := 0, locals := 69 }
set_option maxHeartbeats 4000000 in
set_option maxRecDepth 100000 in
theorem ct_B_rerun (l : Launch) (dC : Nat → ClassId) (dI : Nat → Nat → Nat) (cI cL cM cZ : ClassId) (q_p0 q_p0_text q_p0_names q_p0_calendars q_p0_priorities q_p0_starts q_p0_estimates q_p0_many q_p0_newNames q_p0_numbers q_p0_newMany q_p0_needs q_p0_conditions q_p0_newNeeds q_p0_newConditions q_p0_needPlaces q_p0_rules q_p0_of q_p0_holidays q_p0_states q_p0_ran q_p0_sums q_p0_kept q_p0_startedJob q_p0_startedAt q_p0_ring q_p0_came q_p0_level q_p0_again q_p0_way q_p0_before q_p0_path : Nat) (v_p0_code : Int32) (v_p0_length : Int32) (v_p0_jobs : Int32) (v_p0_newJobs : Int32) (v_p0_made : Int32) (v_p0_days : Int32) (v_p0_now : Int64) (v_p0_started : Int32) (v_p0_ringSize : Int32) (v_p0_place : Int32) (f_p0_priorities : Nat → Int32) (f_p0_starts : Nat → Int32) (f_p0_many : Nat → Int32) (f_p0_needs : Nat → Int32) (f_p0_conditions : Nat → Int32) (f_p0_states : Nat → Int32) (f_p0_ran : Nat → Int64) (f_p0_startedJob : Nat → Int32) (f_p0_startedAt : Nat → Int64) (f_p0_again : Nat → Int32) (a1_x : Int32) (N : Nat) (o : Int32 × Int32 × Int32 × (Nat → Int32) × (Nat → Int64) × (Nat → Int32) × (Nat → Int64) × (Nat → Int32)) (hm : md_B_rerun N v_p0_code v_p0_jobs v_p0_now v_p0_started f_p0_priorities f_p0_starts f_p0_many f_p0_needs f_p0_conditions f_p0_states f_p0_ran f_p0_startedJob f_p0_startedAt f_p0_again a1_x = some o) : ∀ sz : Nat, Met l y_B_rerun ws_B_rerun rm_B_rerun (cP (dC, dI) vwCl [(cI, .int), (cL, .long), (cM, .array .int), (cZ, .boolean)] [.ref q_p0, .int a1_x] sz (sc_B_rerun cI cL cM cZ q_p0 q_p0_text q_p0_names q_p0_calendars q_p0_priorities q_p0_starts q_p0_estimates q_p0_many q_p0_newNames q_p0_numbers q_p0_newMany q_p0_needs q_p0_conditions q_p0_newNeeds q_p0_newConditions q_p0_needPlaces q_p0_rules q_p0_of q_p0_holidays q_p0_states q_p0_ran q_p0_sums q_p0_kept q_p0_startedJob q_p0_startedAt q_p0_ring q_p0_came q_p0_level q_p0_again q_p0_way q_p0_before q_p0_path v_p0_code v_p0_length v_p0_jobs v_p0_newJobs v_p0_made v_p0_days v_p0_now v_p0_started v_p0_ringSize v_p0_place f_p0_priorities f_p0_starts f_p0_many f_p0_needs f_p0_conditions f_p0_states f_p0_ran f_p0_startedJob f_p0_startedAt f_p0_again)) (cQi (dC, dI) vwCl [(cI, .int), (cL, .long), (cM, .array .int), (cZ, .boolean)] sz (sc_B_rerun cI cL cM cZ q_p0 q_p0_text q_p0_names q_p0_calendars q_p0_priorities q_p0_starts q_p0_estimates q_p0_many q_p0_newNames q_p0_numbers q_p0_newMany q_p0_needs q_p0_conditions q_p0_newNeeds q_p0_newConditions q_p0_needPlaces q_p0_rules q_p0_of q_p0_holidays q_p0_states q_p0_ran q_p0_sums q_p0_kept q_p0_startedJob q_p0_startedAt q_p0_ring q_p0_came q_p0_level q_p0_again q_p0_way q_p0_before q_p0_path v_p0_code v_p0_length v_p0_jobs v_p0_newJobs v_p0_made v_p0_days v_p0_now v_p0_started v_p0_ringSize v_p0_place f_p0_priorities f_p0_starts f_p0_many f_p0_needs f_p0_conditions f_p0_states f_p0_ran f_p0_startedJob f_p0_startedAt f_p0_again) o.1 (sc_B_rerun cI cL cM cZ q_p0 q_p0_text q_p0_names q_p0_calendars q_p0_priorities q_p0_starts q_p0_estimates q_p0_many q_p0_newNames q_p0_numbers q_p0_newMany q_p0_needs q_p0_conditions q_p0_newNeeds q_p0_newConditions q_p0_needPlaces q_p0_rules q_p0_of q_p0_holidays q_p0_states q_p0_ran q_p0_sums q_p0_kept q_p0_startedJob q_p0_startedAt q_p0_ring q_p0_came q_p0_level q_p0_again q_p0_way q_p0_before q_p0_path o.2.1 v_p0_length v_p0_jobs v_p0_newJobs v_p0_made v_p0_days v_p0_now o.2.2.1 v_p0_ringSize v_p0_place f_p0_priorities f_p0_starts f_p0_many f_p0_needs f_p0_conditions o.2.2.2.1 o.2.2.2.2.1 o.2.2.2.2.2.1 o.2.2.2.2.2.2.1 o.2.2.2.2.2.2.2)) 0 0 (va_A ((sc_B_rerun cI cL cM cZ q_p0 q_p0_text q_p0_names q_p0_calendars q_p0_priorities q_p0_starts q_p0_estimates q_p0_many q_p0_newNames q_p0_numbers q_p0_newMany q_p0_needs q_p0_conditions q_p0_newNeeds q_p0_newConditions q_p0_needPlaces q_p0_rules q_p0_of q_p0_holidays q_p0_states q_p0_ran q_p0_sums q_p0_kept q_p0_startedJob q_p0_startedAt q_p0_ring q_p0_came q_p0_level q_p0_again q_p0_way q_p0_before q_p0_path v_p0_code v_p0_length v_p0_jobs v_p0_newJobs v_p0_made v_p0_days v_p0_now v_p0_started v_p0_ringSize v_p0_place f_p0_priorities f_p0_starts f_p0_many f_p0_needs f_p0_conditions f_p0_states f_p0_ran f_p0_startedJob f_p0_startedAt f_p0_again)).flatten sz) := by
  refine sg_met (fun sz => cQi (dC, dI) vwCl [(cI, .int), (cL, .long), (cM, .array .int), (cZ, .boolean)] sz (sc_B_rerun cI cL cM cZ q_p0 q_p0_text q_p0_names q_p0_calendars q_p0_priorities q_p0_starts q_p0_estimates q_p0_many q_p0_newNames q_p0_numbers q_p0_newMany q_p0_needs q_p0_conditions q_p0_newNeeds q_p0_newConditions q_p0_needPlaces q_p0_rules q_p0_of q_p0_holidays q_p0_states q_p0_ran q_p0_sums q_p0_kept q_p0_startedJob q_p0_startedAt q_p0_ring q_p0_came q_p0_level q_p0_again q_p0_way q_p0_before q_p0_path v_p0_code v_p0_length v_p0_jobs v_p0_newJobs v_p0_made v_p0_days v_p0_now v_p0_started v_p0_ringSize v_p0_place f_p0_priorities f_p0_starts f_p0_many f_p0_needs f_p0_conditions f_p0_states f_p0_ran f_p0_startedJob f_p0_startedAt f_p0_again) o.1 (sc_B_rerun cI cL cM cZ q_p0 q_p0_text q_p0_names q_p0_calendars q_p0_priorities q_p0_starts q_p0_estimates q_p0_many q_p0_newNames q_p0_numbers q_p0_newMany q_p0_needs q_p0_conditions q_p0_newNeeds q_p0_newConditions q_p0_needPlaces q_p0_rules q_p0_of q_p0_holidays q_p0_states q_p0_ran q_p0_sums q_p0_kept q_p0_startedJob q_p0_startedAt q_p0_ring q_p0_came q_p0_level q_p0_again q_p0_way q_p0_before q_p0_path o.2.1 v_p0_length v_p0_jobs v_p0_newJobs v_p0_made v_p0_days v_p0_now o.2.2.1 v_p0_ringSize v_p0_place f_p0_priorities f_p0_starts f_p0_many f_p0_needs f_p0_conditions o.2.2.2.1 o.2.2.2.2.1 o.2.2.2.2.2.1 o.2.2.2.2.2.2.1 o.2.2.2.2.2.2.2)) (by decide) (Nat.le_of_ble_eq_true rfl) ?_
  intro p e s m args below meth c A Q ls hx hb hr hts hown hlocks hml hname hK hNW hA hAe hQ hw hl
  have hl : lv_has ls 6 [(0, .ref q_p0), (1, .int a1_x)] := hl
  have hw : wk (dC, dI) vwCl A s.heap [[(q_p0, .inr (9, [.int v_p0_code, .ref q_p0_text, .int v_p0_length, .int v_p0_jobs, .int v_p0_newJobs, .ref q_p0_names, .ref q_p0_calendars, .ref q_p0_priorities, .ref q_p0_starts, .ref q_p0_estimates, .ref q_p0_many, .ref q_p0_newNames, .ref q_p0_numbers, .ref q_p0_newMany, .ref q_p0_needs, .ref q_p0_conditions, .ref q_p0_newNeeds, .ref q_p0_newConditions, .ref q_p0_needPlaces, .ref q_p0_rules, .ref q_p0_of, .int v_p0_made, .ref q_p0_holidays, .int v_p0_days, .ref q_p0_states, .ref q_p0_ran, .ref q_p0_sums, .ref q_p0_kept, .long v_p0_now, .ref q_p0_startedJob, .ref q_p0_startedAt, .int v_p0_started, .ref q_p0_ring, .ref q_p0_came, .ref q_p0_level, .int v_p0_ringSize, .ref q_p0_again, .ref q_p0_way, .ref q_p0_before, .ref q_p0_path, .int v_p0_place]))], [(q_p0_priorities, .inl (cI, 27, .inl f_p0_priorities))], [(q_p0_starts, .inl (cI, 27, .inl f_p0_starts))], [(q_p0_many, .inl (cI, 27, .inl f_p0_many))], [(q_p0_needs, .inl (cI, 540, .inl f_p0_needs))], [(q_p0_conditions, .inl (cI, 540, .inl f_p0_conditions))], [(q_p0_states, .inl (cI, 27, .inl f_p0_states))], [(q_p0_ran, .inl (cL, 27, .inr (.inl f_p0_ran)))], [(q_p0_startedJob, .inl (cI, 20000, .inl f_p0_startedJob))], [(q_p0_startedAt, .inl (cL, 20000, .inr (.inl f_p0_startedAt)))], [(q_p0_again, .inl (cZ, 27, .inl f_p0_again))]] s.heap [] := hw
  unfold md_B_rerun at hm
  refine lv_aload_n hx hb d_B_rerun_0 rfl (lv_at hl 0 rfl) ?_
  refine lv_iconst (v := 0) hx hb d_B_rerun_1 (by decide) ?_
  refine sg_put (D := (dC, dI)) (ci := 9) (v := .int (0 : Int32)) (ty := .int) (C := "JobNetsModel") (T := T_9) (N := 41) (S1 := [[(q_p0, .inr (9, [.int (0 : Int32), .ref q_p0_text, .int v_p0_length, .int v_p0_jobs, .int v_p0_newJobs, .ref q_p0_names, .ref q_p0_calendars, .ref q_p0_priorities, .ref q_p0_starts, .ref q_p0_estimates, .ref q_p0_many, .ref q_p0_newNames, .ref q_p0_numbers, .ref q_p0_newMany, .ref q_p0_needs, .ref q_p0_conditions, .ref q_p0_newNeeds, .ref q_p0_newConditions, .ref q_p0_needPlaces, .ref q_p0_rules, .ref q_p0_of, .int v_p0_made, .ref q_p0_holidays, .int v_p0_days, .ref q_p0_states, .ref q_p0_ran, .ref q_p0_sums, .ref q_p0_kept, .long v_p0_now, .ref q_p0_startedJob, .ref q_p0_startedAt, .int v_p0_started, .ref q_p0_ring, .ref q_p0_came, .ref q_p0_level, .int v_p0_ringSize, .ref q_p0_again, .ref q_p0_way, .ref q_p0_before, .ref q_p0_path, .int v_p0_place]))], [(q_p0_priorities, .inl (cI, 27, .inl f_p0_priorities))], [(q_p0_starts, .inl (cI, 27, .inl f_p0_starts))], [(q_p0_many, .inl (cI, 27, .inl f_p0_many))], [(q_p0_needs, .inl (cI, 540, .inl f_p0_needs))], [(q_p0_conditions, .inl (cI, 540, .inl f_p0_conditions))], [(q_p0_states, .inl (cI, 27, .inl f_p0_states))], [(q_p0_ran, .inl (cL, 27, .inr (.inl f_p0_ran)))], [(q_p0_startedJob, .inl (cI, 20000, .inl f_p0_startedJob))], [(q_p0_startedAt, .inl (cL, 20000, .inr (.inl f_p0_startedAt)))], [(q_p0_again, .inl (cZ, 27, .inl f_p0_again))]]) hx hb hts hin_9 ty_9 tok_9 nd_9 hown hK hw 0 rfl rfl 0 (by decide) (hts _ wd_616) rfl rfl (by decide +kernel) rfl rfl (Nat.le_of_ble_eq_true rfl) rfl d_B_rerun_2 (fun H locs hw => ?_)
  refine lv_aload_n hx hb d_B_rerun_5 rfl (lv_at hl 0 rfl) ?_
  refine lv_iload_n hx hb d_B_rerun_6 rfl (lv_at hl 1 rfl) ?_
  obtain ⟨o1, h1, hm⟩ := zc_x hm
  refine sg_ci0 (Sr := [[(q_p0_priorities, .inl (cI, 27, .inl f_p0_priorities))], [(q_p0_starts, .inl (cI, 27, .inl f_p0_starts))], [(q_p0_many, .inl (cI, 27, .inl f_p0_many))], [(q_p0_needs, .inl (cI, 540, .inl f_p0_needs))], [(q_p0_conditions, .inl (cI, 540, .inl f_p0_conditions))], [(q_p0_states, .inl (cI, 27, .inl f_p0_states))], [(q_p0_ran, .inl (cL, 27, .inr (.inl f_p0_ran)))], [(q_p0_startedJob, .inl (cI, 20000, .inl f_p0_startedJob))], [(q_p0_startedAt, .inl (cL, 20000, .inr (.inl f_p0_startedAt)))], [(q_p0_again, .inl (cZ, 27, .inl f_p0_again))]]) (va_runV (As := [.int a1_x]) (rest := []) ⟨hx, hb, hml, hown, hts⟩ (ct_B_isJob l dC dI cI cL cM cZ q_p0 q_p0_text q_p0_names q_p0_calendars q_p0_priorities q_p0_starts q_p0_estimates q_p0_many q_p0_newNames q_p0_numbers q_p0_newMany q_p0_needs q_p0_conditions q_p0_newNeeds q_p0_newConditions q_p0_needPlaces q_p0_rules q_p0_of q_p0_holidays q_p0_states q_p0_ran q_p0_sums q_p0_kept q_p0_startedJob q_p0_startedAt q_p0_ring q_p0_came q_p0_level q_p0_again q_p0_way q_p0_before q_p0_path (0 : Int32) v_p0_length v_p0_jobs v_p0_newJobs v_p0_made v_p0_days v_p0_now v_p0_started v_p0_ringSize v_p0_place a1_x N o1 h1 _) (cwV 1 hts (gd_V wd_799 wd_801 ws_29 wd_10 wd_802) rfl rfl rfl (by decide +kernel) ⟨Nat.le_of_ble_eq_true rfl, Nat.le_of_ble_eq_true rfl⟩) (sg_preV (ci := 9) (q0 := 0) hK hNW hw [0] rfl rfl rfl rfl) rfl rfl hl.1 rfl (lv_room (Nat.le_of_ble_eq_true rfl)) d_B_rerun_7 ⟨Nat.le_of_ble_eq_true rfl, Nat.le_of_ble_eq_true rfl⟩) hw hA [0] [1, 2, 3, 4, 5, 6, 7, 8, 9, 10] rfl rfl rfl (by decide) (fun H locs hw => ?_)
  have hw : wk (dC, dI) vwCl A s.heap [[(q_p0_priorities, .inl (cI, 27, .inl f_p0_priorities))], [(q_p0_starts, .inl (cI, 27, .inl f_p0_starts))], [(q_p0_many, .inl (cI, 27, .inl f_p0_many))], [(q_p0_needs, .inl (cI, 540, .inl f_p0_needs))], [(q_p0_conditions, .inl (cI, 540, .inl f_p0_conditions))], [(q_p0_states, .inl (cI, 27, .inl f_p0_states))], [(q_p0_ran, .inl (cL, 27, .inr (.inl f_p0_ran)))], [(q_p0_startedJob, .inl (cI, 20000, .inl f_p0_startedJob))], [(q_p0_startedAt, .inl (cL, 20000, .inr (.inl f_p0_startedAt)))], [(q_p0_again, .inl (cZ, 27, .inl f_p0_again))], [(q_p0, .inr (9, [.int (0 : Int32), .ref q_p0_text, .int v_p0_length, .int v_p0_jobs, .int v_p0_newJobs, .ref q_p0_names, .ref q_p0_calendars, .ref q_p0_priorities, .ref q_p0_starts, .ref q_p0_estimates, .ref q_p0_many, .ref q_p0_newNames, .ref q_p0_numbers, .ref q_p0_newMany, .ref q_p0_needs, .ref q_p0_conditions, .ref q_p0_newNeeds, .ref q_p0_newConditions, .ref q_p0_needPlaces, .ref q_p0_rules, .ref q_p0_of, .int v_p0_made, .ref q_p0_holidays, .int v_p0_days, .ref q_p0_states, .ref q_p0_ran, .ref q_p0_sums, .ref q_p0_kept, .long v_p0_now, .ref q_p0_startedJob, .ref q_p0_startedAt, .int v_p0_started, .ref q_p0_ring, .ref q_p0_came, .ref q_p0_level, .int v_p0_ringSize, .ref q_p0_again, .ref q_p0_way, .ref q_p0_before, .ref q_p0_path, .int v_p0_place]))]] H locs := hw
  refine bq_n (lv_if_ne (tgt := 15) hx hb d_B_rerun_10 (by decide)) hm (fun hm => ?_) (fun hm => ?_)
  · refine lv_aload_n hx hb d_B_rerun_15 rfl (lv_at hl 0 rfl) ?_
    refine sg_get (D := (dC, dI)) (ci := 9) (v := .ref q_p0_states) (C := "JobNetsModel") (T := T_9) (N := 41) hx hb hts hin_9 hown hK hw 10 rfl rfl 24 (by decide) (hts _ wd_640) rfl rfl d_B_rerun_16 ?_
    refine lv_iload_n hx hb d_B_rerun_19 rfl (lv_at hl 1 rfl) ?_
    refine sg_iald hx hb hK hw 5 0 rfl rfl d_B_rerun_20 hm (fun hm => ?_)
    refine lv_iconst (v := 3) hx hb d_B_rerun_21 (by decide) ?_
    obtain ⟨k37, hk37, hm⟩ := zl_x hm
    have J37 : k37 = some o → ∀ (H : Heap) (locs : List Loc) (ls : Array Slot), wk (dC, dI) vwCl A s.heap [[(q_p0_priorities, .inl (cI, 27, .inl f_p0_priorities))], [(q_p0_starts, .inl (cI, 27, .inl f_p0_starts))], [(q_p0_many, .inl (cI, 27, .inl f_p0_many))], [(q_p0_needs, .inl (cI, 540, .inl f_p0_needs))], [(q_p0_conditions, .inl (cI, 540, .inl f_p0_conditions))], [(q_p0_states, .inl (cI, 27, .inl f_p0_states))], [(q_p0_ran, .inl (cL, 27, .inr (.inl f_p0_ran)))], [(q_p0_startedJob, .inl (cI, 20000, .inl f_p0_startedJob))], [(q_p0_startedAt, .inl (cL, 20000, .inr (.inl f_p0_startedAt)))], [(q_p0_again, .inl (cZ, 27, .inl f_p0_again))], [(q_p0, .inr (9, [.int (0 : Int32), .ref q_p0_text, .int v_p0_length, .int v_p0_jobs, .int v_p0_newJobs, .ref q_p0_names, .ref q_p0_calendars, .ref q_p0_priorities, .ref q_p0_starts, .ref q_p0_estimates, .ref q_p0_many, .ref q_p0_newNames, .ref q_p0_numbers, .ref q_p0_newMany, .ref q_p0_needs, .ref q_p0_conditions, .ref q_p0_newNeeds, .ref q_p0_newConditions, .ref q_p0_needPlaces, .ref q_p0_rules, .ref q_p0_of, .int v_p0_made, .ref q_p0_holidays, .int v_p0_days, .ref q_p0_states, .ref q_p0_ran, .ref q_p0_sums, .ref q_p0_kept, .long v_p0_now, .ref q_p0_startedJob, .ref q_p0_startedAt, .int v_p0_started, .ref q_p0_ring, .ref q_p0_came, .ref q_p0_level, .int v_p0_ringSize, .ref q_p0_again, .ref q_p0_way, .ref q_p0_before, .ref q_p0_path, .int v_p0_place]))]] H locs → lv_has ls 6 [(0, .ref q_p0), (1, .int a1_x)] → W p l e rm_B_rerun s m args below meth c H locs 0 0 Q (F0 m 37 ls []) := by
      intro hm H locs ls hw hl
      subst hk37
      refine lv_iconst (v := 0) hx hb d_B_rerun_37 (by decide) ?_
      refine lv_istore_n (lv' := [(2, .int (0 : Int32)), (0, .ref q_p0), (1, .int a1_x)]) hx hb d_B_rerun_38 rfl hl (by decide) rfl (fun ls hl => ?_)
      obtain ⟨Fn39, hFn39, hm⟩ := fx2_x hm
      have L39 : ∀ (n : Nat) (x2 : Int32) (f3 : Nat → Int32), fx2 Fn39 n x2 f3 = some o → ∀ (H : Heap) (locs : List Loc) (ls : Array Slot), wk (dC, dI) vwCl A s.heap [[(q_p0_priorities, .inl (cI, 27, .inl f_p0_priorities))], [(q_p0_starts, .inl (cI, 27, .inl f_p0_starts))], [(q_p0_many, .inl (cI, 27, .inl f_p0_many))], [(q_p0_needs, .inl (cI, 540, .inl f_p0_needs))], [(q_p0_conditions, .inl (cI, 540, .inl f_p0_conditions))], [(q_p0_states, .inl (cI, 27, .inl f_p0_states))], [(q_p0_ran, .inl (cL, 27, .inr (.inl f_p0_ran)))], [(q_p0_startedJob, .inl (cI, 20000, .inl f_p0_startedJob))], [(q_p0_startedAt, .inl (cL, 20000, .inr (.inl f_p0_startedAt)))], [(q_p0_again, .inl (cZ, 27, .inl f3))], [(q_p0, .inr (9, [.int (0 : Int32), .ref q_p0_text, .int v_p0_length, .int v_p0_jobs, .int v_p0_newJobs, .ref q_p0_names, .ref q_p0_calendars, .ref q_p0_priorities, .ref q_p0_starts, .ref q_p0_estimates, .ref q_p0_many, .ref q_p0_newNames, .ref q_p0_numbers, .ref q_p0_newMany, .ref q_p0_needs, .ref q_p0_conditions, .ref q_p0_newNeeds, .ref q_p0_newConditions, .ref q_p0_needPlaces, .ref q_p0_rules, .ref q_p0_of, .int v_p0_made, .ref q_p0_holidays, .int v_p0_days, .ref q_p0_states, .ref q_p0_ran, .ref q_p0_sums, .ref q_p0_kept, .long v_p0_now, .ref q_p0_startedJob, .ref q_p0_startedAt, .int v_p0_started, .ref q_p0_ring, .ref q_p0_came, .ref q_p0_level, .int v_p0_ringSize, .ref q_p0_again, .ref q_p0_way, .ref q_p0_before, .ref q_p0_path, .int v_p0_place]))]] H locs → lv_has ls 6 [(2, .int x2), (0, .ref q_p0), (1, .int a1_x)] → W p l e rm_B_rerun s m args below meth c H locs 0 0 Q (F0 m 39 ls []) := by
        intro n
        induction n with
        | zero => intro x2 f3 hm; exact (fx2_0 hm).elim
        | succ n ih39 =>
          intro x2 f3 hm H locs ls hw hl
          have hm := fx2_s hFn39 hm
          unfold md_B_rerun_F39 at hm
          refine lv_iload_n hx hb d_B_rerun_39 rfl (lv_at hl 0 rfl) ?_
          refine lv_bipush (v := 26) hx hb d_B_rerun_40 (by decide) ?_
          refine bq_t (lv_icmp_gt (tgt := 67) hx hb d_B_rerun_42 (by decide)) hm (fun hm => ?_) (fun hm => ?_)
          · refine lv_iconst (v := 1) hx hb d_B_rerun_67 (by decide) ?_
            refine lv_istore_n (lv' := [(2, .int (1 : Int32)), (0, .ref q_p0), (1, .int a1_x)]) hx hb d_B_rerun_68 rfl hl (by decide) rfl (fun ls hl => ?_)
            obtain ⟨Fn69, hFn69, hm⟩ := fx2_x hm
            have L69 : ∀ (n : Nat) (x4 : Int32) (f5 : Nat → Int32), fx2 Fn69 n x4 f5 = some o → ∀ (H : Heap) (locs : List Loc) (ls : Array Slot), wk (dC, dI) vwCl A s.heap [[(q_p0_priorities, .inl (cI, 27, .inl f_p0_priorities))], [(q_p0_starts, .inl (cI, 27, .inl f_p0_starts))], [(q_p0_many, .inl (cI, 27, .inl f_p0_many))], [(q_p0_needs, .inl (cI, 540, .inl f_p0_needs))], [(q_p0_conditions, .inl (cI, 540, .inl f_p0_conditions))], [(q_p0_states, .inl (cI, 27, .inl f_p0_states))], [(q_p0_ran, .inl (cL, 27, .inr (.inl f_p0_ran)))], [(q_p0_startedJob, .inl (cI, 20000, .inl f_p0_startedJob))], [(q_p0_startedAt, .inl (cL, 20000, .inr (.inl f_p0_startedAt)))], [(q_p0_again, .inl (cZ, 27, .inl f5))], [(q_p0, .inr (9, [.int (0 : Int32), .ref q_p0_text, .int v_p0_length, .int v_p0_jobs, .int v_p0_newJobs, .ref q_p0_names, .ref q_p0_calendars, .ref q_p0_priorities, .ref q_p0_starts, .ref q_p0_estimates, .ref q_p0_many, .ref q_p0_newNames, .ref q_p0_numbers, .ref q_p0_newMany, .ref q_p0_needs, .ref q_p0_conditions, .ref q_p0_newNeeds, .ref q_p0_newConditions, .ref q_p0_needPlaces, .ref q_p0_rules, .ref q_p0_of, .int v_p0_made, .ref q_p0_holidays, .int v_p0_days, .ref q_p0_states, .ref q_p0_ran, .ref q_p0_sums, .ref q_p0_kept, .long v_p0_now, .ref q_p0_startedJob, .ref q_p0_startedAt, .int v_p0_started, .ref q_p0_ring, .ref q_p0_came, .ref q_p0_level, .int v_p0_ringSize, .ref q_p0_again, .ref q_p0_way, .ref q_p0_before, .ref q_p0_path, .int v_p0_place]))]] H locs → lv_has ls 6 [(2, .int x4), (0, .ref q_p0)] → W p l e rm_B_rerun s m args below meth c H locs 0 0 Q (F0 m 69 ls []) := by
              intro n
              induction n with
              | zero => intro x4 f5 hm; exact (fx2_0 hm).elim
              | succ n ih69 =>
                intro x4 f5 hm H locs ls hw hl
                have hm := fx2_s hFn69 hm
                unfold md_B_rerun_F69 at hm
                refine lv_iload_n hx hb d_B_rerun_69 rfl (lv_at hl 0 rfl) ?_
                refine bq_t (lv_if_eq (tgt := 167) hx hb d_B_rerun_70 (by decide)) hm (fun hm => ?_) (fun hm => ?_)
                · refine lv_iconst (v := 0) hx hb d_B_rerun_167 (by decide) ?_
                  refine lv_istore_n (lv' := [(3, .int (0 : Int32)), (2, .int x4), (0, .ref q_p0)]) hx hb d_B_rerun_168 rfl hl (by decide) rfl (fun ls hl => ?_)
                  refine lv_iconst (v := 0) hx hb d_B_rerun_169 (by decide) ?_
                  refine lv_istore (lv' := [(4, .int (0 : Int32)), (3, .int (0 : Int32)), (2, .int x4), (0, .ref q_p0)]) hx hb d_B_rerun_170 hl (by decide) rfl (fun ls hl => ?_)
                  refine lv_iconst (v := 1) hx hb d_B_rerun_172 (by decide) ?_
                  refine lv_istore (lv' := [(5, .int (1 : Int32)), (4, .int (0 : Int32)), (3, .int (0 : Int32)), (2, .int x4), (0, .ref q_p0)]) hx hb d_B_rerun_173 hl (by decide) rfl (fun ls hl => ?_)
                  obtain ⟨Fn175, hFn175, hm⟩ := fx3_x hm
                  have L175 : ∀ (n : Nat) (x6 : Int32) (x7 : Int32) (x8 : Int32), fx3 Fn175 n x6 x7 x8 = some o → ∀ (H : Heap) (locs : List Loc) (ls : Array Slot), wk (dC, dI) vwCl A s.heap [[(q_p0_priorities, .inl (cI, 27, .inl f_p0_priorities))], [(q_p0_starts, .inl (cI, 27, .inl f_p0_starts))], [(q_p0_many, .inl (cI, 27, .inl f_p0_many))], [(q_p0_needs, .inl (cI, 540, .inl f_p0_needs))], [(q_p0_conditions, .inl (cI, 540, .inl f_p0_conditions))], [(q_p0_states, .inl (cI, 27, .inl f_p0_states))], [(q_p0_ran, .inl (cL, 27, .inr (.inl f_p0_ran)))], [(q_p0_startedJob, .inl (cI, 20000, .inl f_p0_startedJob))], [(q_p0_startedAt, .inl (cL, 20000, .inr (.inl f_p0_startedAt)))], [(q_p0_again, .inl (cZ, 27, .inl f5))], [(q_p0, .inr (9, [.int (0 : Int32), .ref q_p0_text, .int v_p0_length, .int v_p0_jobs, .int v_p0_newJobs, .ref q_p0_names, .ref q_p0_calendars, .ref q_p0_priorities, .ref q_p0_starts, .ref q_p0_estimates, .ref q_p0_many, .ref q_p0_newNames, .ref q_p0_numbers, .ref q_p0_newMany, .ref q_p0_needs, .ref q_p0_conditions, .ref q_p0_newNeeds, .ref q_p0_newConditions, .ref q_p0_needPlaces, .ref q_p0_rules, .ref q_p0_of, .int v_p0_made, .ref q_p0_holidays, .int v_p0_days, .ref q_p0_states, .ref q_p0_ran, .ref q_p0_sums, .ref q_p0_kept, .long v_p0_now, .ref q_p0_startedJob, .ref q_p0_startedAt, .int v_p0_started, .ref q_p0_ring, .ref q_p0_came, .ref q_p0_level, .int v_p0_ringSize, .ref q_p0_again, .ref q_p0_way, .ref q_p0_before, .ref q_p0_path, .int v_p0_place]))]] H locs → lv_has ls 6 [(5, .int x6), (4, .int x7), (3, .int x8), (0, .ref q_p0)] → W p l e rm_B_rerun s m args below meth c H locs 0 0 Q (F0 m 175 ls []) := by
                    intro n
                    induction n with
                    | zero => intro x6 x7 x8 hm; exact (fx3_0 hm).elim
                    | succ n ih175 =>
                      intro x6 x7 x8 hm H locs ls hw hl
                      have hm := fx3_s hFn175 hm
                      unfold md_B_rerun_F175 at hm
                      refine lv_iload hx hb d_B_rerun_175 (lv_at hl 0 rfl) ?_
                      refine lv_aload_n hx hb d_B_rerun_177 rfl (lv_at hl 3 rfl) ?_
                      refine sg_get (D := (dC, dI)) (ci := 9) (v := .int v_p0_jobs) (C := "JobNetsModel") (T := T_9) (N := 41) hx hb hts hin_9 hown hK hw 10 rfl rfl 3 (by decide) (hts _ wd_619) rfl rfl d_B_rerun_178 ?_
                      refine bq_t (lv_icmp_gt (tgt := 263) hx hb d_B_rerun_181 (by decide)) hm (fun hm => ?_) (fun hm => ?_)
                      · refine lv_iload_n hx hb d_B_rerun_263 rfl (lv_at hl 2 rfl) ?_
                        refine bq_t (lv_if_eq (tgt := 269) hx hb d_B_rerun_264 (by decide)) hm (fun hm => ?_) (fun hm => ?_)
                        · refine lv_iconst (v := 1) hx hb d_B_rerun_269 (by decide) ?_
                          refine lv_istore (lv' := [(5, .int (1 : Int32)), (4, .int x7), (3, .int x8), (0, .ref q_p0)]) hx hb d_B_rerun_270 hl (by decide) rfl (fun ls hl => ?_)
                          obtain ⟨Fn272, hFn272, hm⟩ := fx2_x hm
                          have L272 : ∀ (n : Nat) (x9 : Int32) (f10 : Nat → Int32), fx2 Fn272 n x9 f10 = some o → ∀ (H : Heap) (locs : List Loc) (ls : Array Slot), wk (dC, dI) vwCl A s.heap [[(q_p0_priorities, .inl (cI, 27, .inl f_p0_priorities))], [(q_p0_starts, .inl (cI, 27, .inl f_p0_starts))], [(q_p0_many, .inl (cI, 27, .inl f_p0_many))], [(q_p0_needs, .inl (cI, 540, .inl f_p0_needs))], [(q_p0_conditions, .inl (cI, 540, .inl f_p0_conditions))], [(q_p0_states, .inl (cI, 27, .inl f10))], [(q_p0_ran, .inl (cL, 27, .inr (.inl f_p0_ran)))], [(q_p0_startedJob, .inl (cI, 20000, .inl f_p0_startedJob))], [(q_p0_startedAt, .inl (cL, 20000, .inr (.inl f_p0_startedAt)))], [(q_p0_again, .inl (cZ, 27, .inl f5))], [(q_p0, .inr (9, [.int (0 : Int32), .ref q_p0_text, .int v_p0_length, .int v_p0_jobs, .int v_p0_newJobs, .ref q_p0_names, .ref q_p0_calendars, .ref q_p0_priorities, .ref q_p0_starts, .ref q_p0_estimates, .ref q_p0_many, .ref q_p0_newNames, .ref q_p0_numbers, .ref q_p0_newMany, .ref q_p0_needs, .ref q_p0_conditions, .ref q_p0_newNeeds, .ref q_p0_newConditions, .ref q_p0_needPlaces, .ref q_p0_rules, .ref q_p0_of, .int v_p0_made, .ref q_p0_holidays, .int v_p0_days, .ref q_p0_states, .ref q_p0_ran, .ref q_p0_sums, .ref q_p0_kept, .long v_p0_now, .ref q_p0_startedJob, .ref q_p0_startedAt, .int v_p0_started, .ref q_p0_ring, .ref q_p0_came, .ref q_p0_level, .int v_p0_ringSize, .ref q_p0_again, .ref q_p0_way, .ref q_p0_before, .ref q_p0_path, .int v_p0_place]))]] H locs → lv_has ls 6 [(5, .int x9), (4, .int x7), (0, .ref q_p0)] → W p l e rm_B_rerun s m args below meth c H locs 0 0 Q (F0 m 272 ls []) := by
                            intro n
                            induction n with
                            | zero => intro x9 f10 hm; exact (fx2_0 hm).elim
                            | succ n ih272 =>
                              intro x9 f10 hm H locs ls hw hl
                              have hm := fx2_s hFn272 hm
                              unfold md_B_rerun_F272 at hm
                              refine lv_iload hx hb d_B_rerun_272 (lv_at hl 0 rfl) ?_
                              refine lv_aload_n hx hb d_B_rerun_274 rfl (lv_at hl 2 rfl) ?_
                              refine sg_get (D := (dC, dI)) (ci := 9) (v := .int v_p0_jobs) (C := "JobNetsModel") (T := T_9) (N := 41) hx hb hts hin_9 hown hK hw 10 rfl rfl 3 (by decide) (hts _ wd_619) rfl rfl d_B_rerun_275 ?_
                              refine bq_t (lv_icmp_gt (tgt := 326) hx hb d_B_rerun_278 (by decide)) hm (fun hm => ?_) (fun hm => ?_)
                              · refine lv_aload_n hx hb d_B_rerun_326 rfl (lv_at hl 2 rfl) ?_
                                obtain ⟨o11, h11, hm⟩ := zc_x hm
                                refine sg_ci0 (Sr := [[(q_p0_again, .inl (cZ, 27, .inl f5))]]) (va_runV (As := []) (rest := []) ⟨hx, hb, hml, hown, hts⟩ (ct_B_begin l dC dI cI cL cM cZ q_p0 q_p0_text q_p0_names q_p0_calendars q_p0_priorities q_p0_starts q_p0_estimates q_p0_many q_p0_newNames q_p0_numbers q_p0_newMany q_p0_needs q_p0_conditions q_p0_newNeeds q_p0_newConditions q_p0_needPlaces q_p0_rules q_p0_of q_p0_holidays q_p0_states q_p0_ran q_p0_sums q_p0_kept q_p0_startedJob q_p0_startedAt q_p0_ring q_p0_came q_p0_level q_p0_again q_p0_way q_p0_before q_p0_path (0 : Int32) v_p0_length v_p0_jobs v_p0_newJobs v_p0_made v_p0_days v_p0_now v_p0_started v_p0_ringSize v_p0_place f_p0_priorities f_p0_starts f_p0_many f_p0_needs f_p0_conditions f10 f_p0_ran f_p0_startedJob f_p0_startedAt N o11 h11 _) (cwV 0 hts (gd_V wd_834 wd_836 ws_32 wd_10 wd_837) rfl rfl rfl (by decide +kernel) ⟨Nat.le_of_ble_eq_true rfl, Nat.le_of_ble_eq_true rfl⟩) (sg_preV (ci := 9) (q0 := 10) hK hNW hw [10, 0, 1, 2, 3, 4, 5, 6, 7, 8] rfl rfl rfl rfl) rfl rfl hl.1 rfl (lv_room (Nat.le_of_ble_eq_true rfl)) d_B_rerun_327 ⟨Nat.le_of_ble_eq_true rfl, Nat.le_of_ble_eq_true rfl⟩) hw hA [10, 0, 1, 2, 3, 4, 5, 6, 7, 8] [9] rfl rfl rfl (by decide) (fun H locs hw => ?_)
                                have hw : wk (dC, dI) vwCl A s.heap [[(q_p0_again, .inl (cZ, 27, .inl f5))], [(q_p0, .inr (9, [.int (0 : Int32), .ref q_p0_text, .int v_p0_length, .int v_p0_jobs, .int v_p0_newJobs, .ref q_p0_names, .ref q_p0_calendars, .ref q_p0_priorities, .ref q_p0_starts, .ref q_p0_estimates, .ref q_p0_many, .ref q_p0_newNames, .ref q_p0_numbers, .ref q_p0_newMany, .ref q_p0_needs, .ref q_p0_conditions, .ref q_p0_newNeeds, .ref q_p0_newConditions, .ref q_p0_needPlaces, .ref q_p0_rules, .ref q_p0_of, .int v_p0_made, .ref q_p0_holidays, .int v_p0_days, .ref q_p0_states, .ref q_p0_ran, .ref q_p0_sums, .ref q_p0_kept, .long v_p0_now, .ref q_p0_startedJob, .ref q_p0_startedAt, .int o11.2.1, .ref q_p0_ring, .ref q_p0_came, .ref q_p0_level, .int v_p0_ringSize, .ref q_p0_again, .ref q_p0_way, .ref q_p0_before, .ref q_p0_path, .int v_p0_place]))], [(q_p0_priorities, .inl (cI, 27, .inl f_p0_priorities))], [(q_p0_starts, .inl (cI, 27, .inl f_p0_starts))], [(q_p0_many, .inl (cI, 27, .inl f_p0_many))], [(q_p0_needs, .inl (cI, 540, .inl f_p0_needs))], [(q_p0_conditions, .inl (cI, 540, .inl f_p0_conditions))], [(q_p0_states, .inl (cI, 27, .inl o11.2.2.1))], [(q_p0_ran, .inl (cL, 27, .inr (.inl o11.2.2.2.1)))], [(q_p0_startedJob, .inl (cI, 20000, .inl o11.2.2.2.2.1))], [(q_p0_startedAt, .inl (cL, 20000, .inr (.inl o11.2.2.2.2.2)))]] H locs := hw
                                refine lv_pop hx hb d_B_rerun_330 rfl ?_
                                refine lv_iload hx hb d_B_rerun_331 (lv_at hl 1 rfl) ?_
                                exact so_iret (rf := fun z_ => z_.1) (Sf := fun z_ => sc_B_rerun cI cL cM cZ q_p0 q_p0_text q_p0_names q_p0_calendars q_p0_priorities q_p0_starts q_p0_estimates q_p0_many q_p0_newNames q_p0_numbers q_p0_newMany q_p0_needs q_p0_conditions q_p0_newNeeds q_p0_newConditions q_p0_needPlaces q_p0_rules q_p0_of q_p0_holidays q_p0_states q_p0_ran q_p0_sums q_p0_kept q_p0_startedJob q_p0_startedAt q_p0_ring q_p0_came q_p0_level q_p0_again q_p0_way q_p0_before q_p0_path z_.2.1 v_p0_length v_p0_jobs v_p0_newJobs v_p0_made v_p0_days v_p0_now z_.2.2.1 v_p0_ringSize v_p0_place f_p0_priorities f_p0_starts f_p0_many f_p0_needs f_p0_conditions z_.2.2.2.1 z_.2.2.2.2.1 z_.2.2.2.2.2.1 z_.2.2.2.2.2.2.1 z_.2.2.2.2.2.2.2) hm hx hb hr hlocks hAe hQ hK (hw.sub [1, 2, 3, 4, 5, 6, 7, 8, 9, 10, 0] (by decide) rfl) rfl d_B_rerun_333
                              · refine lv_aload_n hx hb d_B_rerun_281 rfl (lv_at hl 2 rfl) ?_
                                refine sg_get (D := (dC, dI)) (ci := 9) (v := .ref q_p0_states) (C := "JobNetsModel") (T := T_9) (N := 41) hx hb hts hin_9 hown hK hw 10 rfl rfl 24 (by decide) (hts _ wd_640) rfl rfl d_B_rerun_282 ?_
                                refine lv_iload hx hb d_B_rerun_285 (lv_at hl 0 rfl) ?_
                                refine lv_aload_n hx hb d_B_rerun_287 rfl (lv_at hl 2 rfl) ?_
                                refine sg_get (D := (dC, dI)) (ci := 9) (v := .ref q_p0_again) (C := "JobNetsModel") (T := T_9) (N := 41) hx hb hts hin_9 hown hK hw 10 rfl rfl 36 (by decide) (hts _ wd_652) rfl rfl d_B_rerun_288 ?_
                                refine lv_iload hx hb d_B_rerun_291 (lv_at hl 0 rfl) ?_
                                refine sg_zald hx hb hK hw 9 3 rfl rfl d_B_rerun_293 hm (fun hm => ?_)
                                refine bq_t (lv_if_eq (tgt := 312) hx hb d_B_rerun_294 (by decide)) hm (fun hm => ?_) (fun hm => ?_)
                                · refine lv_aload_n hx hb d_B_rerun_312 rfl (lv_at hl 2 rfl) ?_
                                  refine sg_get (D := (dC, dI)) (ci := 9) (v := .ref q_p0_states) (C := "JobNetsModel") (T := T_9) (N := 41) hx hb hts hin_9 hown hK hw 10 rfl rfl 24 (by decide) (hts _ wd_640) rfl rfl d_B_rerun_313 ?_
                                  refine lv_iload hx hb d_B_rerun_316 (lv_at hl 0 rfl) ?_
                                  refine sg_iald hx hb hK hw 5 0 rfl rfl d_B_rerun_318 hm (fun hm => ?_)
                                  refine sg_iast (S1 := fun f12 => [[(q_p0_priorities, .inl (cI, 27, .inl f_p0_priorities))], [(q_p0_starts, .inl (cI, 27, .inl f_p0_starts))], [(q_p0_many, .inl (cI, 27, .inl f_p0_many))], [(q_p0_needs, .inl (cI, 540, .inl f_p0_needs))], [(q_p0_conditions, .inl (cI, 540, .inl f_p0_conditions))], [(q_p0_states, .inl (cI, 27, .inl f12))], [(q_p0_ran, .inl (cL, 27, .inr (.inl f_p0_ran)))], [(q_p0_startedJob, .inl (cI, 20000, .inl f_p0_startedJob))], [(q_p0_startedAt, .inl (cL, 20000, .inr (.inl f_p0_startedAt)))], [(q_p0_again, .inl (cZ, 27, .inl f5))], [(q_p0, .inr (9, [.int (0 : Int32), .ref q_p0_text, .int v_p0_length, .int v_p0_jobs, .int v_p0_newJobs, .ref q_p0_names, .ref q_p0_calendars, .ref q_p0_priorities, .ref q_p0_starts, .ref q_p0_estimates, .ref q_p0_many, .ref q_p0_newNames, .ref q_p0_numbers, .ref q_p0_newMany, .ref q_p0_needs, .ref q_p0_conditions, .ref q_p0_newNeeds, .ref q_p0_newConditions, .ref q_p0_needPlaces, .ref q_p0_rules, .ref q_p0_of, .int v_p0_made, .ref q_p0_holidays, .int v_p0_days, .ref q_p0_states, .ref q_p0_ran, .ref q_p0_sums, .ref q_p0_kept, .long v_p0_now, .ref q_p0_startedJob, .ref q_p0_startedAt, .int v_p0_started, .ref q_p0_ring, .ref q_p0_came, .ref q_p0_level, .int v_p0_ringSize, .ref q_p0_again, .ref q_p0_way, .ref q_p0_before, .ref q_p0_path, .int v_p0_place]))]]) hx hb hK hw 5 0 rfl rfl d_B_rerun_319 (fun _ => rfl) hm (fun f12 H locs hm hw => ?_)
                                  refine lv_iinc (v := x9 + 1) (lv' := [(5, .int (x9 + 1)), (4, .int x7), (0, .ref q_p0)]) hx hb d_B_rerun_320 hl (k := 0) rfl rfl (by decide) rfl (fun ls hl => ?_)
                                  refine lv_goto (tgt := 272) hx hb d_B_rerun_323 (by decide) ?_
                                  exact ih272 (x9 + 1) f12 hm _ _ _ hw hl
                                · refine lv_aload_n hx hb d_B_rerun_297 rfl (lv_at hl 2 rfl) ?_
                                  refine sg_get (D := (dC, dI)) (ci := 9) (v := .ref q_p0_states) (C := "JobNetsModel") (T := T_9) (N := 41) hx hb hts hin_9 hown hK hw 10 rfl rfl 24 (by decide) (hts _ wd_640) rfl rfl d_B_rerun_298 ?_
                                  refine lv_iload hx hb d_B_rerun_301 (lv_at hl 0 rfl) ?_
                                  refine sg_iald hx hb hK hw 5 0 rfl rfl d_B_rerun_303 hm (fun hm => ?_)
                                  refine lv_iconst (v := 2) hx hb d_B_rerun_304 (by decide) ?_
                                  refine bq_t (lv_icmp_le (tgt := 312) hx hb d_B_rerun_305 (by decide)) hm (fun hm => ?_) (fun hm => ?_)
                                  · refine lv_aload_n hx hb d_B_rerun_312 rfl (lv_at hl 2 rfl) ?_
                                    refine sg_get (D := (dC, dI)) (ci := 9) (v := .ref q_p0_states) (C := "JobNetsModel") (T := T_9) (N := 41) hx hb hts hin_9 hown hK hw 10 rfl rfl 24 (by decide) (hts _ wd_640) rfl rfl d_B_rerun_313 ?_
                                    refine lv_iload hx hb d_B_rerun_316 (lv_at hl 0 rfl) ?_
                                    refine sg_iald hx hb hK hw 5 0 rfl rfl d_B_rerun_318 hm (fun hm => ?_)
                                    refine sg_iast (S1 := fun f13 => [[(q_p0_priorities, .inl (cI, 27, .inl f_p0_priorities))], [(q_p0_starts, .inl (cI, 27, .inl f_p0_starts))], [(q_p0_many, .inl (cI, 27, .inl f_p0_many))], [(q_p0_needs, .inl (cI, 540, .inl f_p0_needs))], [(q_p0_conditions, .inl (cI, 540, .inl f_p0_conditions))], [(q_p0_states, .inl (cI, 27, .inl f13))], [(q_p0_ran, .inl (cL, 27, .inr (.inl f_p0_ran)))], [(q_p0_startedJob, .inl (cI, 20000, .inl f_p0_startedJob))], [(q_p0_startedAt, .inl (cL, 20000, .inr (.inl f_p0_startedAt)))], [(q_p0_again, .inl (cZ, 27, .inl f5))], [(q_p0, .inr (9, [.int (0 : Int32), .ref q_p0_text, .int v_p0_length, .int v_p0_jobs, .int v_p0_newJobs, .ref q_p0_names, .ref q_p0_calendars, .ref q_p0_priorities, .ref q_p0_starts, .ref q_p0_estimates, .ref q_p0_many, .ref q_p0_newNames, .ref q_p0_numbers, .ref q_p0_newMany, .ref q_p0_needs, .ref q_p0_conditions, .ref q_p0_newNeeds, .ref q_p0_newConditions, .ref q_p0_needPlaces, .ref q_p0_rules, .ref q_p0_of, .int v_p0_made, .ref q_p0_holidays, .int v_p0_days, .ref q_p0_states, .ref q_p0_ran, .ref q_p0_sums, .ref q_p0_kept, .long v_p0_now, .ref q_p0_startedJob, .ref q_p0_startedAt, .int v_p0_started, .ref q_p0_ring, .ref q_p0_came, .ref q_p0_level, .int v_p0_ringSize, .ref q_p0_again, .ref q_p0_way, .ref q_p0_before, .ref q_p0_path, .int v_p0_place]))]]) hx hb hK hw 5 0 rfl rfl d_B_rerun_319 (fun _ => rfl) hm (fun f13 H locs hm hw => ?_)
                                    refine lv_iinc (v := x9 + 1) (lv' := [(5, .int (x9 + 1)), (4, .int x7), (0, .ref q_p0)]) hx hb d_B_rerun_320 hl (k := 0) rfl rfl (by decide) rfl (fun ls hl => ?_)
                                    refine lv_goto (tgt := 272) hx hb d_B_rerun_323 (by decide) ?_
                                    exact ih272 (x9 + 1) f13 hm _ _ _ hw hl
                                  · refine lv_iconst (v := 1) hx hb d_B_rerun_308 (by decide) ?_
                                    refine lv_goto (tgt := 319) hx hb d_B_rerun_309 (by decide) ?_
                                    refine sg_iast (S1 := fun f14 => [[(q_p0_priorities, .inl (cI, 27, .inl f_p0_priorities))], [(q_p0_starts, .inl (cI, 27, .inl f_p0_starts))], [(q_p0_many, .inl (cI, 27, .inl f_p0_many))], [(q_p0_needs, .inl (cI, 540, .inl f_p0_needs))], [(q_p0_conditions, .inl (cI, 540, .inl f_p0_conditions))], [(q_p0_states, .inl (cI, 27, .inl f14))], [(q_p0_ran, .inl (cL, 27, .inr (.inl f_p0_ran)))], [(q_p0_startedJob, .inl (cI, 20000, .inl f_p0_startedJob))], [(q_p0_startedAt, .inl (cL, 20000, .inr (.inl f_p0_startedAt)))], [(q_p0_again, .inl (cZ, 27, .inl f5))], [(q_p0, .inr (9, [.int (0 : Int32), .ref q_p0_text, .int v_p0_length, .int v_p0_jobs, .int v_p0_newJobs, .ref q_p0_names, .ref q_p0_calendars, .ref q_p0_priorities, .ref q_p0_starts, .ref q_p0_estimates, .ref q_p0_many, .ref q_p0_newNames, .ref q_p0_numbers, .ref q_p0_newMany, .ref q_p0_needs, .ref q_p0_conditions, .ref q_p0_newNeeds, .ref q_p0_newConditions, .ref q_p0_needPlaces, .ref q_p0_rules, .ref q_p0_of, .int v_p0_made, .ref q_p0_holidays, .int v_p0_days, .ref q_p0_states, .ref q_p0_ran, .ref q_p0_sums, .ref q_p0_kept, .long v_p0_now, .ref q_p0_startedJob, .ref q_p0_startedAt, .int v_p0_started, .ref q_p0_ring, .ref q_p0_came, .ref q_p0_level, .int v_p0_ringSize, .ref q_p0_again, .ref q_p0_way, .ref q_p0_before, .ref q_p0_path, .int v_p0_place]))]]) hx hb hK hw 5 0 rfl rfl d_B_rerun_319 (fun _ => rfl) hm (fun f14 H locs hm hw => ?_)
                                    refine lv_iinc (v := x9 + 1) (lv' := [(5, .int (x9 + 1)), (4, .int x7), (0, .ref q_p0)]) hx hb d_B_rerun_320 hl (k := 0) rfl rfl (by decide) rfl (fun ls hl => ?_)
                                    refine lv_goto (tgt := 272) hx hb d_B_rerun_323 (by decide) ?_
                                    exact ih272 (x9 + 1) f14 hm _ _ _ hw hl
                          exact L272 _ _ _ hm _ _ _ hw (lv_sub hl [0, 1, 3] rfl)
                        · refine lv_iconst (v := 0) hx hb d_B_rerun_267 (by decide) ?_
                          exact so_iret (rf := fun z_ => z_.1) (Sf := fun z_ => sc_B_rerun cI cL cM cZ q_p0 q_p0_text q_p0_names q_p0_calendars q_p0_priorities q_p0_starts q_p0_estimates q_p0_many q_p0_newNames q_p0_numbers q_p0_newMany q_p0_needs q_p0_conditions q_p0_newNeeds q_p0_newConditions q_p0_needPlaces q_p0_rules q_p0_of q_p0_holidays q_p0_states q_p0_ran q_p0_sums q_p0_kept q_p0_startedJob q_p0_startedAt q_p0_ring q_p0_came q_p0_level q_p0_again q_p0_way q_p0_before q_p0_path z_.2.1 v_p0_length v_p0_jobs v_p0_newJobs v_p0_made v_p0_days v_p0_now z_.2.2.1 v_p0_ringSize v_p0_place f_p0_priorities f_p0_starts f_p0_many f_p0_needs f_p0_conditions z_.2.2.2.1 z_.2.2.2.2.1 z_.2.2.2.2.2.1 z_.2.2.2.2.2.2.1 z_.2.2.2.2.2.2.2) hm hx hb hr hlocks hAe hQ hK (hw.sub [10, 0, 1, 2, 3, 4, 5, 6, 7, 8, 9] (by decide) rfl) rfl d_B_rerun_268
                      · refine lv_iload_n hx hb d_B_rerun_184 rfl (lv_at hl 2 rfl) ?_
                        obtain ⟨k214, hk214, hm⟩ := zl_x hm
                        have J214 : ∀ (x15 : Int32) , k214 x15 = some o → ∀ (H : Heap) (locs : List Loc) (ls : Array Slot), wk (dC, dI) vwCl A s.heap [[(q_p0_priorities, .inl (cI, 27, .inl f_p0_priorities))], [(q_p0_starts, .inl (cI, 27, .inl f_p0_starts))], [(q_p0_many, .inl (cI, 27, .inl f_p0_many))], [(q_p0_needs, .inl (cI, 540, .inl f_p0_needs))], [(q_p0_conditions, .inl (cI, 540, .inl f_p0_conditions))], [(q_p0_states, .inl (cI, 27, .inl f_p0_states))], [(q_p0_ran, .inl (cL, 27, .inr (.inl f_p0_ran)))], [(q_p0_startedJob, .inl (cI, 20000, .inl f_p0_startedJob))], [(q_p0_startedAt, .inl (cL, 20000, .inr (.inl f_p0_startedAt)))], [(q_p0_again, .inl (cZ, 27, .inl f5))], [(q_p0, .inr (9, [.int (0 : Int32), .ref q_p0_text, .int v_p0_length, .int v_p0_jobs, .int v_p0_newJobs, .ref q_p0_names, .ref q_p0_calendars, .ref q_p0_priorities, .ref q_p0_starts, .ref q_p0_estimates, .ref q_p0_many, .ref q_p0_newNames, .ref q_p0_numbers, .ref q_p0_newMany, .ref q_p0_needs, .ref q_p0_conditions, .ref q_p0_newNeeds, .ref q_p0_newConditions, .ref q_p0_needPlaces, .ref q_p0_rules, .ref q_p0_of, .int v_p0_made, .ref q_p0_holidays, .int v_p0_days, .ref q_p0_states, .ref q_p0_ran, .ref q_p0_sums, .ref q_p0_kept, .long v_p0_now, .ref q_p0_startedJob, .ref q_p0_startedAt, .int v_p0_started, .ref q_p0_ring, .ref q_p0_came, .ref q_p0_level, .int v_p0_ringSize, .ref q_p0_again, .ref q_p0_way, .ref q_p0_before, .ref q_p0_path, .int v_p0_place]))]] H locs → lv_has ls 6 [(5, .int x6), (4, .int x7), (0, .ref q_p0)] → W p l e rm_B_rerun s m args below meth c H locs 0 0 Q (F0 m 214 ls [.int x15]) := by
                          intro x15 hm H locs ls hw hl
                          subst hk214
                          refine lv_istore_n (lv' := [(3, .int x15), (5, .int x6), (4, .int x7), (0, .ref q_p0)]) hx hb d_B_rerun_214 rfl hl (by decide) rfl (fun ls hl => ?_)
                          refine lv_iload hx hb d_B_rerun_215 (lv_at hl 2 rfl) ?_
                          refine lv_aload_n hx hb d_B_rerun_217 rfl (lv_at hl 3 rfl) ?_
                          refine sg_get (D := (dC, dI)) (ci := 9) (v := .ref q_p0_again) (C := "JobNetsModel") (T := T_9) (N := 41) hx hb hts hin_9 hown hK hw 10 rfl rfl 36 (by decide) (hts _ wd_652) rfl rfl d_B_rerun_218 ?_
                          refine lv_iload hx hb d_B_rerun_221 (lv_at hl 1 rfl) ?_
                          refine sg_zald hx hb hK hw 9 3 rfl rfl d_B_rerun_223 hm (fun hm => ?_)
                          refine bq_t (lv_if_eq (tgt := 253) hx hb d_B_rerun_224 (by decide)) hm (fun hm => ?_) (fun hm => ?_)
                          · refine lv_iconst (v := 0) hx hb d_B_rerun_253 (by decide) ?_
                            refine lv_iadd hx hb d_B_rerun_254 ?_
                            refine lv_istore (lv' := [(4, .int (x7 + (0 : Int32))), (3, .int x15), (5, .int x6), (0, .ref q_p0)]) hx hb d_B_rerun_255 hl (by decide) rfl (fun ls hl => ?_)
                            refine lv_iinc (v := x6 + 1) (lv' := [(5, .int (x6 + 1)), (4, .int (x7 + (0 : Int32))), (3, .int x15), (0, .ref q_p0)]) hx hb d_B_rerun_257 hl (k := 2) rfl rfl (by decide) rfl (fun ls hl => ?_)
                            refine lv_goto (tgt := 175) hx hb d_B_rerun_260 (by decide) ?_
                            exact ih175 (x6 + 1) (x7 + (0 : Int32)) x15 hm _ _ _ hw hl
                          · refine lv_aload_n hx hb d_B_rerun_227 rfl (lv_at hl 3 rfl) ?_
                            refine sg_get (D := (dC, dI)) (ci := 9) (v := .ref q_p0_states) (C := "JobNetsModel") (T := T_9) (N := 41) hx hb hts hin_9 hown hK hw 10 rfl rfl 24 (by decide) (hts _ wd_640) rfl rfl d_B_rerun_228 ?_
                            refine lv_iload hx hb d_B_rerun_231 (lv_at hl 1 rfl) ?_
                            refine sg_iald hx hb hK hw 5 0 rfl rfl d_B_rerun_233 hm (fun hm => ?_)
                            refine lv_iconst (v := 3) hx hb d_B_rerun_234 (by decide) ?_
                            refine bq_t (lv_icmp_eq (tgt := 249) hx hb d_B_rerun_235 (by decide)) hm (fun hm => ?_) (fun hm => ?_)
                            · refine lv_iconst (v := 1) hx hb d_B_rerun_249 (by decide) ?_
                              refine lv_goto (tgt := 254) hx hb d_B_rerun_250 (by decide) ?_
                              refine lv_iadd hx hb d_B_rerun_254 ?_
                              refine lv_istore (lv' := [(4, .int (x7 + (1 : Int32))), (3, .int x15), (5, .int x6), (0, .ref q_p0)]) hx hb d_B_rerun_255 hl (by decide) rfl (fun ls hl => ?_)
                              refine lv_iinc (v := x6 + 1) (lv' := [(5, .int (x6 + 1)), (4, .int (x7 + (1 : Int32))), (3, .int x15), (0, .ref q_p0)]) hx hb d_B_rerun_257 hl (k := 2) rfl rfl (by decide) rfl (fun ls hl => ?_)
                              refine lv_goto (tgt := 175) hx hb d_B_rerun_260 (by decide) ?_
                              exact ih175 (x6 + 1) (x7 + (1 : Int32)) x15 hm _ _ _ hw hl
                            · refine lv_aload_n hx hb d_B_rerun_238 rfl (lv_at hl 3 rfl) ?_
                              refine sg_get (D := (dC, dI)) (ci := 9) (v := .ref q_p0_states) (C := "JobNetsModel") (T := T_9) (N := 41) hx hb hts hin_9 hown hK hw 10 rfl rfl 24 (by decide) (hts _ wd_640) rfl rfl d_B_rerun_239 ?_
                              refine lv_iload hx hb d_B_rerun_242 (lv_at hl 1 rfl) ?_
                              refine sg_iald hx hb hK hw 5 0 rfl rfl d_B_rerun_244 hm (fun hm => ?_)
                              refine lv_iconst (v := 4) hx hb d_B_rerun_245 (by decide) ?_
                              refine bq_n (lv_icmp_ne (tgt := 253) hx hb d_B_rerun_246 (by decide)) hm (fun hm => ?_) (fun hm => ?_)
                              · refine lv_iconst (v := 0) hx hb d_B_rerun_253 (by decide) ?_
                                refine lv_iadd hx hb d_B_rerun_254 ?_
                                refine lv_istore (lv' := [(4, .int (x7 + (0 : Int32))), (3, .int x15), (5, .int x6), (0, .ref q_p0)]) hx hb d_B_rerun_255 hl (by decide) rfl (fun ls hl => ?_)
                                refine lv_iinc (v := x6 + 1) (lv' := [(5, .int (x6 + 1)), (4, .int (x7 + (0 : Int32))), (3, .int x15), (0, .ref q_p0)]) hx hb d_B_rerun_257 hl (k := 2) rfl rfl (by decide) rfl (fun ls hl => ?_)
                                refine lv_goto (tgt := 175) hx hb d_B_rerun_260 (by decide) ?_
                                exact ih175 (x6 + 1) (x7 + (0 : Int32)) x15 hm _ _ _ hw hl
                              · refine lv_iconst (v := 1) hx hb d_B_rerun_249 (by decide) ?_
                                refine lv_goto (tgt := 254) hx hb d_B_rerun_250 (by decide) ?_
                                refine lv_iadd hx hb d_B_rerun_254 ?_
                                refine lv_istore (lv' := [(4, .int (x7 + (1 : Int32))), (3, .int x15), (5, .int x6), (0, .ref q_p0)]) hx hb d_B_rerun_255 hl (by decide) rfl (fun ls hl => ?_)
                                refine lv_iinc (v := x6 + 1) (lv' := [(5, .int (x6 + 1)), (4, .int (x7 + (1 : Int32))), (3, .int x15), (0, .ref q_p0)]) hx hb d_B_rerun_257 hl (k := 2) rfl rfl (by decide) rfl (fun ls hl => ?_)
                                refine lv_goto (tgt := 175) hx hb d_B_rerun_260 (by decide) ?_
                                exact ih175 (x6 + 1) (x7 + (1 : Int32)) x15 hm _ _ _ hw hl
                        obtain ⟨k209, hk209, hm⟩ := zl_x hm
                        have J209 : k209 = some o → ∀ (H : Heap) (locs : List Loc) (ls : Array Slot), wk (dC, dI) vwCl A s.heap [[(q_p0_priorities, .inl (cI, 27, .inl f_p0_priorities))], [(q_p0_starts, .inl (cI, 27, .inl f_p0_starts))], [(q_p0_many, .inl (cI, 27, .inl f_p0_many))], [(q_p0_needs, .inl (cI, 540, .inl f_p0_needs))], [(q_p0_conditions, .inl (cI, 540, .inl f_p0_conditions))], [(q_p0_states, .inl (cI, 27, .inl f_p0_states))], [(q_p0_ran, .inl (cL, 27, .inr (.inl f_p0_ran)))], [(q_p0_startedJob, .inl (cI, 20000, .inl f_p0_startedJob))], [(q_p0_startedAt, .inl (cL, 20000, .inr (.inl f_p0_startedAt)))], [(q_p0_again, .inl (cZ, 27, .inl f5))], [(q_p0, .inr (9, [.int (0 : Int32), .ref q_p0_text, .int v_p0_length, .int v_p0_jobs, .int v_p0_newJobs, .ref q_p0_names, .ref q_p0_calendars, .ref q_p0_priorities, .ref q_p0_starts, .ref q_p0_estimates, .ref q_p0_many, .ref q_p0_newNames, .ref q_p0_numbers, .ref q_p0_newMany, .ref q_p0_needs, .ref q_p0_conditions, .ref q_p0_newNeeds, .ref q_p0_newConditions, .ref q_p0_needPlaces, .ref q_p0_rules, .ref q_p0_of, .int v_p0_made, .ref q_p0_holidays, .int v_p0_days, .ref q_p0_states, .ref q_p0_ran, .ref q_p0_sums, .ref q_p0_kept, .long v_p0_now, .ref q_p0_startedJob, .ref q_p0_startedAt, .int v_p0_started, .ref q_p0_ring, .ref q_p0_came, .ref q_p0_level, .int v_p0_ringSize, .ref q_p0_again, .ref q_p0_way, .ref q_p0_before, .ref q_p0_path, .int v_p0_place]))]] H locs → lv_has ls 6 [(5, .int x6), (4, .int x7), (0, .ref q_p0)] → W p l e rm_B_rerun s m args below meth c H locs 0 0 Q (F0 m 209 ls []) := by
                          intro hm H locs ls hw hl
                          subst hk209
                          refine lv_iconst (v := 1) hx hb d_B_rerun_209 (by decide) ?_
                          refine lv_goto (tgt := 214) hx hb d_B_rerun_210 (by decide) ?_
                          exact J214 (1 : Int32) hm _ _ _ hw hl
                        refine bq_n (lv_if_ne (tgt := 209) hx hb d_B_rerun_185 (by decide)) hm (fun hm => ?_) (fun hm => ?_)
                        · exact J209  hm _ _ _ hw (lv_sub hl [0, 1, 3] rfl)
                        · refine lv_aload_n hx hb d_B_rerun_188 rfl (lv_at hl 3 rfl) ?_
                          refine sg_get (D := (dC, dI)) (ci := 9) (v := .ref q_p0_again) (C := "JobNetsModel") (T := T_9) (N := 41) hx hb hts hin_9 hown hK hw 10 rfl rfl 36 (by decide) (hts _ wd_652) rfl rfl d_B_rerun_189 ?_
                          refine lv_iload hx hb d_B_rerun_192 (lv_at hl 0 rfl) ?_
                          refine sg_zald hx hb hK hw 9 3 rfl rfl d_B_rerun_194 hm (fun hm => ?_)
                          obtain ⟨k213, hk213, hm⟩ := zl_x hm
                          have J213 : k213 = some o → ∀ (H : Heap) (locs : List Loc) (ls : Array Slot), wk (dC, dI) vwCl A s.heap [[(q_p0_priorities, .inl (cI, 27, .inl f_p0_priorities))], [(q_p0_starts, .inl (cI, 27, .inl f_p0_starts))], [(q_p0_many, .inl (cI, 27, .inl f_p0_many))], [(q_p0_needs, .inl (cI, 540, .inl f_p0_needs))], [(q_p0_conditions, .inl (cI, 540, .inl f_p0_conditions))], [(q_p0_states, .inl (cI, 27, .inl f_p0_states))], [(q_p0_ran, .inl (cL, 27, .inr (.inl f_p0_ran)))], [(q_p0_startedJob, .inl (cI, 20000, .inl f_p0_startedJob))], [(q_p0_startedAt, .inl (cL, 20000, .inr (.inl f_p0_startedAt)))], [(q_p0_again, .inl (cZ, 27, .inl f5))], [(q_p0, .inr (9, [.int (0 : Int32), .ref q_p0_text, .int v_p0_length, .int v_p0_jobs, .int v_p0_newJobs, .ref q_p0_names, .ref q_p0_calendars, .ref q_p0_priorities, .ref q_p0_starts, .ref q_p0_estimates, .ref q_p0_many, .ref q_p0_newNames, .ref q_p0_numbers, .ref q_p0_newMany, .ref q_p0_needs, .ref q_p0_conditions, .ref q_p0_newNeeds, .ref q_p0_newConditions, .ref q_p0_needPlaces, .ref q_p0_rules, .ref q_p0_of, .int v_p0_made, .ref q_p0_holidays, .int v_p0_days, .ref q_p0_states, .ref q_p0_ran, .ref q_p0_sums, .ref q_p0_kept, .long v_p0_now, .ref q_p0_startedJob, .ref q_p0_startedAt, .int v_p0_started, .ref q_p0_ring, .ref q_p0_came, .ref q_p0_level, .int v_p0_ringSize, .ref q_p0_again, .ref q_p0_way, .ref q_p0_before, .ref q_p0_path, .int v_p0_place]))]] H locs → lv_has ls 6 [(5, .int x6), (4, .int x7), (0, .ref q_p0)] → W p l e rm_B_rerun s m args below meth c H locs 0 0 Q (F0 m 213 ls []) := by
                            intro hm H locs ls hw hl
                            subst hk213
                            refine lv_iconst (v := 0) hx hb d_B_rerun_213 (by decide) ?_
                            exact J214 (0 : Int32) hm _ _ _ hw hl
                          refine bq_t (lv_if_eq (tgt := 213) hx hb d_B_rerun_195 (by decide)) hm (fun hm => ?_) (fun hm => ?_)
                          · exact J213  hm _ _ _ hw (lv_sub hl [0, 1, 3] rfl)
                          · refine lv_aload_n hx hb d_B_rerun_198 rfl (lv_at hl 3 rfl) ?_
                            refine sg_get (D := (dC, dI)) (ci := 9) (v := .ref q_p0_states) (C := "JobNetsModel") (T := T_9) (N := 41) hx hb hts hin_9 hown hK hw 10 rfl rfl 24 (by decide) (hts _ wd_640) rfl rfl d_B_rerun_199 ?_
                            refine lv_iload hx hb d_B_rerun_202 (lv_at hl 0 rfl) ?_
                            refine sg_iald hx hb hK hw 5 0 rfl rfl d_B_rerun_204 hm (fun hm => ?_)
                            refine lv_iconst (v := 2) hx hb d_B_rerun_205 (by decide) ?_
                            refine bq_n (lv_icmp_ne (tgt := 213) hx hb d_B_rerun_206 (by decide)) hm (fun hm => ?_) (fun hm => ?_)
                            · exact J213  hm _ _ _ hw (lv_sub hl [0, 1, 3] rfl)
                            · exact J209  hm _ _ _ hw (lv_sub hl [0, 1, 3] rfl)
                  exact L175 _ _ _ _ hm _ _ _ hw (lv_sub hl [0, 1, 2, 4] rfl)
                · refine lv_iconst (v := 0) hx hb d_B_rerun_73 (by decide) ?_
                  refine lv_istore_n (lv' := [(2, .int (0 : Int32)), (0, .ref q_p0)]) hx hb d_B_rerun_74 rfl hl (by decide) rfl (fun ls hl => ?_)
                  refine lv_iconst (v := 1) hx hb d_B_rerun_75 (by decide) ?_
                  refine lv_istore_n (lv' := [(3, .int (1 : Int32)), (2, .int (0 : Int32)), (0, .ref q_p0)]) hx hb d_B_rerun_76 rfl hl (by decide) rfl (fun ls hl => ?_)
                  obtain ⟨Fn77, hFn77, hm⟩ := fx3_x hm
                  have L77 : ∀ (n : Nat) (x16 : Int32) (x17 : Int32) (f18 : Nat → Int32), fx3 Fn77 n x16 x17 f18 = some o → ∀ (H : Heap) (locs : List Loc) (ls : Array Slot), wk (dC, dI) vwCl A s.heap [[(q_p0_priorities, .inl (cI, 27, .inl f_p0_priorities))], [(q_p0_starts, .inl (cI, 27, .inl f_p0_starts))], [(q_p0_many, .inl (cI, 27, .inl f_p0_many))], [(q_p0_needs, .inl (cI, 540, .inl f_p0_needs))], [(q_p0_conditions, .inl (cI, 540, .inl f_p0_conditions))], [(q_p0_states, .inl (cI, 27, .inl f_p0_states))], [(q_p0_ran, .inl (cL, 27, .inr (.inl f_p0_ran)))], [(q_p0_startedJob, .inl (cI, 20000, .inl f_p0_startedJob))], [(q_p0_startedAt, .inl (cL, 20000, .inr (.inl f_p0_startedAt)))], [(q_p0_again, .inl (cZ, 27, .inl f18))], [(q_p0, .inr (9, [.int (0 : Int32), .ref q_p0_text, .int v_p0_length, .int v_p0_jobs, .int v_p0_newJobs, .ref q_p0_names, .ref q_p0_calendars, .ref q_p0_priorities, .ref q_p0_starts, .ref q_p0_estimates, .ref q_p0_many, .ref q_p0_newNames, .ref q_p0_numbers, .ref q_p0_newMany, .ref q_p0_needs, .ref q_p0_conditions, .ref q_p0_newNeeds, .ref q_p0_newConditions, .ref q_p0_needPlaces, .ref q_p0_rules, .ref q_p0_of, .int v_p0_made, .ref q_p0_holidays, .int v_p0_days, .ref q_p0_states, .ref q_p0_ran, .ref q_p0_sums, .ref q_p0_kept, .long v_p0_now, .ref q_p0_startedJob, .ref q_p0_startedAt, .int v_p0_started, .ref q_p0_ring, .ref q_p0_came, .ref q_p0_level, .int v_p0_ringSize, .ref q_p0_again, .ref q_p0_way, .ref q_p0_before, .ref q_p0_path, .int v_p0_place]))]] H locs → lv_has ls 6 [(3, .int x16), (2, .int x17), (0, .ref q_p0)] → W p l e rm_B_rerun s m args below meth c H locs 0 0 Q (F0 m 77 ls []) := by
                    intro n
                    induction n with
                    | zero => intro x16 x17 f18 hm; exact (fx3_0 hm).elim
                    | succ n ih77 =>
                      intro x16 x17 f18 hm H locs ls hw hl
                      have hm := fx3_s hFn77 hm
                      unfold md_B_rerun_F77 at hm
                      refine lv_iload_n hx hb d_B_rerun_77 rfl (lv_at hl 0 rfl) ?_
                      refine lv_aload_n hx hb d_B_rerun_78 rfl (lv_at hl 2 rfl) ?_
                      refine sg_get (D := (dC, dI)) (ci := 9) (v := .int v_p0_jobs) (C := "JobNetsModel") (T := T_9) (N := 41) hx hb hts hin_9 hown hK hw 10 rfl rfl 3 (by decide) (hts _ wd_619) rfl rfl d_B_rerun_79 ?_
                      refine bq_t (lv_icmp_gt (tgt := 164) hx hb d_B_rerun_82 (by decide)) hm (fun hm => ?_) (fun hm => ?_)
                      · refine lv_goto (tgt := 69) hx hb d_B_rerun_164 (by decide) ?_
                        exact ih69 x17 f18 hm _ _ _ hw (lv_sub hl [1, 2] rfl)
                      · refine lv_iconst (v := 0) hx hb d_B_rerun_85 (by decide) ?_
                        refine lv_istore (lv' := [(4, .int (0 : Int32)), (3, .int x16), (2, .int x17), (0, .ref q_p0)]) hx hb d_B_rerun_86 hl (by decide) rfl (fun ls hl => ?_)
                        obtain ⟨Fn88, hFn88, hm⟩ := fx3_x hm
                        have L88 : ∀ (n : Nat) (x19 : Int32) (x20 : Int32) (f21 : Nat → Int32), fx3 Fn88 n x19 x20 f21 = some o → ∀ (H : Heap) (locs : List Loc) (ls : Array Slot), wk (dC, dI) vwCl A s.heap [[(q_p0_priorities, .inl (cI, 27, .inl f_p0_priorities))], [(q_p0_starts, .inl (cI, 27, .inl f_p0_starts))], [(q_p0_many, .inl (cI, 27, .inl f_p0_many))], [(q_p0_needs, .inl (cI, 540, .inl f_p0_needs))], [(q_p0_conditions, .inl (cI, 540, .inl f_p0_conditions))], [(q_p0_states, .inl (cI, 27, .inl f_p0_states))], [(q_p0_ran, .inl (cL, 27, .inr (.inl f_p0_ran)))], [(q_p0_startedJob, .inl (cI, 20000, .inl f_p0_startedJob))], [(q_p0_startedAt, .inl (cL, 20000, .inr (.inl f_p0_startedAt)))], [(q_p0_again, .inl (cZ, 27, .inl f21))], [(q_p0, .inr (9, [.int (0 : Int32), .ref q_p0_text, .int v_p0_length, .int v_p0_jobs, .int v_p0_newJobs, .ref q_p0_names, .ref q_p0_calendars, .ref q_p0_priorities, .ref q_p0_starts, .ref q_p0_estimates, .ref q_p0_many, .ref q_p0_newNames, .ref q_p0_numbers, .ref q_p0_newMany, .ref q_p0_needs, .ref q_p0_conditions, .ref q_p0_newNeeds, .ref q_p0_newConditions, .ref q_p0_needPlaces, .ref q_p0_rules, .ref q_p0_of, .int v_p0_made, .ref q_p0_holidays, .int v_p0_days, .ref q_p0_states, .ref q_p0_ran, .ref q_p0_sums, .ref q_p0_kept, .long v_p0_now, .ref q_p0_startedJob, .ref q_p0_startedAt, .int v_p0_started, .ref q_p0_ring, .ref q_p0_came, .ref q_p0_level, .int v_p0_ringSize, .ref q_p0_again, .ref q_p0_way, .ref q_p0_before, .ref q_p0_path, .int v_p0_place]))]] H locs → lv_has ls 6 [(4, .int x19), (3, .int x16), (2, .int x20), (0, .ref q_p0)] → W p l e rm_B_rerun s m args below meth c H locs 0 0 Q (F0 m 88 ls []) := by
                          intro n
                          induction n with
                          | zero => intro x19 x20 f21 hm; exact (fx3_0 hm).elim
                          | succ n ih88 =>
                            intro x19 x20 f21 hm H locs ls hw hl
                            have hm := fx3_s hFn88 hm
                            unfold md_B_rerun_F88 at hm
                            refine lv_iload hx hb d_B_rerun_88 (lv_at hl 0 rfl) ?_
                            refine lv_aload_n hx hb d_B_rerun_90 rfl (lv_at hl 3 rfl) ?_
                            refine sg_get (D := (dC, dI)) (ci := 9) (v := .ref q_p0_many) (C := "JobNetsModel") (T := T_9) (N := 41) hx hb hts hin_9 hown hK hw 10 rfl rfl 10 (by decide) (hts _ wd_626) rfl rfl d_B_rerun_91 ?_
                            refine lv_iload_n hx hb d_B_rerun_94 rfl (lv_at hl 1 rfl) ?_
                            refine sg_iald hx hb hK hw 2 0 rfl rfl d_B_rerun_95 hm (fun hm => ?_)
                            refine bq_t (lv_icmp_ge (tgt := 158) hx hb d_B_rerun_96 (by decide)) hm (fun hm => ?_) (fun hm => ?_)
                            · refine lv_iinc (v := x16 + 1) (lv' := [(3, .int (x16 + 1)), (4, .int x19), (2, .int x20), (0, .ref q_p0)]) hx hb d_B_rerun_158 hl (k := 1) rfl rfl (by decide) rfl (fun ls hl => ?_)
                              refine lv_goto (tgt := 77) hx hb d_B_rerun_161 (by decide) ?_
                              exact ih77 (x16 + 1) x20 f21 hm _ _ _ hw (lv_sub hl [0, 2, 3] rfl)
                            · refine lv_aload_n hx hb d_B_rerun_99 rfl (lv_at hl 3 rfl) ?_
                              refine sg_get (D := (dC, dI)) (ci := 9) (v := .ref q_p0_again) (C := "JobNetsModel") (T := T_9) (N := 41) hx hb hts hin_9 hown hK hw 10 rfl rfl 36 (by decide) (hts _ wd_652) rfl rfl d_B_rerun_100 ?_
                              refine lv_iload_n hx hb d_B_rerun_103 rfl (lv_at hl 1 rfl) ?_
                              refine sg_zald hx hb hK hw 9 3 rfl rfl d_B_rerun_104 hm (fun hm => ?_)
                              refine bq_n (lv_if_ne (tgt := 158) hx hb d_B_rerun_105 (by decide)) hm (fun hm => ?_) (fun hm => ?_)
                              · refine lv_iinc (v := x16 + 1) (lv' := [(3, .int (x16 + 1)), (4, .int x19), (2, .int x20), (0, .ref q_p0)]) hx hb d_B_rerun_158 hl (k := 1) rfl rfl (by decide) rfl (fun ls hl => ?_)
                                refine lv_goto (tgt := 77) hx hb d_B_rerun_161 (by decide) ?_
                                exact ih77 (x16 + 1) x20 f21 hm _ _ _ hw (lv_sub hl [0, 2, 3] rfl)
                              · refine lv_aload_n hx hb d_B_rerun_108 rfl (lv_at hl 3 rfl) ?_
                                refine sg_get (D := (dC, dI)) (ci := 9) (v := .ref q_p0_again) (C := "JobNetsModel") (T := T_9) (N := 41) hx hb hts hin_9 hown hK hw 10 rfl rfl 36 (by decide) (hts _ wd_652) rfl rfl d_B_rerun_109 ?_
                                refine lv_iload_n hx hb d_B_rerun_112 rfl (lv_at hl 1 rfl) ?_
                                refine lv_aload_n hx hb d_B_rerun_113 rfl (lv_at hl 3 rfl) ?_
                                refine sg_get (D := (dC, dI)) (ci := 9) (v := .ref q_p0_again) (C := "JobNetsModel") (T := T_9) (N := 41) hx hb hts hin_9 hown hK hw 10 rfl rfl 36 (by decide) (hts _ wd_652) rfl rfl d_B_rerun_114 ?_
                                refine lv_aload_n hx hb d_B_rerun_117 rfl (lv_at hl 3 rfl) ?_
                                refine sg_get (D := (dC, dI)) (ci := 9) (v := .ref q_p0_needs) (C := "JobNetsModel") (T := T_9) (N := 41) hx hb hts hin_9 hown hK hw 10 rfl rfl 14 (by decide) (hts _ wd_630) rfl rfl d_B_rerun_118 ?_
                                refine lv_bipush (v := 20) hx hb d_B_rerun_121 (by decide) ?_
                                refine lv_iload_n hx hb d_B_rerun_123 rfl (lv_at hl 1 rfl) ?_
                                refine lv_iconst (v := 1) hx hb d_B_rerun_124 (by decide) ?_
                                refine lv_isub hx hb d_B_rerun_125 ?_
                                refine lv_imul hx hb d_B_rerun_126 ?_
                                refine lv_iload hx hb d_B_rerun_127 (lv_at hl 0 rfl) ?_
                                refine lv_iadd hx hb d_B_rerun_129 ?_
                                refine sg_iald hx hb hK hw 3 0 rfl rfl d_B_rerun_130 hm (fun hm => ?_)
                                refine sg_zald hx hb hK hw 9 3 rfl rfl d_B_rerun_131 hm (fun hm => ?_)
                                refine sg_zast (S1 := fun f22 => [[(q_p0_priorities, .inl (cI, 27, .inl f_p0_priorities))], [(q_p0_starts, .inl (cI, 27, .inl f_p0_starts))], [(q_p0_many, .inl (cI, 27, .inl f_p0_many))], [(q_p0_needs, .inl (cI, 540, .inl f_p0_needs))], [(q_p0_conditions, .inl (cI, 540, .inl f_p0_conditions))], [(q_p0_states, .inl (cI, 27, .inl f_p0_states))], [(q_p0_ran, .inl (cL, 27, .inr (.inl f_p0_ran)))], [(q_p0_startedJob, .inl (cI, 20000, .inl f_p0_startedJob))], [(q_p0_startedAt, .inl (cL, 20000, .inr (.inl f_p0_startedAt)))], [(q_p0_again, .inl (cZ, 27, .inl f22))], [(q_p0, .inr (9, [.int (0 : Int32), .ref q_p0_text, .int v_p0_length, .int v_p0_jobs, .int v_p0_newJobs, .ref q_p0_names, .ref q_p0_calendars, .ref q_p0_priorities, .ref q_p0_starts, .ref q_p0_estimates, .ref q_p0_many, .ref q_p0_newNames, .ref q_p0_numbers, .ref q_p0_newMany, .ref q_p0_needs, .ref q_p0_conditions, .ref q_p0_newNeeds, .ref q_p0_newConditions, .ref q_p0_needPlaces, .ref q_p0_rules, .ref q_p0_of, .int v_p0_made, .ref q_p0_holidays, .int v_p0_days, .ref q_p0_states, .ref q_p0_ran, .ref q_p0_sums, .ref q_p0_kept, .long v_p0_now, .ref q_p0_startedJob, .ref q_p0_startedAt, .int v_p0_started, .ref q_p0_ring, .ref q_p0_came, .ref q_p0_level, .int v_p0_ringSize, .ref q_p0_again, .ref q_p0_way, .ref q_p0_before, .ref q_p0_path, .int v_p0_place]))]]) hx hb hK hw 9 3 rfl rfl d_B_rerun_132 (fun _ => rfl) hm (fun f22 H locs hm hw => ?_)
                                refine lv_iload_n hx hb d_B_rerun_133 rfl (lv_at hl 2 rfl) ?_
                                refine bq_n (lv_if_ne (tgt := 146) hx hb d_B_rerun_134 (by decide)) hm (fun hm => ?_) (fun hm => ?_)
                                · refine lv_iconst (v := 1) hx hb d_B_rerun_146 (by decide) ?_
                                  refine lv_goto (tgt := 151) hx hb d_B_rerun_147 (by decide) ?_
                                  refine lv_istore_n (lv' := [(2, .int (1 : Int32)), (4, .int x19), (3, .int x16), (0, .ref q_p0)]) hx hb d_B_rerun_151 rfl hl (by decide) rfl (fun ls hl => ?_)
                                  refine lv_iinc (v := x19 + 1) (lv' := [(4, .int (x19 + 1)), (2, .int (1 : Int32)), (3, .int x16), (0, .ref q_p0)]) hx hb d_B_rerun_152 hl (k := 1) rfl rfl (by decide) rfl (fun ls hl => ?_)
                                  refine lv_goto (tgt := 88) hx hb d_B_rerun_155 (by decide) ?_
                                  exact ih88 (x19 + 1) (1 : Int32) f22 hm _ _ _ hw (lv_sub hl [0, 2, 1, 3] rfl)
                                · refine lv_aload_n hx hb d_B_rerun_137 rfl (lv_at hl 3 rfl) ?_
                                  refine sg_get (D := (dC, dI)) (ci := 9) (v := .ref q_p0_again) (C := "JobNetsModel") (T := T_9) (N := 41) hx hb hts hin_9 hown hK hw 10 rfl rfl 36 (by decide) (hts _ wd_652) rfl rfl d_B_rerun_138 ?_
                                  refine lv_iload_n hx hb d_B_rerun_141 rfl (lv_at hl 1 rfl) ?_
                                  refine sg_zald hx hb hK hw 9 3 rfl rfl d_B_rerun_142 hm (fun hm => ?_)
                                  refine bq_t (lv_if_eq (tgt := 150) hx hb d_B_rerun_143 (by decide)) hm (fun hm => ?_) (fun hm => ?_)
                                  · refine lv_iconst (v := 0) hx hb d_B_rerun_150 (by decide) ?_
                                    refine lv_istore_n (lv' := [(2, .int (0 : Int32)), (4, .int x19), (3, .int x16), (0, .ref q_p0)]) hx hb d_B_rerun_151 rfl hl (by decide) rfl (fun ls hl => ?_)
                                    refine lv_iinc (v := x19 + 1) (lv' := [(4, .int (x19 + 1)), (2, .int (0 : Int32)), (3, .int x16), (0, .ref q_p0)]) hx hb d_B_rerun_152 hl (k := 1) rfl rfl (by decide) rfl (fun ls hl => ?_)
                                    refine lv_goto (tgt := 88) hx hb d_B_rerun_155 (by decide) ?_
                                    exact ih88 (x19 + 1) (0 : Int32) f22 hm _ _ _ hw (lv_sub hl [0, 2, 1, 3] rfl)
                                  · refine lv_iconst (v := 1) hx hb d_B_rerun_146 (by decide) ?_
                                    refine lv_goto (tgt := 151) hx hb d_B_rerun_147 (by decide) ?_
                                    refine lv_istore_n (lv' := [(2, .int (1 : Int32)), (4, .int x19), (3, .int x16), (0, .ref q_p0)]) hx hb d_B_rerun_151 rfl hl (by decide) rfl (fun ls hl => ?_)
                                    refine lv_iinc (v := x19 + 1) (lv' := [(4, .int (x19 + 1)), (2, .int (1 : Int32)), (3, .int x16), (0, .ref q_p0)]) hx hb d_B_rerun_152 hl (k := 1) rfl rfl (by decide) rfl (fun ls hl => ?_)
                                    refine lv_goto (tgt := 88) hx hb d_B_rerun_155 (by decide) ?_
                                    exact ih88 (x19 + 1) (1 : Int32) f22 hm _ _ _ hw (lv_sub hl [0, 2, 1, 3] rfl)
                        exact L88 _ _ _ _ hm _ _ _ hw hl
                  exact L77 _ _ _ _ hm _ _ _ hw hl
            exact L69 _ _ _ hm _ _ _ hw (lv_sub hl [0, 1] rfl)
          · refine lv_aload_n hx hb d_B_rerun_45 rfl (lv_at hl 1 rfl) ?_
            refine sg_get (D := (dC, dI)) (ci := 9) (v := .ref q_p0_again) (C := "JobNetsModel") (T := T_9) (N := 41) hx hb hts hin_9 hown hK hw 10 rfl rfl 36 (by decide) (hts _ wd_652) rfl rfl d_B_rerun_46 ?_
            refine lv_iload_n hx hb d_B_rerun_49 rfl (lv_at hl 0 rfl) ?_
            refine lv_iload_n hx hb d_B_rerun_50 rfl (lv_at hl 0 rfl) ?_
            refine lv_iload_n hx hb d_B_rerun_51 rfl (lv_at hl 2 rfl) ?_
            refine bq_n (lv_icmp_ne (tgt := 59) hx hb d_B_rerun_52 (by decide)) hm (fun hm => ?_) (fun hm => ?_)
            · refine lv_iconst (v := 0) hx hb d_B_rerun_59 (by decide) ?_
              refine sg_zast (S1 := fun f23 => [[(q_p0_priorities, .inl (cI, 27, .inl f_p0_priorities))], [(q_p0_starts, .inl (cI, 27, .inl f_p0_starts))], [(q_p0_many, .inl (cI, 27, .inl f_p0_many))], [(q_p0_needs, .inl (cI, 540, .inl f_p0_needs))], [(q_p0_conditions, .inl (cI, 540, .inl f_p0_conditions))], [(q_p0_states, .inl (cI, 27, .inl f_p0_states))], [(q_p0_ran, .inl (cL, 27, .inr (.inl f_p0_ran)))], [(q_p0_startedJob, .inl (cI, 20000, .inl f_p0_startedJob))], [(q_p0_startedAt, .inl (cL, 20000, .inr (.inl f_p0_startedAt)))], [(q_p0_again, .inl (cZ, 27, .inl f23))], [(q_p0, .inr (9, [.int (0 : Int32), .ref q_p0_text, .int v_p0_length, .int v_p0_jobs, .int v_p0_newJobs, .ref q_p0_names, .ref q_p0_calendars, .ref q_p0_priorities, .ref q_p0_starts, .ref q_p0_estimates, .ref q_p0_many, .ref q_p0_newNames, .ref q_p0_numbers, .ref q_p0_newMany, .ref q_p0_needs, .ref q_p0_conditions, .ref q_p0_newNeeds, .ref q_p0_newConditions, .ref q_p0_needPlaces, .ref q_p0_rules, .ref q_p0_of, .int v_p0_made, .ref q_p0_holidays, .int v_p0_days, .ref q_p0_states, .ref q_p0_ran, .ref q_p0_sums, .ref q_p0_kept, .long v_p0_now, .ref q_p0_startedJob, .ref q_p0_startedAt, .int v_p0_started, .ref q_p0_ring, .ref q_p0_came, .ref q_p0_level, .int v_p0_ringSize, .ref q_p0_again, .ref q_p0_way, .ref q_p0_before, .ref q_p0_path, .int v_p0_place]))]]) hx hb hK hw 9 3 rfl rfl d_B_rerun_60 (fun _ => rfl) hm (fun f23 H locs hm hw => ?_)
              refine lv_iinc (v := x2 + 1) (lv' := [(2, .int (x2 + 1)), (0, .ref q_p0), (1, .int a1_x)]) hx hb d_B_rerun_61 hl (k := 0) rfl rfl (by decide) rfl (fun ls hl => ?_)
              refine lv_goto (tgt := 39) hx hb d_B_rerun_64 (by decide) ?_
              exact ih39 (x2 + 1) f23 hm _ _ _ hw hl
            · refine lv_iconst (v := 1) hx hb d_B_rerun_55 (by decide) ?_
              refine lv_goto (tgt := 60) hx hb d_B_rerun_56 (by decide) ?_
              refine sg_zast (S1 := fun f24 => [[(q_p0_priorities, .inl (cI, 27, .inl f_p0_priorities))], [(q_p0_starts, .inl (cI, 27, .inl f_p0_starts))], [(q_p0_many, .inl (cI, 27, .inl f_p0_many))], [(q_p0_needs, .inl (cI, 540, .inl f_p0_needs))], [(q_p0_conditions, .inl (cI, 540, .inl f_p0_conditions))], [(q_p0_states, .inl (cI, 27, .inl f_p0_states))], [(q_p0_ran, .inl (cL, 27, .inr (.inl f_p0_ran)))], [(q_p0_startedJob, .inl (cI, 20000, .inl f_p0_startedJob))], [(q_p0_startedAt, .inl (cL, 20000, .inr (.inl f_p0_startedAt)))], [(q_p0_again, .inl (cZ, 27, .inl f24))], [(q_p0, .inr (9, [.int (0 : Int32), .ref q_p0_text, .int v_p0_length, .int v_p0_jobs, .int v_p0_newJobs, .ref q_p0_names, .ref q_p0_calendars, .ref q_p0_priorities, .ref q_p0_starts, .ref q_p0_estimates, .ref q_p0_many, .ref q_p0_newNames, .ref q_p0_numbers, .ref q_p0_newMany, .ref q_p0_needs, .ref q_p0_conditions, .ref q_p0_newNeeds, .ref q_p0_newConditions, .ref q_p0_needPlaces, .ref q_p0_rules, .ref q_p0_of, .int v_p0_made, .ref q_p0_holidays, .int v_p0_days, .ref q_p0_states, .ref q_p0_ran, .ref q_p0_sums, .ref q_p0_kept, .long v_p0_now, .ref q_p0_startedJob, .ref q_p0_startedAt, .int v_p0_started, .ref q_p0_ring, .ref q_p0_came, .ref q_p0_level, .int v_p0_ringSize, .ref q_p0_again, .ref q_p0_way, .ref q_p0_before, .ref q_p0_path, .int v_p0_place]))]]) hx hb hK hw 9 3 rfl rfl d_B_rerun_60 (fun _ => rfl) hm (fun f24 H locs hm hw => ?_)
              refine lv_iinc (v := x2 + 1) (lv' := [(2, .int (x2 + 1)), (0, .ref q_p0), (1, .int a1_x)]) hx hb d_B_rerun_61 hl (k := 0) rfl rfl (by decide) rfl (fun ls hl => ?_)
              refine lv_goto (tgt := 39) hx hb d_B_rerun_64 (by decide) ?_
              exact ih39 (x2 + 1) f24 hm _ _ _ hw hl
      exact L39 _ _ _ hm _ _ _ hw hl
    refine bq_t (lv_icmp_eq (tgt := 37) hx hb d_B_rerun_22 (by decide)) hm (fun hm => ?_) (fun hm => ?_)
    · exact J37  hm _ _ _ hw hl
    · refine lv_aload_n hx hb d_B_rerun_25 rfl (lv_at hl 0 rfl) ?_
      refine sg_get (D := (dC, dI)) (ci := 9) (v := .ref q_p0_states) (C := "JobNetsModel") (T := T_9) (N := 41) hx hb hts hin_9 hown hK hw 10 rfl rfl 24 (by decide) (hts _ wd_640) rfl rfl d_B_rerun_26 ?_
      refine lv_iload_n hx hb d_B_rerun_29 rfl (lv_at hl 1 rfl) ?_
      refine sg_iald hx hb hK hw 5 0 rfl rfl d_B_rerun_30 hm (fun hm => ?_)
      refine lv_iconst (v := 4) hx hb d_B_rerun_31 (by decide) ?_
      refine bq_t (lv_icmp_eq (tgt := 37) hx hb d_B_rerun_32 (by decide)) hm (fun hm => ?_) (fun hm => ?_)
      · exact J37  hm _ _ _ hw hl
      · refine lv_iconst (v := 0) hx hb d_B_rerun_35 (by decide) ?_
        exact so_iret (rf := fun z_ => z_.1) (Sf := fun z_ => sc_B_rerun cI cL cM cZ q_p0 q_p0_text q_p0_names q_p0_calendars q_p0_priorities q_p0_starts q_p0_estimates q_p0_many q_p0_newNames q_p0_numbers q_p0_newMany q_p0_needs q_p0_conditions q_p0_newNeeds q_p0_newConditions q_p0_needPlaces q_p0_rules q_p0_of q_p0_holidays q_p0_states q_p0_ran q_p0_sums q_p0_kept q_p0_startedJob q_p0_startedAt q_p0_ring q_p0_came q_p0_level q_p0_again q_p0_way q_p0_before q_p0_path z_.2.1 v_p0_length v_p0_jobs v_p0_newJobs v_p0_made v_p0_days v_p0_now z_.2.2.1 v_p0_ringSize v_p0_place f_p0_priorities f_p0_starts f_p0_many f_p0_needs f_p0_conditions z_.2.2.2.1 z_.2.2.2.2.1 z_.2.2.2.2.2.1 z_.2.2.2.2.2.2.1 z_.2.2.2.2.2.2.2) hm hx hb hr hlocks hAe hQ hK (hw.sub [10, 0, 1, 2, 3, 4, 5, 6, 7, 8, 9] (by decide) rfl) rfl d_B_rerun_36
  · refine lv_iconst (v := -1) hx hb d_B_rerun_13 (by decide) ?_
    exact so_iret (rf := fun z_ => z_.1) (Sf := fun z_ => sc_B_rerun cI cL cM cZ q_p0 q_p0_text q_p0_names q_p0_calendars q_p0_priorities q_p0_starts q_p0_estimates q_p0_many q_p0_newNames q_p0_numbers q_p0_newMany q_p0_needs q_p0_conditions q_p0_newNeeds q_p0_newConditions q_p0_needPlaces q_p0_rules q_p0_of q_p0_holidays q_p0_states q_p0_ran q_p0_sums q_p0_kept q_p0_startedJob q_p0_startedAt q_p0_ring q_p0_came q_p0_level q_p0_again q_p0_way q_p0_before q_p0_path z_.2.1 v_p0_length v_p0_jobs v_p0_newJobs v_p0_made v_p0_days v_p0_now z_.2.2.1 v_p0_ringSize v_p0_place f_p0_priorities f_p0_starts f_p0_many f_p0_needs f_p0_conditions z_.2.2.2.1 z_.2.2.2.2.1 z_.2.2.2.2.2.1 z_.2.2.2.2.2.2.1 z_.2.2.2.2.2.2.2) hm hx hb hr hlocks hAe hQ hK (hw.sub [10, 0, 1, 2, 3, 4, 5, 6, 7, 8, 9] (by decide) rfl) rfl d_B_rerun_14
theorem d_B_started_0 : decode prog_11_method_29_code 0 = .ok (.aload_n 0, 1) := by decide +kernel
theorem d_B_started_1 : decode prog_11_method_29_code 1 = .ok (.iconst 0, 1) := by decide +kernel
theorem d_B_started_2 : decode prog_11_method_29_code 2 = .ok (.putfield 105, 3) := by decide +kernel
theorem d_B_started_5 : decode prog_11_method_29_code 5 = .ok (.iload_n 1, 1) := by decide +kernel
theorem d_B_started_6 : decode prog_11_method_29_code 6 = .ok (.ifCond .lt 20, 3) := by decide +kernel
theorem d_B_started_9 : decode prog_11_method_29_code 9 = .ok (.iload_n 1, 1) := by decide +kernel
theorem d_B_started_10 : decode prog_11_method_29_code 10 = .ok (.aload_n 0, 1) := by decide +kernel
theorem d_B_started_11 : decode prog_11_method_29_code 11 = .ok (.getfield 152, 3) := by decide +kernel
theorem d_B_started_14 : decode prog_11_method_29_code 14 = .ok (.if_icmp .ge 12, 3) := by decide +kernel
theorem d_B_started_17 : decode prog_11_method_29_code 17 = .ok (.iload_n 2, 1) := by decide +kernel
theorem d_B_started_18 : decode prog_11_method_29_code 18 = .ok (.ifCond .lt 8, 3) := by decide +kernel
theorem d_B_started_21 : decode prog_11_method_29_code 21 = .ok (.iload_n 2, 1) := by decide +kernel
theorem d_B_started_22 : decode prog_11_method_29_code 22 = .ok (.iconst 1, 1) := by decide +kernel
theorem d_B_started_23 : decode prog_11_method_29_code 23 = .ok (.if_icmp .le 5, 3) := by decide +kernel
theorem d_B_started_26 : decode prog_11_method_29_code 26 = .ok (.iconst (-1), 1) := by decide +kernel
theorem d_B_started_27 : decode prog_11_method_29_code 27 = .ok (.ireturn, 1) := by decide +kernel
theorem d_B_started_28 : decode prog_11_method_29_code 28 = .ok (.iload_n 2, 1) := by decide +kernel
theorem d_B_started_29 : decode prog_11_method_29_code 29 = .ok (.ifCond .ne 12, 3) := by decide +kernel
theorem d_B_started_32 : decode prog_11_method_29_code 32 = .ok (.aload_n 0, 1) := by decide +kernel
theorem d_B_started_33 : decode prog_11_method_29_code 33 = .ok (.getfield 77, 3) := by decide +kernel
theorem d_B_started_36 : decode prog_11_method_29_code 36 = .ok (.iload_n 1, 1) := by decide +kernel
theorem d_B_started_37 : decode prog_11_method_29_code 37 = .ok (.iaload, 1) := by decide +kernel
theorem d_B_started_38 : decode prog_11_method_29_code 38 = .ok (.goto 10, 3) := by decide +kernel
theorem d_B_started_41 : decode prog_11_method_29_code 41 = .ok (.aload_n 0, 1) := by decide +kernel
theorem d_B_started_42 : decode prog_11_method_29_code 42 = .ok (.getfield 80, 3) := by decide +kernel
theorem d_B_started_45 : decode prog_11_method_29_code 45 = .ok (.iload_n 1, 1) := by decide +kernel
theorem d_B_started_46 : decode prog_11_method_29_code 46 = .ok (.laload, 1) := by decide +kernel
theorem d_B_started_47 : decode prog_11_method_29_code 47 = .ok (.l2i, 1) := by decide +kernel
theorem d_B_started_48 : decode prog_11_method_29_code 48 = .ok (.ireturn, 1) := by decide +kernel
def md_B_started (N : Nat) (v_p0_code : Int32) (v_p0_started : Int32) (f_p0_startedJob : Nat → Int32) (f_p0_startedAt : Nat → Int64) (a1_x : Int32) (a2_x : Int32) : Option (Int32 × Int32) :=
  (if a1_x < 0 then (some ((-1 : Int32), (0 : Int32))) else (if v_p0_started ≤ a1_x then (some ((-1 : Int32), (0 : Int32))) else (if a2_x < 0 then (some ((-1 : Int32), (0 : Int32))) else (if a2_x ≤ (1 : Int32) then (if a2_x = 0 then (if sg_in a1_x 20000 = true then (some (f_p0_startedJob a1_x.toNatClampNeg, (0 : Int32))) else none) else (if sg_in a1_x 20000 = true then (some ((f_p0_startedAt a1_x.toNatClampNeg).toInt32, (0 : Int32))) else none)) else (some ((-1 : Int32), (0 : Int32)))))))
abbrev sc_B_started (cI cL cM cZ : ClassId) (q_p0 q_p0_text q_p0_names q_p0_calendars q_p0_priorities q_p0_starts q_p0_estimates q_p0_many q_p0_newNames q_p0_numbers q_p0_newMany q_p0_needs q_p0_conditions q_p0_newNeeds q_p0_newConditions q_p0_needPlaces q_p0_rules q_p0_of q_p0_holidays q_p0_states q_p0_ran q_p0_sums q_p0_kept q_p0_startedJob q_p0_startedAt q_p0_ring q_p0_came q_p0_level q_p0_again q_p0_way q_p0_before q_p0_path : Nat) (v_p0_code : Int32) (v_p0_length : Int32) (v_p0_jobs : Int32) (v_p0_newJobs : Int32) (v_p0_made : Int32) (v_p0_days : Int32) (v_p0_now : Int64) (v_p0_started : Int32) (v_p0_ringSize : Int32) (v_p0_place : Int32) (f_p0_startedJob : Nat → Int32) (f_p0_startedAt : Nat → Int64) : List va_W := [[(q_p0, .inr (9, [.int v_p0_code, .ref q_p0_text, .int v_p0_length, .int v_p0_jobs, .int v_p0_newJobs, .ref q_p0_names, .ref q_p0_calendars, .ref q_p0_priorities, .ref q_p0_starts, .ref q_p0_estimates, .ref q_p0_many, .ref q_p0_newNames, .ref q_p0_numbers, .ref q_p0_newMany, .ref q_p0_needs, .ref q_p0_conditions, .ref q_p0_newNeeds, .ref q_p0_newConditions, .ref q_p0_needPlaces, .ref q_p0_rules, .ref q_p0_of, .int v_p0_made, .ref q_p0_holidays, .int v_p0_days, .ref q_p0_states, .ref q_p0_ran, .ref q_p0_sums, .ref q_p0_kept, .long v_p0_now, .ref q_p0_startedJob, .ref q_p0_startedAt, .int v_p0_started, .ref q_p0_ring, .ref q_p0_came, .ref q_p0_level, .int v_p0_ringSize, .ref q_p0_again, .ref q_p0_way, .ref q_p0_before, .ref q_p0_path, .int v_p0_place]))], [(q_p0_startedJob, .inl (cI, 20000, .inl f_p0_startedJob))], [(q_p0_startedAt, .inl (cL, 20000, .inr (.inl f_p0_startedAt)))]]
abbrev rm_B_started : Room := { frames := 0, cells := 0, slots := 0, locals := 0 }
set_option maxHeartbeats 4000000 in
set_option maxRecDepth 100000 in
theorem ct_B_started (l : Launch) (dC : Nat → ClassId) (dI : Nat → Nat → Nat) (cI cL cM cZ : ClassId) (q_p0 q_p0_text q_p0_names q_p0_calendars q_p0_priorities q_p0_starts q_p0_estimates q_p0_many q_p0_newNames q_p0_numbers q_p0_newMany q_p0_needs q_p0_conditions q_p0_newNeeds q_p0_newConditions q_p0_needPlaces q_p0_rules q_p0_of q_p0_holidays q_p0_states q_p0_ran q_p0_sums q_p0_kept q_p0_startedJob q_p0_startedAt q_p0_ring q_p0_came q_p0_level q_p0_again q_p0_way q_p0_before q_p0_path : Nat) (v_p0_code : Int32) (v_p0_length : Int32) (v_p0_jobs : Int32) (v_p0_newJobs : Int32) (v_p0_made : Int32) (v_p0_days : Int32) (v_p0_now : Int64) (v_p0_started : Int32) (v_p0_ringSize : Int32) (v_p0_place : Int32) (f_p0_startedJob : Nat → Int32) (f_p0_startedAt : Nat → Int64) (a1_x : Int32) (a2_x : Int32) (N : Nat) (o : Int32 × Int32) (hm : md_B_started N v_p0_code v_p0_started f_p0_startedJob f_p0_startedAt a1_x a2_x = some o) : ∀ sz : Nat, Met l y_B_started ws_B_started rm_B_started (cP (dC, dI) vwCl [(cI, .int), (cL, .long), (cM, .array .int), (cZ, .boolean)] [.ref q_p0, .int a1_x, .int a2_x] sz (sc_B_started cI cL cM cZ q_p0 q_p0_text q_p0_names q_p0_calendars q_p0_priorities q_p0_starts q_p0_estimates q_p0_many q_p0_newNames q_p0_numbers q_p0_newMany q_p0_needs q_p0_conditions q_p0_newNeeds q_p0_newConditions q_p0_needPlaces q_p0_rules q_p0_of q_p0_holidays q_p0_states q_p0_ran q_p0_sums q_p0_kept q_p0_startedJob q_p0_startedAt q_p0_ring q_p0_came q_p0_level q_p0_again q_p0_way q_p0_before q_p0_path v_p0_code v_p0_length v_p0_jobs v_p0_newJobs v_p0_made v_p0_days v_p0_now v_p0_started v_p0_ringSize v_p0_place f_p0_startedJob f_p0_startedAt)) (cQi (dC, dI) vwCl [(cI, .int), (cL, .long), (cM, .array .int), (cZ, .boolean)] sz (sc_B_started cI cL cM cZ q_p0 q_p0_text q_p0_names q_p0_calendars q_p0_priorities q_p0_starts q_p0_estimates q_p0_many q_p0_newNames q_p0_numbers q_p0_newMany q_p0_needs q_p0_conditions q_p0_newNeeds q_p0_newConditions q_p0_needPlaces q_p0_rules q_p0_of q_p0_holidays q_p0_states q_p0_ran q_p0_sums q_p0_kept q_p0_startedJob q_p0_startedAt q_p0_ring q_p0_came q_p0_level q_p0_again q_p0_way q_p0_before q_p0_path v_p0_code v_p0_length v_p0_jobs v_p0_newJobs v_p0_made v_p0_days v_p0_now v_p0_started v_p0_ringSize v_p0_place f_p0_startedJob f_p0_startedAt) o.1 (sc_B_started cI cL cM cZ q_p0 q_p0_text q_p0_names q_p0_calendars q_p0_priorities q_p0_starts q_p0_estimates q_p0_many q_p0_newNames q_p0_numbers q_p0_newMany q_p0_needs q_p0_conditions q_p0_newNeeds q_p0_newConditions q_p0_needPlaces q_p0_rules q_p0_of q_p0_holidays q_p0_states q_p0_ran q_p0_sums q_p0_kept q_p0_startedJob q_p0_startedAt q_p0_ring q_p0_came q_p0_level q_p0_again q_p0_way q_p0_before q_p0_path o.2 v_p0_length v_p0_jobs v_p0_newJobs v_p0_made v_p0_days v_p0_now v_p0_started v_p0_ringSize v_p0_place f_p0_startedJob f_p0_startedAt)) 0 0 (va_A ((sc_B_started cI cL cM cZ q_p0 q_p0_text q_p0_names q_p0_calendars q_p0_priorities q_p0_starts q_p0_estimates q_p0_many q_p0_newNames q_p0_numbers q_p0_newMany q_p0_needs q_p0_conditions q_p0_newNeeds q_p0_newConditions q_p0_needPlaces q_p0_rules q_p0_of q_p0_holidays q_p0_states q_p0_ran q_p0_sums q_p0_kept q_p0_startedJob q_p0_startedAt q_p0_ring q_p0_came q_p0_level q_p0_again q_p0_way q_p0_before q_p0_path v_p0_code v_p0_length v_p0_jobs v_p0_newJobs v_p0_made v_p0_days v_p0_now v_p0_started v_p0_ringSize v_p0_place f_p0_startedJob f_p0_startedAt)).flatten sz) := by
  refine sg_met (fun sz => cQi (dC, dI) vwCl [(cI, .int), (cL, .long), (cM, .array .int), (cZ, .boolean)] sz (sc_B_started cI cL cM cZ q_p0 q_p0_text q_p0_names q_p0_calendars q_p0_priorities q_p0_starts q_p0_estimates q_p0_many q_p0_newNames q_p0_numbers q_p0_newMany q_p0_needs q_p0_conditions q_p0_newNeeds q_p0_newConditions q_p0_needPlaces q_p0_rules q_p0_of q_p0_holidays q_p0_states q_p0_ran q_p0_sums q_p0_kept q_p0_startedJob q_p0_startedAt q_p0_ring q_p0_came q_p0_level q_p0_again q_p0_way q_p0_before q_p0_path v_p0_code v_p0_length v_p0_jobs v_p0_newJobs v_p0_made v_p0_days v_p0_now v_p0_started v_p0_ringSize v_p0_place f_p0_startedJob f_p0_startedAt) o.1 (sc_B_started cI cL cM cZ q_p0 q_p0_text q_p0_names q_p0_calendars q_p0_priorities q_p0_starts q_p0_estimates q_p0_many q_p0_newNames q_p0_numbers q_p0_newMany q_p0_needs q_p0_conditions q_p0_newNeeds q_p0_newConditions q_p0_needPlaces q_p0_rules q_p0_of q_p0_holidays q_p0_states q_p0_ran q_p0_sums q_p0_kept q_p0_startedJob q_p0_startedAt q_p0_ring q_p0_came q_p0_level q_p0_again q_p0_way q_p0_before q_p0_path o.2 v_p0_length v_p0_jobs v_p0_newJobs v_p0_made v_p0_days v_p0_now v_p0_started v_p0_ringSize v_p0_place f_p0_startedJob f_p0_startedAt)) (by decide) (Nat.le_of_ble_eq_true rfl) ?_
  intro p e s m args below meth c A Q ls hx hb hr hts hown hlocks hml hname hK hNW hA hAe hQ hw hl
  have hl : lv_has ls 3 [(0, .ref q_p0), (1, .int a1_x), (2, .int a2_x)] := hl
  have hw : wk (dC, dI) vwCl A s.heap [[(q_p0, .inr (9, [.int v_p0_code, .ref q_p0_text, .int v_p0_length, .int v_p0_jobs, .int v_p0_newJobs, .ref q_p0_names, .ref q_p0_calendars, .ref q_p0_priorities, .ref q_p0_starts, .ref q_p0_estimates, .ref q_p0_many, .ref q_p0_newNames, .ref q_p0_numbers, .ref q_p0_newMany, .ref q_p0_needs, .ref q_p0_conditions, .ref q_p0_newNeeds, .ref q_p0_newConditions, .ref q_p0_needPlaces, .ref q_p0_rules, .ref q_p0_of, .int v_p0_made, .ref q_p0_holidays, .int v_p0_days, .ref q_p0_states, .ref q_p0_ran, .ref q_p0_sums, .ref q_p0_kept, .long v_p0_now, .ref q_p0_startedJob, .ref q_p0_startedAt, .int v_p0_started, .ref q_p0_ring, .ref q_p0_came, .ref q_p0_level, .int v_p0_ringSize, .ref q_p0_again, .ref q_p0_way, .ref q_p0_before, .ref q_p0_path, .int v_p0_place]))], [(q_p0_startedJob, .inl (cI, 20000, .inl f_p0_startedJob))], [(q_p0_startedAt, .inl (cL, 20000, .inr (.inl f_p0_startedAt)))]] s.heap [] := hw
  unfold md_B_started at hm
  refine lv_aload_n hx hb d_B_started_0 rfl (lv_at hl 0 rfl) ?_
  refine lv_iconst (v := 0) hx hb d_B_started_1 (by decide) ?_
  refine sg_put (D := (dC, dI)) (ci := 9) (v := .int (0 : Int32)) (ty := .int) (C := "JobNetsModel") (T := T_9) (N := 41) (S1 := [[(q_p0, .inr (9, [.int (0 : Int32), .ref q_p0_text, .int v_p0_length, .int v_p0_jobs, .int v_p0_newJobs, .ref q_p0_names, .ref q_p0_calendars, .ref q_p0_priorities, .ref q_p0_starts, .ref q_p0_estimates, .ref q_p0_many, .ref q_p0_newNames, .ref q_p0_numbers, .ref q_p0_newMany, .ref q_p0_needs, .ref q_p0_conditions, .ref q_p0_newNeeds, .ref q_p0_newConditions, .ref q_p0_needPlaces, .ref q_p0_rules, .ref q_p0_of, .int v_p0_made, .ref q_p0_holidays, .int v_p0_days, .ref q_p0_states, .ref q_p0_ran, .ref q_p0_sums, .ref q_p0_kept, .long v_p0_now, .ref q_p0_startedJob, .ref q_p0_startedAt, .int v_p0_started, .ref q_p0_ring, .ref q_p0_came, .ref q_p0_level, .int v_p0_ringSize, .ref q_p0_again, .ref q_p0_way, .ref q_p0_before, .ref q_p0_path, .int v_p0_place]))], [(q_p0_startedJob, .inl (cI, 20000, .inl f_p0_startedJob))], [(q_p0_startedAt, .inl (cL, 20000, .inr (.inl f_p0_startedAt)))]]) hx hb hts hin_9 ty_9 tok_9 nd_9 hown hK hw 0 rfl rfl 0 (by decide) (hts _ wd_616) rfl rfl (by decide +kernel) rfl rfl (Nat.le_of_ble_eq_true rfl) rfl d_B_started_2 (fun H locs hw => ?_)
  refine lv_iload_n hx hb d_B_started_5 rfl (lv_at hl 1 rfl) ?_
  refine bq_t (lv_if_lt (tgt := 26) hx hb d_B_started_6 (by decide)) hm (fun hm => ?_) (fun hm => ?_)
  · refine lv_iconst (v := -1) hx hb d_B_started_26 (by decide) ?_
    exact so_iret (rf := fun z_ => z_.1) (Sf := fun z_ => sc_B_started cI cL cM cZ q_p0 q_p0_text q_p0_names q_p0_calendars q_p0_priorities q_p0_starts q_p0_estimates q_p0_many q_p0_newNames q_p0_numbers q_p0_newMany q_p0_needs q_p0_conditions q_p0_newNeeds q_p0_newConditions q_p0_needPlaces q_p0_rules q_p0_of q_p0_holidays q_p0_states q_p0_ran q_p0_sums q_p0_kept q_p0_startedJob q_p0_startedAt q_p0_ring q_p0_came q_p0_level q_p0_again q_p0_way q_p0_before q_p0_path z_.2 v_p0_length v_p0_jobs v_p0_newJobs v_p0_made v_p0_days v_p0_now v_p0_started v_p0_ringSize v_p0_place f_p0_startedJob f_p0_startedAt) hm hx hb hr hlocks hAe hQ hK hw rfl d_B_started_27
  · refine lv_iload_n hx hb d_B_started_9 rfl (lv_at hl 1 rfl) ?_
    refine lv_aload_n hx hb d_B_started_10 rfl (lv_at hl 0 rfl) ?_
    refine sg_get (D := (dC, dI)) (ci := 9) (v := .int v_p0_started) (C := "JobNetsModel") (T := T_9) (N := 41) hx hb hts hin_9 hown hK hw 0 rfl rfl 31 (by decide) (hts _ wd_647) rfl rfl d_B_started_11 ?_
    refine bq_t (lv_icmp_ge (tgt := 26) hx hb d_B_started_14 (by decide)) hm (fun hm => ?_) (fun hm => ?_)
    · refine lv_iconst (v := -1) hx hb d_B_started_26 (by decide) ?_
      exact so_iret (rf := fun z_ => z_.1) (Sf := fun z_ => sc_B_started cI cL cM cZ q_p0 q_p0_text q_p0_names q_p0_calendars q_p0_priorities q_p0_starts q_p0_estimates q_p0_many q_p0_newNames q_p0_numbers q_p0_newMany q_p0_needs q_p0_conditions q_p0_newNeeds q_p0_newConditions q_p0_needPlaces q_p0_rules q_p0_of q_p0_holidays q_p0_states q_p0_ran q_p0_sums q_p0_kept q_p0_startedJob q_p0_startedAt q_p0_ring q_p0_came q_p0_level q_p0_again q_p0_way q_p0_before q_p0_path z_.2 v_p0_length v_p0_jobs v_p0_newJobs v_p0_made v_p0_days v_p0_now v_p0_started v_p0_ringSize v_p0_place f_p0_startedJob f_p0_startedAt) hm hx hb hr hlocks hAe hQ hK hw rfl d_B_started_27
    · refine lv_iload_n hx hb d_B_started_17 rfl (lv_at hl 2 rfl) ?_
      refine bq_t (lv_if_lt (tgt := 26) hx hb d_B_started_18 (by decide)) hm (fun hm => ?_) (fun hm => ?_)
      · refine lv_iconst (v := -1) hx hb d_B_started_26 (by decide) ?_
        exact so_iret (rf := fun z_ => z_.1) (Sf := fun z_ => sc_B_started cI cL cM cZ q_p0 q_p0_text q_p0_names q_p0_calendars q_p0_priorities q_p0_starts q_p0_estimates q_p0_many q_p0_newNames q_p0_numbers q_p0_newMany q_p0_needs q_p0_conditions q_p0_newNeeds q_p0_newConditions q_p0_needPlaces q_p0_rules q_p0_of q_p0_holidays q_p0_states q_p0_ran q_p0_sums q_p0_kept q_p0_startedJob q_p0_startedAt q_p0_ring q_p0_came q_p0_level q_p0_again q_p0_way q_p0_before q_p0_path z_.2 v_p0_length v_p0_jobs v_p0_newJobs v_p0_made v_p0_days v_p0_now v_p0_started v_p0_ringSize v_p0_place f_p0_startedJob f_p0_startedAt) hm hx hb hr hlocks hAe hQ hK hw rfl d_B_started_27
      · refine lv_iload_n hx hb d_B_started_21 rfl (lv_at hl 2 rfl) ?_
        refine lv_iconst (v := 1) hx hb d_B_started_22 (by decide) ?_
        refine bq_t (lv_icmp_le (tgt := 28) hx hb d_B_started_23 (by decide)) hm (fun hm => ?_) (fun hm => ?_)
        · refine lv_iload_n hx hb d_B_started_28 rfl (lv_at hl 2 rfl) ?_
          refine bq_n (lv_if_ne (tgt := 41) hx hb d_B_started_29 (by decide)) hm (fun hm => ?_) (fun hm => ?_)
          · refine lv_aload_n hx hb d_B_started_41 rfl (lv_at hl 0 rfl) ?_
            refine sg_get (D := (dC, dI)) (ci := 9) (v := .ref q_p0_startedAt) (C := "JobNetsModel") (T := T_9) (N := 41) hx hb hts hin_9 hown hK hw 0 rfl rfl 30 (by decide) (hts _ wd_646) rfl rfl d_B_started_42 ?_
            refine lv_iload_n hx hb d_B_started_45 rfl (lv_at hl 1 rfl) ?_
            refine sg_lald hx hb hK hw 2 1 rfl rfl d_B_started_46 hm (fun hm => ?_)
            refine lv_l2i hx hb d_B_started_47 rfl ?_
            exact so_iret (rf := fun z_ => z_.1) (Sf := fun z_ => sc_B_started cI cL cM cZ q_p0 q_p0_text q_p0_names q_p0_calendars q_p0_priorities q_p0_starts q_p0_estimates q_p0_many q_p0_newNames q_p0_numbers q_p0_newMany q_p0_needs q_p0_conditions q_p0_newNeeds q_p0_newConditions q_p0_needPlaces q_p0_rules q_p0_of q_p0_holidays q_p0_states q_p0_ran q_p0_sums q_p0_kept q_p0_startedJob q_p0_startedAt q_p0_ring q_p0_came q_p0_level q_p0_again q_p0_way q_p0_before q_p0_path z_.2 v_p0_length v_p0_jobs v_p0_newJobs v_p0_made v_p0_days v_p0_now v_p0_started v_p0_ringSize v_p0_place f_p0_startedJob f_p0_startedAt) hm hx hb hr hlocks hAe hQ hK hw rfl d_B_started_48
          · refine lv_aload_n hx hb d_B_started_32 rfl (lv_at hl 0 rfl) ?_
            refine sg_get (D := (dC, dI)) (ci := 9) (v := .ref q_p0_startedJob) (C := "JobNetsModel") (T := T_9) (N := 41) hx hb hts hin_9 hown hK hw 0 rfl rfl 29 (by decide) (hts _ wd_645) rfl rfl d_B_started_33 ?_
            refine lv_iload_n hx hb d_B_started_36 rfl (lv_at hl 1 rfl) ?_
            refine sg_iald hx hb hK hw 1 0 rfl rfl d_B_started_37 hm (fun hm => ?_)
            refine lv_goto (tgt := 48) hx hb d_B_started_38 (by decide) ?_
            exact so_iret (rf := fun z_ => z_.1) (Sf := fun z_ => sc_B_started cI cL cM cZ q_p0 q_p0_text q_p0_names q_p0_calendars q_p0_priorities q_p0_starts q_p0_estimates q_p0_many q_p0_newNames q_p0_numbers q_p0_newMany q_p0_needs q_p0_conditions q_p0_newNeeds q_p0_newConditions q_p0_needPlaces q_p0_rules q_p0_of q_p0_holidays q_p0_states q_p0_ran q_p0_sums q_p0_kept q_p0_startedJob q_p0_startedAt q_p0_ring q_p0_came q_p0_level q_p0_again q_p0_way q_p0_before q_p0_path z_.2 v_p0_length v_p0_jobs v_p0_newJobs v_p0_made v_p0_days v_p0_now v_p0_started v_p0_ringSize v_p0_place f_p0_startedJob f_p0_startedAt) hm hx hb hr hlocks hAe hQ hK hw rfl d_B_started_48
        · refine lv_iconst (v := -1) hx hb d_B_started_26 (by decide) ?_
          exact so_iret (rf := fun z_ => z_.1) (Sf := fun z_ => sc_B_started cI cL cM cZ q_p0 q_p0_text q_p0_names q_p0_calendars q_p0_priorities q_p0_starts q_p0_estimates q_p0_many q_p0_newNames q_p0_numbers q_p0_newMany q_p0_needs q_p0_conditions q_p0_newNeeds q_p0_newConditions q_p0_needPlaces q_p0_rules q_p0_of q_p0_holidays q_p0_states q_p0_ran q_p0_sums q_p0_kept q_p0_startedJob q_p0_startedAt q_p0_ring q_p0_came q_p0_level q_p0_again q_p0_way q_p0_before q_p0_path z_.2 v_p0_length v_p0_jobs v_p0_newJobs v_p0_made v_p0_days v_p0_now v_p0_started v_p0_ringSize v_p0_place f_p0_startedJob f_p0_startedAt) hm hx hb hr hlocks hAe hQ hK hw rfl d_B_started_27
