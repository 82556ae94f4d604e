/-! ===== a row for each instruction ===== -/
theorem dq_MO_init_127 : decode (fx_cc mq_MO_init) 127 = .ok (.newarray .int, 2) := by decide +kernel
theorem dq_MO_init_129 : decode (fx_cc mq_MO_init) 129 = .ok (.putfield 56, 3) := by decide +kernel
theorem dq_MO_init_132 : decode (fx_cc mq_MO_init) 132 = .ok (.aload_n 0, 1) := by decide +kernel
theorem dq_MO_init_133 : decode (fx_cc mq_MO_init) 133 = .ok (.sipush 2880, 3) := by decide +kernel
theorem dq_MO_init_136 : decode (fx_cc mq_MO_init) 136 = .ok (.newarray .int, 2) := by decide +kernel
theorem dq_MO_init_138 : decode (fx_cc mq_MO_init) 138 = .ok (.putfield 59, 3) := by decide +kernel
theorem dq_MO_init_141 : decode (fx_cc mq_MO_init) 141 = .ok (.aload_n 0, 1) := by decide +kernel
theorem dq_MO_init_142 : decode (fx_cc mq_MO_init) 142 = .ok (.bipush 96, 2) := by decide +kernel
theorem dq_MO_init_144 : decode (fx_cc mq_MO_init) 144 = .ok (.newarray .int, 2) := by decide +kernel
theorem dq_MO_init_146 : decode (fx_cc mq_MO_init) 146 = .ok (.putfield 62, 3) := by decide +kernel
theorem dq_MO_init_149 : decode (fx_cc mq_MO_init) 149 = .ok (.aload_n 0, 1) := by decide +kernel
theorem dq_MO_init_150 : decode (fx_cc mq_MO_init) 150 = .ok (.iconst 4, 1) := by decide +kernel
theorem dq_MO_init_151 : decode (fx_cc mq_MO_init) 151 = .ok (.newarray .boolean, 2) := by decide +kernel
theorem dq_MO_init_153 : decode (fx_cc mq_MO_init) 153 = .ok (.putfield 65, 3) := by decide +kernel
theorem dq_MO_init_156 : decode (fx_cc mq_MO_init) 156 = .ok (.aload_n 0, 1) := by decide +kernel
theorem dq_MO_init_157 : decode (fx_cc mq_MO_init) 157 = .ok (.iconst 1, 1) := by decide +kernel
theorem dq_MO_init_158 : decode (fx_cc mq_MO_init) 158 = .ok (.putfield 68, 3) := by decide +kernel
theorem dq_MO_init_161 : decode (fx_cc mq_MO_init) 161 = .ok (.aload_n 0, 1) := by decide +kernel
theorem dq_MO_init_162 : decode (fx_cc mq_MO_init) 162 = .ok (.sipush 400, 3) := by decide +kernel
theorem dq_MO_init_165 : decode (fx_cc mq_MO_init) 165 = .ok (.newarray .int, 2) := by decide +kernel
theorem dq_MO_init_167 : decode (fx_cc mq_MO_init) 167 = .ok (.putfield 72, 3) := by decide +kernel
theorem dq_MO_init_170 : decode (fx_cc mq_MO_init) 170 = .ok (.aload_n 0, 1) := by decide +kernel
theorem dq_MO_init_171 : decode (fx_cc mq_MO_init) 171 = .ok (.iconst 2, 1) := by decide +kernel
theorem dq_MO_init_172 : decode (fx_cc mq_MO_init) 172 = .ok (.newarray .int, 2) := by decide +kernel
theorem dq_MO_init_174 : decode (fx_cc mq_MO_init) 174 = .ok (.putfield 75, 3) := by decide +kernel
theorem dq_MO_init_177 : decode (fx_cc mq_MO_init) 177 = .ok (.aload_n 0, 1) := by decide +kernel
theorem dq_MO_init_178 : decode (fx_cc mq_MO_init) 178 = .ok (.bipush 14, 2) := by decide +kernel
theorem dq_MO_init_180 : decode (fx_cc mq_MO_init) 180 = .ok (.newarray .int, 2) := by decide +kernel
theorem dq_MO_init_182 : decode (fx_cc mq_MO_init) 182 = .ok (.putfield 78, 3) := by decide +kernel
theorem dq_MO_init_185 : decode (fx_cc mq_MO_init) 185 = .ok (.aload_n 0, 1) := by decide +kernel
theorem dq_MO_init_186 : decode (fx_cc mq_MO_init) 186 = .ok (.bipush 14, 2) := by decide +kernel
theorem dq_MO_init_188 : decode (fx_cc mq_MO_init) 188 = .ok (.newarray .int, 2) := by decide +kernel
theorem dq_MO_init_190 : decode (fx_cc mq_MO_init) 190 = .ok (.putfield 81, 3) := by decide +kernel
theorem dq_MO_init_193 : decode (fx_cc mq_MO_init) 193 = .ok (.aload_n 0, 1) := by decide +kernel
theorem dq_MO_init_194 : decode (fx_cc mq_MO_init) 194 = .ok (.bipush 14, 2) := by decide +kernel
theorem dq_MO_init_196 : decode (fx_cc mq_MO_init) 196 = .ok (.newarray .int, 2) := by decide +kernel
theorem dq_MO_init_198 : decode (fx_cc mq_MO_init) 198 = .ok (.putfield 84, 3) := by decide +kernel
theorem dq_MO_init_201 : decode (fx_cc mq_MO_init) 201 = .ok (.aload_n 0, 1) := by decide +kernel
theorem dq_MO_init_202 : decode (fx_cc mq_MO_init) 202 = .ok (.bipush 14, 2) := by decide +kernel
theorem dq_MO_init_204 : decode (fx_cc mq_MO_init) 204 = .ok (.newarray .int, 2) := by decide +kernel
theorem dq_MO_init_206 : decode (fx_cc mq_MO_init) 206 = .ok (.putfield 87, 3) := by decide +kernel
theorem dq_MO_init_209 : decode (fx_cc mq_MO_init) 209 = .ok (.aload_n 0, 1) := by decide +kernel
theorem dq_MO_init_210 : decode (fx_cc mq_MO_init) 210 = .ok (.iconst 2, 1) := by decide +kernel
theorem dq_MO_init_211 : decode (fx_cc mq_MO_init) 211 = .ok (.newarray .int, 2) := by decide +kernel
theorem dq_MO_init_213 : decode (fx_cc mq_MO_init) 213 = .ok (.putfield 90, 3) := by decide +kernel
theorem dq_MO_init_216 : decode (fx_cc mq_MO_init) 216 = .ok (.aload_n 0, 1) := by decide +kernel
theorem dq_MO_init_217 : decode (fx_cc mq_MO_init) 217 = .ok (.bipush 10, 2) := by decide +kernel
theorem dq_MO_init_219 : decode (fx_cc mq_MO_init) 219 = .ok (.newarray .int, 2) := by decide +kernel
theorem dq_MO_init_221 : decode (fx_cc mq_MO_init) 221 = .ok (.putfield 93, 3) := by decide +kernel
theorem dq_MO_init_224 : decode (fx_cc mq_MO_init) 224 = .ok (.aload_n 0, 1) := by decide +kernel
theorem dq_MO_init_225 : decode (fx_cc mq_MO_init) 225 = .ok (.bipush 10, 2) := by decide +kernel
theorem dq_MO_init_227 : decode (fx_cc mq_MO_init) 227 = .ok (.newarray .int, 2) := by decide +kernel
theorem dq_MO_init_229 : decode (fx_cc mq_MO_init) 229 = .ok (.putfield 96, 3) := by decide +kernel
theorem dq_MO_init_232 : decode (fx_cc mq_MO_init) 232 = .ok (.aload_n 0, 1) := by decide +kernel
theorem dq_MO_init_233 : decode (fx_cc mq_MO_init) 233 = .ok (.bipush 10, 2) := by decide +kernel
theorem dq_MO_init_235 : decode (fx_cc mq_MO_init) 235 = .ok (.newarray .int, 2) := by decide +kernel
theorem dq_MO_init_237 : decode (fx_cc mq_MO_init) 237 = .ok (.putfield 99, 3) := by decide +kernel
theorem dq_MO_init_240 : decode (fx_cc mq_MO_init) 240 = .ok (.aload_n 0, 1) := by decide +kernel
theorem dq_MO_init_241 : decode (fx_cc mq_MO_init) 241 = .ok (.bipush 10, 2) := by decide +kernel
theorem dq_MO_init_243 : decode (fx_cc mq_MO_init) 243 = .ok (.newarray .int, 2) := by decide +kernel
theorem dq_MO_init_245 : decode (fx_cc mq_MO_init) 245 = .ok (.putfield 102, 3) := by decide +kernel
theorem dq_MO_init_248 : decode (fx_cc mq_MO_init) 248 = .ok (.aload_n 0, 1) := by decide +kernel
theorem dq_MO_init_249 : decode (fx_cc mq_MO_init) 249 = .ok (.bipush 10, 2) := by decide +kernel
theorem dq_MO_init_251 : decode (fx_cc mq_MO_init) 251 = .ok (.newarray .boolean, 2) := by decide +kernel
theorem dq_MO_init_253 : decode (fx_cc mq_MO_init) 253 = .ok (.putfield 105, 3) := by decide +kernel
theorem dq_MO_init_256 : decode (fx_cc mq_MO_init) 256 = .ok (.aload_n 0, 1) := by decide +kernel
theorem dq_MO_init_257 : decode (fx_cc mq_MO_init) 257 = .ok (.iconst 2, 1) := by decide +kernel
theorem dq_MO_init_258 : decode (fx_cc mq_MO_init) 258 = .ok (.newarray .int, 2) := by decide +kernel
theorem dq_MO_init_260 : decode (fx_cc mq_MO_init) 260 = .ok (.putfield 108, 3) := by decide +kernel
theorem dq_MO_init_263 : decode (fx_cc mq_MO_init) 263 = .ok (.aload_n 0, 1) := by decide +kernel
theorem dq_MO_init_264 : decode (fx_cc mq_MO_init) 264 = .ok (.iconst 2, 1) := by decide +kernel
theorem dq_MO_init_265 : decode (fx_cc mq_MO_init) 265 = .ok (.newarray .int, 2) := by decide +kernel
theorem dq_MO_init_267 : decode (fx_cc mq_MO_init) 267 = .ok (.putfield 111, 3) := by decide +kernel
theorem dq_MO_init_270 : decode (fx_cc mq_MO_init) 270 = .ok (.aload_n 0, 1) := by decide +kernel
theorem dq_MO_init_271 : decode (fx_cc mq_MO_init) 271 = .ok (.iconst 2, 1) := by decide +kernel
theorem dq_MO_init_272 : decode (fx_cc mq_MO_init) 272 = .ok (.newarray .int, 2) := by decide +kernel
theorem dq_MO_init_274 : decode (fx_cc mq_MO_init) 274 = .ok (.putfield 114, 3) := by decide +kernel
theorem dq_MO_init_277 : decode (fx_cc mq_MO_init) 277 = .ok (.aload_n 0, 1) := by decide +kernel
theorem dq_MO_init_278 : decode (fx_cc mq_MO_init) 278 = .ok (.iconst 2, 1) := by decide +kernel
theorem dq_MO_init_279 : decode (fx_cc mq_MO_init) 279 = .ok (.newarray .int, 2) := by decide +kernel
theorem dq_MO_init_281 : decode (fx_cc mq_MO_init) 281 = .ok (.putfield 117, 3) := by decide +kernel
theorem dq_MO_init_284 : decode (fx_cc mq_MO_init) 284 = .ok (.aload_n 0, 1) := by decide +kernel
theorem dq_MO_init_285 : decode (fx_cc mq_MO_init) 285 = .ok (.bipush 48, 2) := by decide +kernel
theorem dq_MO_init_287 : decode (fx_cc mq_MO_init) 287 = .ok (.newarray .int, 2) := by decide +kernel
theorem dq_MO_init_289 : decode (fx_cc mq_MO_init) 289 = .ok (.putfield 120, 3) := by decide +kernel
theorem dq_MO_init_292 : decode (fx_cc mq_MO_init) 292 = .ok (.aload_n 0, 1) := by decide +kernel
theorem dq_MO_init_293 : decode (fx_cc mq_MO_init) 293 = .ok (.sipush 200, 3) := by decide +kernel
theorem dq_MO_init_296 : decode (fx_cc mq_MO_init) 296 = .ok (.newarray .int, 2) := by decide +kernel
theorem dq_MO_init_298 : decode (fx_cc mq_MO_init) 298 = .ok (.putfield 123, 3) := by decide +kernel
theorem dq_MO_init_301 : decode (fx_cc mq_MO_init) 301 = .ok (.aload_n 0, 1) := by decide +kernel
theorem dq_MO_init_302 : decode (fx_cc mq_MO_init) 302 = .ok (.getfield 90, 3) := by decide +kernel
theorem dq_MO_init_305 : decode (fx_cc mq_MO_init) 305 = .ok (.iconst 0, 1) := by decide +kernel
theorem dq_MO_init_306 : decode (fx_cc mq_MO_init) 306 = .ok (.iconst (-1), 1) := by decide +kernel
theorem dq_MO_init_307 : decode (fx_cc mq_MO_init) 307 = .ok (.iastore, 1) := by decide +kernel
theorem dq_MO_init_308 : decode (fx_cc mq_MO_init) 308 = .ok (.aload_n 0, 1) := by decide +kernel
theorem dq_MO_init_309 : decode (fx_cc mq_MO_init) 309 = .ok (.getfield 90, 3) := by decide +kernel
theorem dq_MO_init_312 : decode (fx_cc mq_MO_init) 312 = .ok (.iconst 1, 1) := by decide +kernel
theorem dq_MO_init_313 : decode (fx_cc mq_MO_init) 313 = .ok (.iconst (-1), 1) := by decide +kernel
theorem dq_MO_init_314 : decode (fx_cc mq_MO_init) 314 = .ok (.iastore, 1) := by decide +kernel
theorem dq_MO_init_315 : decode (fx_cc mq_MO_init) 315 = .ok (.return_, 1) := by decide +kernel
theorem dq_MO_thrown_0 : decode (fx_cc mq_MO_thrown) 0 = .ok (.aload_n 0, 1) := by decide +kernel
theorem dq_MO_thrown_1 : decode (fx_cc mq_MO_thrown) 1 = .ok (.getfield 126, 3) := by decide +kernel
theorem dq_MO_thrown_4 : decode (fx_cc mq_MO_thrown) 4 = .ok (.ireturn, 1) := by decide +kernel
theorem dq_MO_surface_0 : decode (fx_cc mq_MO_surface) 0 = .ok (.aload_n 0, 1) := by decide +kernel
theorem dq_MO_surface_1 : decode (fx_cc mq_MO_surface) 1 = .ok (.iload_n 1, 1) := by decide +kernel
theorem dq_MO_surface_2 : decode (fx_cc mq_MO_surface) 2 = .ok (.iconst 0, 1) := by decide +kernel
theorem dq_MO_surface_3 : decode (fx_cc mq_MO_surface) 3 = .ok (.iconst 3, 1) := by decide +kernel
theorem dq_MO_surface_4 : decode (fx_cc mq_MO_surface) 4 = .ok (.invokestatic 129, 3) := by decide +kernel
theorem dq_MO_surface_7 : decode (fx_cc mq_MO_surface) 7 = .ok (.ifCond .eq 27, 3) := by decide +kernel
theorem dq_MO_surface_10 : decode (fx_cc mq_MO_surface) 10 = .ok (.iload_n 2, 1) := by decide +kernel
theorem dq_MO_surface_11 : decode (fx_cc mq_MO_surface) 11 = .ok (.iconst 1, 1) := by decide +kernel
theorem dq_MO_surface_12 : decode (fx_cc mq_MO_surface) 12 = .ok (.bipush 12, 2) := by decide +kernel
theorem dq_MO_surface_14 : decode (fx_cc mq_MO_surface) 14 = .ok (.invokestatic 129, 3) := by decide +kernel
theorem dq_MO_surface_17 : decode (fx_cc mq_MO_surface) 17 = .ok (.ifCond .eq 17, 3) := by decide +kernel
theorem dq_MO_surface_20 : decode (fx_cc mq_MO_surface) 20 = .ok (.iload_n 3, 1) := by decide +kernel
theorem dq_MO_surface_21 : decode (fx_cc mq_MO_surface) 21 = .ok (.iconst 1, 1) := by decide +kernel
theorem dq_MO_surface_22 : decode (fx_cc mq_MO_surface) 22 = .ok (.bipush 8, 2) := by decide +kernel
theorem dq_MO_surface_24 : decode (fx_cc mq_MO_surface) 24 = .ok (.invokestatic 129, 3) := by decide +kernel
theorem dq_MO_surface_27 : decode (fx_cc mq_MO_surface) 27 = .ok (.ifCond .eq 7, 3) := by decide +kernel
theorem dq_MO_surface_30 : decode (fx_cc mq_MO_surface) 30 = .ok (.iconst 0, 1) := by decide +kernel
theorem dq_MO_surface_31 : decode (fx_cc mq_MO_surface) 31 = .ok (.goto 4, 3) := by decide +kernel
theorem dq_MO_surface_34 : decode (fx_cc mq_MO_surface) 34 = .ok (.iconst 1, 1) := by decide +kernel
theorem dq_MO_surface_35 : decode (fx_cc mq_MO_surface) 35 = .ok (.putfield 126, 3) := by decide +kernel
theorem dq_MO_surface_38 : decode (fx_cc mq_MO_surface) 38 = .ok (.aload_n 0, 1) := by decide +kernel
theorem dq_MO_surface_39 : decode (fx_cc mq_MO_surface) 39 = .ok (.getfield 126, 3) := by decide +kernel
theorem dq_MO_surface_42 : decode (fx_cc mq_MO_surface) 42 = .ok (.ifCond .eq 5, 3) := by decide +kernel
theorem dq_MO_surface_45 : decode (fx_cc mq_MO_surface) 45 = .ok (.iconst 0, 1) := by decide +kernel
theorem dq_MO_surface_46 : decode (fx_cc mq_MO_surface) 46 = .ok (.ireturn, 1) := by decide +kernel
theorem dq_MO_surface_47 : decode (fx_cc mq_MO_surface) 47 = .ok (.iconst 0, 1) := by decide +kernel
theorem dq_MO_surface_48 : decode (fx_cc mq_MO_surface) 48 = .ok (.istore 4, 2) := by decide +kernel
theorem dq_MO_surface_50 : decode (fx_cc mq_MO_surface) 50 = .ok (.iload 4, 2) := by decide +kernel
theorem dq_MO_surface_52 : decode (fx_cc mq_MO_surface) 52 = .ok (.bipush 10, 2) := by decide +kernel
theorem dq_MO_surface_54 : decode (fx_cc mq_MO_surface) 54 = .ok (.if_icmp .ge 19, 3) := by decide +kernel
theorem dq_MO_surface_57 : decode (fx_cc mq_MO_surface) 57 = .ok (.aload_n 0, 1) := by decide +kernel
theorem dq_MO_surface_58 : decode (fx_cc mq_MO_surface) 58 = .ok (.getfield 7, 3) := by decide +kernel
theorem dq_MO_surface_61 : decode (fx_cc mq_MO_surface) 61 = .ok (.iload 4, 2) := by decide +kernel
theorem dq_MO_surface_63 : decode (fx_cc mq_MO_surface) 63 = .ok (.baload, 1) := by decide +kernel
theorem dq_MO_surface_64 : decode (fx_cc mq_MO_surface) 64 = .ok (.ifCond .eq 9, 3) := by decide +kernel
theorem dq_MO_surface_67 : decode (fx_cc mq_MO_surface) 67 = .ok (.iinc 4 1, 3) := by decide +kernel
theorem dq_MO_surface_70 : decode (fx_cc mq_MO_surface) 70 = .ok (.goto (-20), 3) := by decide +kernel
theorem dq_MO_surface_73 : decode (fx_cc mq_MO_surface) 73 = .ok (.iload 4, 2) := by decide +kernel
theorem dq_MO_surface_75 : decode (fx_cc mq_MO_surface) 75 = .ok (.bipush 10, 2) := by decide +kernel
theorem dq_MO_surface_77 : decode (fx_cc mq_MO_surface) 77 = .ok (.if_icmp .eq 13, 3) := by decide +kernel
theorem dq_MO_surface_80 : decode (fx_cc mq_MO_surface) 80 = .ok (.iload_n 2, 1) := by decide +kernel
theorem dq_MO_surface_81 : decode (fx_cc mq_MO_surface) 81 = .ok (.iload_n 3, 1) := by decide +kernel
theorem dq_MO_surface_82 : decode (fx_cc mq_MO_surface) 82 = .ok (.imul, 1) := by decide +kernel
theorem dq_MO_surface_83 : decode (fx_cc mq_MO_surface) 83 = .ok (.aload_n 0, 1) := by decide +kernel
theorem dq_MO_surface_84 : decode (fx_cc mq_MO_surface) 84 = .ok (.invokevirtual 133, 3) := by decide +kernel
theorem dq_MO_surface_87 : decode (fx_cc mq_MO_surface) 87 = .ok (.if_icmp .le 10, 3) := by decide +kernel
theorem dq_MO_surface_90 : decode (fx_cc mq_MO_surface) 90 = .ok (.aload_n 0, 1) := by decide +kernel
theorem dq_MO_surface_91 : decode (fx_cc mq_MO_surface) 91 = .ok (.iconst 2, 1) := by decide +kernel
theorem dq_MO_surface_92 : decode (fx_cc mq_MO_surface) 92 = .ok (.putfield 126, 3) := by decide +kernel
theorem dq_MO_surface_95 : decode (fx_cc mq_MO_surface) 95 = .ok (.iconst 0, 1) := by decide +kernel
theorem dq_MO_surface_96 : decode (fx_cc mq_MO_surface) 96 = .ok (.ireturn, 1) := by decide +kernel
theorem dq_MO_surface_97 : decode (fx_cc mq_MO_surface) 97 = .ok (.aload_n 0, 1) := by decide +kernel
theorem dq_MO_surface_98 : decode (fx_cc mq_MO_surface) 98 = .ok (.getfield 7, 3) := by decide +kernel
theorem dq_MO_surface_101 : decode (fx_cc mq_MO_surface) 101 = .ok (.iload 4, 2) := by decide +kernel
theorem dq_MO_surface_103 : decode (fx_cc mq_MO_surface) 103 = .ok (.iconst 1, 1) := by decide +kernel
theorem dq_MO_surface_104 : decode (fx_cc mq_MO_surface) 104 = .ok (.bastore, 1) := by decide +kernel
theorem dq_MO_surface_105 : decode (fx_cc mq_MO_surface) 105 = .ok (.aload_n 0, 1) := by decide +kernel
theorem dq_MO_surface_106 : decode (fx_cc mq_MO_surface) 106 = .ok (.getfield 13, 3) := by decide +kernel
theorem dq_MO_surface_109 : decode (fx_cc mq_MO_surface) 109 = .ok (.iload 4, 2) := by decide +kernel
theorem dq_MO_surface_111 : decode (fx_cc mq_MO_surface) 111 = .ok (.iload_n 1, 1) := by decide +kernel
theorem dq_MO_surface_112 : decode (fx_cc mq_MO_surface) 112 = .ok (.iastore, 1) := by decide +kernel
theorem dq_MO_surface_113 : decode (fx_cc mq_MO_surface) 113 = .ok (.aload_n 0, 1) := by decide +kernel
theorem dq_MO_surface_114 : decode (fx_cc mq_MO_surface) 114 = .ok (.getfield 17, 3) := by decide +kernel
theorem dq_MO_surface_117 : decode (fx_cc mq_MO_surface) 117 = .ok (.iload 4, 2) := by decide +kernel
theorem dq_MO_surface_119 : decode (fx_cc mq_MO_surface) 119 = .ok (.iload_n 2, 1) := by decide +kernel
theorem dq_MO_surface_120 : decode (fx_cc mq_MO_surface) 120 = .ok (.iastore, 1) := by decide +kernel
theorem dq_MO_surface_121 : decode (fx_cc mq_MO_surface) 121 = .ok (.aload_n 0, 1) := by decide +kernel
theorem dq_MO_surface_122 : decode (fx_cc mq_MO_surface) 122 = .ok (.getfield 20, 3) := by decide +kernel
theorem dq_MO_surface_125 : decode (fx_cc mq_MO_surface) 125 = .ok (.iload 4, 2) := by decide +kernel
theorem dq_MO_surface_127 : decode (fx_cc mq_MO_surface) 127 = .ok (.iload_n 3, 1) := by decide +kernel
theorem dq_MO_surface_128 : decode (fx_cc mq_MO_surface) 128 = .ok (.iastore, 1) := by decide +kernel
theorem dq_MO_surface_129 : decode (fx_cc mq_MO_surface) 129 = .ok (.aload_n 0, 1) := by decide +kernel
theorem dq_MO_surface_130 : decode (fx_cc mq_MO_surface) 130 = .ok (.getfield 23, 3) := by decide +kernel
theorem dq_MO_surface_133 : decode (fx_cc mq_MO_surface) 133 = .ok (.iload 4, 2) := by decide +kernel
theorem dq_MO_surface_135 : decode (fx_cc mq_MO_surface) 135 = .ok (.iconst 0, 1) := by decide +kernel
theorem dq_MO_surface_136 : decode (fx_cc mq_MO_surface) 136 = .ok (.bastore, 1) := by decide +kernel
theorem dq_MO_surface_137 : decode (fx_cc mq_MO_surface) 137 = .ok (.aload_n 0, 1) := by decide +kernel
theorem dq_MO_surface_138 : decode (fx_cc mq_MO_surface) 138 = .ok (.getfield 26, 3) := by decide +kernel
theorem dq_MO_surface_141 : decode (fx_cc mq_MO_surface) 141 = .ok (.iload 4, 2) := by decide +kernel
theorem dq_MO_surface_143 : decode (fx_cc mq_MO_surface) 143 = .ok (.iconst 0, 1) := by decide +kernel
theorem dq_MO_surface_144 : decode (fx_cc mq_MO_surface) 144 = .ok (.bastore, 1) := by decide +kernel
theorem dq_MO_surface_145 : decode (fx_cc mq_MO_surface) 145 = .ok (.aload_n 0, 1) := by decide +kernel
theorem dq_MO_surface_146 : decode (fx_cc mq_MO_surface) 146 = .ok (.getfield 29, 3) := by decide +kernel
theorem dq_MO_surface_149 : decode (fx_cc mq_MO_surface) 149 = .ok (.iload 4, 2) := by decide +kernel
theorem dq_MO_surface_151 : decode (fx_cc mq_MO_surface) 151 = .ok (.iconst 1, 1) := by decide +kernel
theorem dq_MO_surface_152 : decode (fx_cc mq_MO_surface) 152 = .ok (.bastore, 1) := by decide +kernel
theorem dq_MO_surface_153 : decode (fx_cc mq_MO_surface) 153 = .ok (.aload_n 0, 1) := by decide +kernel
theorem dq_MO_surface_154 : decode (fx_cc mq_MO_surface) 154 = .ok (.getfield 29, 3) := by decide +kernel
theorem dq_MO_surface_157 : decode (fx_cc mq_MO_surface) 157 = .ok (.bipush 10, 2) := by decide +kernel
theorem dq_MO_surface_159 : decode (fx_cc mq_MO_surface) 159 = .ok (.iload 4, 2) := by decide +kernel
theorem dq_MO_surface_161 : decode (fx_cc mq_MO_surface) 161 = .ok (.iadd, 1) := by decide +kernel
theorem dq_MO_surface_162 : decode (fx_cc mq_MO_surface) 162 = .ok (.iconst 0, 1) := by decide +kernel
theorem dq_MO_surface_163 : decode (fx_cc mq_MO_surface) 163 = .ok (.bastore, 1) := by decide +kernel
theorem dq_MO_surface_164 : decode (fx_cc mq_MO_surface) 164 = .ok (.aload_n 0, 1) := by decide +kernel
theorem dq_MO_surface_165 : decode (fx_cc mq_MO_surface) 165 = .ok (.getfield 29, 3) := by decide +kernel
theorem dq_MO_surface_168 : decode (fx_cc mq_MO_surface) 168 = .ok (.bipush 20, 2) := by decide +kernel
theorem dq_MO_surface_170 : decode (fx_cc mq_MO_surface) 170 = .ok (.iload 4, 2) := by decide +kernel
theorem dq_MO_surface_172 : decode (fx_cc mq_MO_surface) 172 = .ok (.iadd, 1) := by decide +kernel
theorem dq_MO_surface_173 : decode (fx_cc mq_MO_surface) 173 = .ok (.iconst 0, 1) := by decide +kernel
theorem dq_MO_surface_174 : decode (fx_cc mq_MO_surface) 174 = .ok (.bastore, 1) := by decide +kernel
theorem dq_MO_surface_175 : decode (fx_cc mq_MO_surface) 175 = .ok (.aload_n 0, 1) := by decide +kernel
theorem dq_MO_surface_176 : decode (fx_cc mq_MO_surface) 176 = .ok (.getfield 32, 3) := by decide +kernel
theorem dq_MO_surface_179 : decode (fx_cc mq_MO_surface) 179 = .ok (.iload 4, 2) := by decide +kernel
theorem dq_MO_surface_181 : decode (fx_cc mq_MO_surface) 181 = .ok (.iconst 0, 1) := by decide +kernel
theorem dq_MO_surface_182 : decode (fx_cc mq_MO_surface) 182 = .ok (.iastore, 1) := by decide +kernel
theorem dq_MO_surface_183 : decode (fx_cc mq_MO_surface) 183 = .ok (.aload_n 0, 1) := by decide +kernel
theorem dq_MO_surface_184 : decode (fx_cc mq_MO_surface) 184 = .ok (.getfield 35, 3) := by decide +kernel
theorem dq_MO_surface_187 : decode (fx_cc mq_MO_surface) 187 = .ok (.iload 4, 2) := by decide +kernel
theorem dq_MO_surface_189 : decode (fx_cc mq_MO_surface) 189 = .ok (.iconst 0, 1) := by decide +kernel
theorem dq_MO_surface_190 : decode (fx_cc mq_MO_surface) 190 = .ok (.iastore, 1) := by decide +kernel
theorem dq_MO_surface_191 : decode (fx_cc mq_MO_surface) 191 = .ok (.aload_n 0, 1) := by decide +kernel
theorem dq_MO_surface_192 : decode (fx_cc mq_MO_surface) 192 = .ok (.getfield 38, 3) := by decide +kernel
theorem dq_MO_surface_195 : decode (fx_cc mq_MO_surface) 195 = .ok (.iload 4, 2) := by decide +kernel
theorem dq_MO_surface_197 : decode (fx_cc mq_MO_surface) 197 = .ok (.iconst 0, 1) := by decide +kernel
theorem dq_MO_surface_198 : decode (fx_cc mq_MO_surface) 198 = .ok (.iastore, 1) := by decide +kernel
theorem dq_MO_surface_199 : decode (fx_cc mq_MO_surface) 199 = .ok (.aload_n 0, 1) := by decide +kernel
theorem dq_MO_surface_200 : decode (fx_cc mq_MO_surface) 200 = .ok (.getfield 41, 3) := by decide +kernel
theorem dq_MO_surface_203 : decode (fx_cc mq_MO_surface) 203 = .ok (.iload 4, 2) := by decide +kernel
theorem dq_MO_surface_205 : decode (fx_cc mq_MO_surface) 205 = .ok (.bipush 16, 2) := by decide +kernel
theorem dq_MO_surface_207 : decode (fx_cc mq_MO_surface) 207 = .ok (.iastore, 1) := by decide +kernel
theorem dq_MO_surface_208 : decode (fx_cc mq_MO_surface) 208 = .ok (.aload_n 0, 1) := by decide +kernel
theorem dq_MO_surface_209 : decode (fx_cc mq_MO_surface) 209 = .ok (.getfield 44, 3) := by decide +kernel
theorem dq_MO_surface_212 : decode (fx_cc mq_MO_surface) 212 = .ok (.iload 4, 2) := by decide +kernel
theorem dq_MO_surface_214 : decode (fx_cc mq_MO_surface) 214 = .ok (.iconst 0, 1) := by decide +kernel
theorem dq_MO_surface_215 : decode (fx_cc mq_MO_surface) 215 = .ok (.bastore, 1) := by decide +kernel
theorem dq_MO_surface_216 : decode (fx_cc mq_MO_surface) 216 = .ok (.aload_n 0, 1) := by decide +kernel
theorem dq_MO_surface_217 : decode (fx_cc mq_MO_surface) 217 = .ok (.getfield 47, 3) := by decide +kernel
theorem dq_MO_surface_220 : decode (fx_cc mq_MO_surface) 220 = .ok (.iload 4, 2) := by decide +kernel
theorem dq_MO_surface_222 : decode (fx_cc mq_MO_surface) 222 = .ok (.iconst 0, 1) := by decide +kernel
theorem dq_MO_surface_223 : decode (fx_cc mq_MO_surface) 223 = .ok (.iastore, 1) := by decide +kernel
theorem dq_MO_surface_224 : decode (fx_cc mq_MO_surface) 224 = .ok (.aload_n 0, 1) := by decide +kernel
theorem dq_MO_surface_225 : decode (fx_cc mq_MO_surface) 225 = .ok (.getfield 50, 3) := by decide +kernel
theorem dq_MO_surface_228 : decode (fx_cc mq_MO_surface) 228 = .ok (.iload 4, 2) := by decide +kernel
theorem dq_MO_surface_230 : decode (fx_cc mq_MO_surface) 230 = .ok (.iconst 0, 1) := by decide +kernel
theorem dq_MO_surface_231 : decode (fx_cc mq_MO_surface) 231 = .ok (.iastore, 1) := by decide +kernel
theorem dq_MO_surface_232 : decode (fx_cc mq_MO_surface) 232 = .ok (.aload_n 0, 1) := by decide +kernel
theorem dq_MO_surface_233 : decode (fx_cc mq_MO_surface) 233 = .ok (.getfield 53, 3) := by decide +kernel
theorem dq_MO_surface_236 : decode (fx_cc mq_MO_surface) 236 = .ok (.iload 4, 2) := by decide +kernel
theorem dq_MO_surface_238 : decode (fx_cc mq_MO_surface) 238 = .ok (.iload_n 2, 1) := by decide +kernel
theorem dq_MO_surface_239 : decode (fx_cc mq_MO_surface) 239 = .ok (.iastore, 1) := by decide +kernel
theorem dq_MO_surface_240 : decode (fx_cc mq_MO_surface) 240 = .ok (.aload_n 0, 1) := by decide +kernel
theorem dq_MO_surface_241 : decode (fx_cc mq_MO_surface) 241 = .ok (.getfield 56, 3) := by decide +kernel
theorem dq_MO_surface_244 : decode (fx_cc mq_MO_surface) 244 = .ok (.iload 4, 2) := by decide +kernel
theorem dq_MO_surface_246 : decode (fx_cc mq_MO_surface) 246 = .ok (.iload_n 3, 1) := by decide +kernel
theorem dq_MO_surface_247 : decode (fx_cc mq_MO_surface) 247 = .ok (.iastore, 1) := by decide +kernel
theorem dq_MO_surface_248 : decode (fx_cc mq_MO_surface) 248 = .ok (.iconst 0, 1) := by decide +kernel
theorem dq_MO_surface_249 : decode (fx_cc mq_MO_surface) 249 = .ok (.istore 5, 2) := by decide +kernel
theorem dq_MO_surface_251 : decode (fx_cc mq_MO_surface) 251 = .ok (.iload 5, 2) := by decide +kernel
theorem dq_MO_surface_253 : decode (fx_cc mq_MO_surface) 253 = .ok (.bipush 96, 2) := by decide +kernel
theorem dq_MO_surface_255 : decode (fx_cc mq_MO_surface) 255 = .ok (.if_icmp .ge 23, 3) := by decide +kernel
theorem dq_MO_surface_258 : decode (fx_cc mq_MO_surface) 258 = .ok (.aload_n 0, 1) := by decide +kernel
theorem dq_MO_surface_259 : decode (fx_cc mq_MO_surface) 259 = .ok (.getfield 59, 3) := by decide +kernel
theorem dq_MO_surface_262 : decode (fx_cc mq_MO_surface) 262 = .ok (.bipush 96, 2) := by decide +kernel
theorem dq_MO_surface_264 : decode (fx_cc mq_MO_surface) 264 = .ok (.iload 4, 2) := by decide +kernel
theorem dq_MO_surface_266 : decode (fx_cc mq_MO_surface) 266 = .ok (.imul, 1) := by decide +kernel
theorem dq_MO_surface_267 : decode (fx_cc mq_MO_surface) 267 = .ok (.iload 5, 2) := by decide +kernel
theorem dq_MO_surface_269 : decode (fx_cc mq_MO_surface) 269 = .ok (.iadd, 1) := by decide +kernel
theorem dq_MO_surface_270 : decode (fx_cc mq_MO_surface) 270 = .ok (.iconst 0, 1) := by decide +kernel
theorem dq_MO_surface_271 : decode (fx_cc mq_MO_surface) 271 = .ok (.iastore, 1) := by decide +kernel
theorem dq_MO_surface_272 : decode (fx_cc mq_MO_surface) 272 = .ok (.iinc 5 1, 3) := by decide +kernel
theorem dq_MO_surface_275 : decode (fx_cc mq_MO_surface) 275 = .ok (.goto (-24), 3) := by decide +kernel
theorem dq_MO_surface_278 : decode (fx_cc mq_MO_surface) 278 = .ok (.iload 4, 2) := by decide +kernel
theorem dq_MO_surface_280 : decode (fx_cc mq_MO_surface) 280 = .ok (.ireturn, 1) := by decide +kernel
theorem dq_MO_within_0 : decode (fx_cc mq_MO_within) 0 = .ok (.iload_n 0, 1) := by decide +kernel
theorem dq_MO_within_1 : decode (fx_cc mq_MO_within) 1 = .ok (.iload_n 1, 1) := by decide +kernel
theorem dq_MO_within_2 : decode (fx_cc mq_MO_within) 2 = .ok (.if_icmp .lt 12, 3) := by decide +kernel
theorem dq_MO_within_5 : decode (fx_cc mq_MO_within) 5 = .ok (.iload_n 0, 1) := by decide +kernel
theorem dq_MO_within_6 : decode (fx_cc mq_MO_within) 6 = .ok (.iload_n 2, 1) := by decide +kernel
theorem dq_MO_within_7 : decode (fx_cc mq_MO_within) 7 = .ok (.if_icmp .gt 7, 3) := by decide +kernel
theorem dq_MO_within_10 : decode (fx_cc mq_MO_within) 10 = .ok (.iconst 1, 1) := by decide +kernel
theorem dq_MO_within_11 : decode (fx_cc mq_MO_within) 11 = .ok (.goto 4, 3) := by decide +kernel
theorem dq_MO_within_14 : decode (fx_cc mq_MO_within) 14 = .ok (.iconst 0, 1) := by decide +kernel
theorem dq_MO_within_15 : decode (fx_cc mq_MO_within) 15 = .ok (.ireturn, 1) := by decide +kernel
theorem dq_MO_freePixels_0 : decode (fx_cc mq_MO_freePixels) 0 = .ok (.sipush 300, 3) := by decide +kernel
theorem dq_MO_freePixels_3 : decode (fx_cc mq_MO_freePixels) 3 = .ok (.istore_n 1, 1) := by decide +kernel
theorem dq_MO_freePixels_4 : decode (fx_cc mq_MO_freePixels) 4 = .ok (.iconst 0, 1) := by decide +kernel
theorem dq_MO_freePixels_5 : decode (fx_cc mq_MO_freePixels) 5 = .ok (.istore_n 2, 1) := by decide +kernel
theorem dq_MO_freePixels_6 : decode (fx_cc mq_MO_freePixels) 6 = .ok (.iload_n 2, 1) := by decide +kernel
theorem dq_MO_freePixels_7 : decode (fx_cc mq_MO_freePixels) 7 = .ok (.bipush 10, 2) := by decide +kernel
theorem dq_MO_freePixels_9 : decode (fx_cc mq_MO_freePixels) 9 = .ok (.if_icmp .ge 38, 3) := by decide +kernel
theorem dq_MO_freePixels_12 : decode (fx_cc mq_MO_freePixels) 12 = .ok (.iload_n 1, 1) := by decide +kernel
theorem dq_MO_freePixels_13 : decode (fx_cc mq_MO_freePixels) 13 = .ok (.aload_n 0, 1) := by decide +kernel
theorem dq_MO_freePixels_14 : decode (fx_cc mq_MO_freePixels) 14 = .ok (.getfield 7, 3) := by decide +kernel
theorem dq_MO_freePixels_17 : decode (fx_cc mq_MO_freePixels) 17 = .ok (.iload_n 2, 1) := by decide +kernel
theorem dq_MO_freePixels_18 : decode (fx_cc mq_MO_freePixels) 18 = .ok (.baload, 1) := by decide +kernel
theorem dq_MO_freePixels_19 : decode (fx_cc mq_MO_freePixels) 19 = .ok (.ifCond .eq 19, 3) := by decide +kernel
theorem dq_MO_freePixels_22 : decode (fx_cc mq_MO_freePixels) 22 = .ok (.aload_n 0, 1) := by decide +kernel
theorem dq_MO_freePixels_23 : decode (fx_cc mq_MO_freePixels) 23 = .ok (.getfield 17, 3) := by decide +kernel
theorem dq_MO_freePixels_26 : decode (fx_cc mq_MO_freePixels) 26 = .ok (.iload_n 2, 1) := by decide +kernel
theorem dq_MO_freePixels_27 : decode (fx_cc mq_MO_freePixels) 27 = .ok (.iaload, 1) := by decide +kernel
theorem dq_MO_freePixels_28 : decode (fx_cc mq_MO_freePixels) 28 = .ok (.aload_n 0, 1) := by decide +kernel
theorem dq_MO_freePixels_29 : decode (fx_cc mq_MO_freePixels) 29 = .ok (.getfield 20, 3) := by decide +kernel
theorem dq_MO_freePixels_32 : decode (fx_cc mq_MO_freePixels) 32 = .ok (.iload_n 2, 1) := by decide +kernel
theorem dq_MO_freePixels_33 : decode (fx_cc mq_MO_freePixels) 33 = .ok (.iaload, 1) := by decide +kernel
theorem dq_MO_freePixels_34 : decode (fx_cc mq_MO_freePixels) 34 = .ok (.imul, 1) := by decide +kernel
theorem dq_MO_freePixels_35 : decode (fx_cc mq_MO_freePixels) 35 = .ok (.goto 4, 3) := by decide +kernel
theorem dq_MO_freePixels_38 : decode (fx_cc mq_MO_freePixels) 38 = .ok (.iconst 0, 1) := by decide +kernel
theorem dq_MO_freePixels_39 : decode (fx_cc mq_MO_freePixels) 39 = .ok (.isub, 1) := by decide +kernel
theorem dq_MO_freePixels_40 : decode (fx_cc mq_MO_freePixels) 40 = .ok (.istore_n 1, 1) := by decide +kernel
theorem dq_MO_freePixels_41 : decode (fx_cc mq_MO_freePixels) 41 = .ok (.iinc 2 1, 3) := by decide +kernel
theorem dq_MO_freePixels_44 : decode (fx_cc mq_MO_freePixels) 44 = .ok (.goto (-38), 3) := by decide +kernel
theorem dq_MO_freePixels_47 : decode (fx_cc mq_MO_freePixels) 47 = .ok (.iload_n 1, 1) := by decide +kernel
theorem dq_MO_freePixels_48 : decode (fx_cc mq_MO_freePixels) 48 = .ok (.ireturn, 1) := by decide +kernel
theorem dq_MO_destroy_0 : decode (fx_cc mq_MO_destroy) 0 = .ok (.aload_n 0, 1) := by decide +kernel
theorem dq_MO_destroy_1 : decode (fx_cc mq_MO_destroy) 1 = .ok (.aload_n 0, 1) := by decide +kernel
theorem dq_MO_destroy_2 : decode (fx_cc mq_MO_destroy) 2 = .ok (.iload_n 1, 1) := by decide +kernel
theorem dq_MO_destroy_3 : decode (fx_cc mq_MO_destroy) 3 = .ok (.invokevirtual 137, 3) := by decide +kernel
theorem dq_MO_destroy_6 : decode (fx_cc mq_MO_destroy) 6 = .ok (.ifCond .eq 7, 3) := by decide +kernel
theorem dq_MO_destroy_9 : decode (fx_cc mq_MO_destroy) 9 = .ok (.iconst 0, 1) := by decide +kernel
theorem dq_MO_destroy_10 : decode (fx_cc mq_MO_destroy) 10 = .ok (.goto 4, 3) := by decide +kernel
theorem dq_MO_destroy_13 : decode (fx_cc mq_MO_destroy) 13 = .ok (.iconst 1, 1) := by decide +kernel
theorem dq_MO_destroy_14 : decode (fx_cc mq_MO_destroy) 14 = .ok (.putfield 126, 3) := by decide +kernel
theorem dq_MO_destroy_17 : decode (fx_cc mq_MO_destroy) 17 = .ok (.aload_n 0, 1) := by decide +kernel
theorem dq_MO_destroy_18 : decode (fx_cc mq_MO_destroy) 18 = .ok (.getfield 126, 3) := by decide +kernel
theorem dq_MO_destroy_21 : decode (fx_cc mq_MO_destroy) 21 = .ok (.ifCond .eq 4, 3) := by decide +kernel
theorem dq_MO_destroy_24 : decode (fx_cc mq_MO_destroy) 24 = .ok (.return_, 1) := by decide +kernel
theorem dq_MO_destroy_25 : decode (fx_cc mq_MO_destroy) 25 = .ok (.aload_n 0, 1) := by decide +kernel
theorem dq_MO_destroy_26 : decode (fx_cc mq_MO_destroy) 26 = .ok (.getfield 29, 3) := by decide +kernel
theorem dq_MO_destroy_29 : decode (fx_cc mq_MO_destroy) 29 = .ok (.iload_n 1, 1) := by decide +kernel
theorem dq_MO_destroy_30 : decode (fx_cc mq_MO_destroy) 30 = .ok (.iconst 0, 1) := by decide +kernel
theorem dq_MO_destroy_31 : decode (fx_cc mq_MO_destroy) 31 = .ok (.bastore, 1) := by decide +kernel
theorem dq_MO_destroy_32 : decode (fx_cc mq_MO_destroy) 32 = .ok (.aload_n 0, 1) := by decide +kernel
theorem dq_MO_destroy_33 : decode (fx_cc mq_MO_destroy) 33 = .ok (.getfield 23, 3) := by decide +kernel
theorem dq_MO_destroy_36 : decode (fx_cc mq_MO_destroy) 36 = .ok (.iload_n 1, 1) := by decide +kernel
theorem dq_MO_destroy_37 : decode (fx_cc mq_MO_destroy) 37 = .ok (.iconst 1, 1) := by decide +kernel
theorem dq_MO_destroy_38 : decode (fx_cc mq_MO_destroy) 38 = .ok (.bastore, 1) := by decide +kernel
theorem dq_MO_destroy_39 : decode (fx_cc mq_MO_destroy) 39 = .ok (.return_, 1) := by decide +kernel
theorem dq_MO_hasDraft_0 : decode (fx_cc mq_MO_hasDraft) 0 = .ok (.iload_n 1, 1) := by decide +kernel
theorem dq_MO_hasDraft_1 : decode (fx_cc mq_MO_hasDraft) 1 = .ok (.ifCond .lt 31, 3) := by decide +kernel
theorem dq_MO_hasDraft_4 : decode (fx_cc mq_MO_hasDraft) 4 = .ok (.iload_n 1, 1) := by decide +kernel
theorem dq_MO_hasDraft_5 : decode (fx_cc mq_MO_hasDraft) 5 = .ok (.bipush 10, 2) := by decide +kernel
theorem dq_MO_hasDraft_7 : decode (fx_cc mq_MO_hasDraft) 7 = .ok (.if_icmp .ge 25, 3) := by decide +kernel
theorem dq_MO_hasDraft_10 : decode (fx_cc mq_MO_hasDraft) 10 = .ok (.aload_n 0, 1) := by decide +kernel
theorem dq_MO_hasDraft_11 : decode (fx_cc mq_MO_hasDraft) 11 = .ok (.getfield 7, 3) := by decide +kernel
theorem dq_MO_hasDraft_14 : decode (fx_cc mq_MO_hasDraft) 14 = .ok (.iload_n 1, 1) := by decide +kernel
theorem dq_MO_hasDraft_15 : decode (fx_cc mq_MO_hasDraft) 15 = .ok (.baload, 1) := by decide +kernel
theorem dq_MO_hasDraft_16 : decode (fx_cc mq_MO_hasDraft) 16 = .ok (.ifCond .eq 16, 3) := by decide +kernel
theorem dq_MO_hasDraft_19 : decode (fx_cc mq_MO_hasDraft) 19 = .ok (.aload_n 0, 1) := by decide +kernel
theorem dq_MO_hasDraft_20 : decode (fx_cc mq_MO_hasDraft) 20 = .ok (.getfield 29, 3) := by decide +kernel
theorem dq_MO_hasDraft_23 : decode (fx_cc mq_MO_hasDraft) 23 = .ok (.iload_n 1, 1) := by decide +kernel
theorem dq_MO_hasDraft_24 : decode (fx_cc mq_MO_hasDraft) 24 = .ok (.baload, 1) := by decide +kernel
theorem dq_MO_hasDraft_25 : decode (fx_cc mq_MO_hasDraft) 25 = .ok (.ifCond .eq 7, 3) := by decide +kernel
theorem dq_MO_hasDraft_28 : decode (fx_cc mq_MO_hasDraft) 28 = .ok (.iconst 1, 1) := by decide +kernel
theorem dq_MO_hasDraft_29 : decode (fx_cc mq_MO_hasDraft) 29 = .ok (.goto 4, 3) := by decide +kernel
theorem dq_MO_hasDraft_32 : decode (fx_cc mq_MO_hasDraft) 32 = .ok (.iconst 0, 1) := by decide +kernel
theorem dq_MO_hasDraft_33 : decode (fx_cc mq_MO_hasDraft) 33 = .ok (.ireturn, 1) := by decide +kernel
theorem dq_MO_place_0 : decode (fx_cc mq_MO_place) 0 = .ok (.aload_n 0, 1) := by decide +kernel
theorem dq_MO_place_1 : decode (fx_cc mq_MO_place) 1 = .ok (.aload_n 0, 1) := by decide +kernel
theorem dq_MO_place_2 : decode (fx_cc mq_MO_place) 2 = .ok (.iload_n 1, 1) := by decide +kernel
theorem dq_MO_place_3 : decode (fx_cc mq_MO_place) 3 = .ok (.invokevirtual 137, 3) := by decide +kernel
theorem dq_MO_place_6 : decode (fx_cc mq_MO_place) 6 = .ok (.ifCond .eq 51, 3) := by decide +kernel
theorem dq_MO_place_9 : decode (fx_cc mq_MO_place) 9 = .ok (.iload_n 2, 1) := by decide +kernel
theorem dq_MO_place_10 : decode (fx_cc mq_MO_place) 10 = .ok (.bipush (-20), 2) := by decide +kernel
theorem dq_MO_place_12 : decode (fx_cc mq_MO_place) 12 = .ok (.bipush 30, 2) := by decide +kernel
theorem dq_MO_place_14 : decode (fx_cc mq_MO_place) 14 = .ok (.invokestatic 129, 3) := by decide +kernel
theorem dq_MO_place_17 : decode (fx_cc mq_MO_place) 17 = .ok (.ifCond .eq 40, 3) := by decide +kernel
theorem dq_MO_place_20 : decode (fx_cc mq_MO_place) 20 = .ok (.iload_n 3, 1) := by decide +kernel
theorem dq_MO_place_21 : decode (fx_cc mq_MO_place) 21 = .ok (.bipush (-20), 2) := by decide +kernel
theorem dq_MO_place_23 : decode (fx_cc mq_MO_place) 23 = .ok (.bipush 30, 2) := by decide +kernel
theorem dq_MO_place_25 : decode (fx_cc mq_MO_place) 25 = .ok (.invokestatic 129, 3) := by decide +kernel
theorem dq_MO_place_28 : decode (fx_cc mq_MO_place) 28 = .ok (.ifCond .eq 29, 3) := by decide +kernel
theorem dq_MO_place_31 : decode (fx_cc mq_MO_place) 31 = .ok (.iload 4, 2) := by decide +kernel
theorem dq_MO_place_33 : decode (fx_cc mq_MO_place) 33 = .ok (.iconst 0, 1) := by decide +kernel
theorem dq_MO_place_34 : decode (fx_cc mq_MO_place) 34 = .ok (.bipush 9, 2) := by decide +kernel
theorem dq_MO_place_36 : decode (fx_cc mq_MO_place) 36 = .ok (.invokestatic 129, 3) := by decide +kernel
theorem dq_MO_place_39 : decode (fx_cc mq_MO_place) 39 = .ok (.ifCond .eq 18, 3) := by decide +kernel
theorem dq_MO_place_42 : decode (fx_cc mq_MO_place) 42 = .ok (.iload 5, 2) := by decide +kernel
theorem dq_MO_place_44 : decode (fx_cc mq_MO_place) 44 = .ok (.iconst 0, 1) := by decide +kernel
theorem dq_MO_place_45 : decode (fx_cc mq_MO_place) 45 = .ok (.bipush 16, 2) := by decide +kernel
theorem dq_MO_place_47 : decode (fx_cc mq_MO_place) 47 = .ok (.invokestatic 129, 3) := by decide +kernel
theorem dq_MO_place_50 : decode (fx_cc mq_MO_place) 50 = .ok (.ifCond .eq 7, 3) := by decide +kernel
theorem dq_MO_place_53 : decode (fx_cc mq_MO_place) 53 = .ok (.iconst 0, 1) := by decide +kernel
theorem dq_MO_place_54 : decode (fx_cc mq_MO_place) 54 = .ok (.goto 4, 3) := by decide +kernel
theorem dq_MO_place_57 : decode (fx_cc mq_MO_place) 57 = .ok (.iconst 1, 1) := by decide +kernel
theorem dq_MO_place_58 : decode (fx_cc mq_MO_place) 58 = .ok (.putfield 126, 3) := by decide +kernel
theorem dq_MO_place_61 : decode (fx_cc mq_MO_place) 61 = .ok (.aload_n 0, 1) := by decide +kernel
theorem dq_MO_place_62 : decode (fx_cc mq_MO_place) 62 = .ok (.getfield 126, 3) := by decide +kernel
theorem dq_MO_place_65 : decode (fx_cc mq_MO_place) 65 = .ok (.ifCond .eq 4, 3) := by decide +kernel
theorem dq_MO_place_68 : decode (fx_cc mq_MO_place) 68 = .ok (.return_, 1) := by decide +kernel
theorem dq_MO_place_69 : decode (fx_cc mq_MO_place) 69 = .ok (.aload_n 0, 1) := by decide +kernel
theorem dq_MO_place_70 : decode (fx_cc mq_MO_place) 70 = .ok (.getfield 32, 3) := by decide +kernel
theorem dq_MO_place_73 : decode (fx_cc mq_MO_place) 73 = .ok (.iload_n 1, 1) := by decide +kernel
theorem dq_MO_place_74 : decode (fx_cc mq_MO_place) 74 = .ok (.iload_n 2, 1) := by decide +kernel
theorem dq_MO_place_75 : decode (fx_cc mq_MO_place) 75 = .ok (.iastore, 1) := by decide +kernel
theorem dq_MO_place_76 : decode (fx_cc mq_MO_place) 76 = .ok (.aload_n 0, 1) := by decide +kernel
theorem dq_MO_place_77 : decode (fx_cc mq_MO_place) 77 = .ok (.getfield 35, 3) := by decide +kernel
theorem dq_MO_place_80 : decode (fx_cc mq_MO_place) 80 = .ok (.iload_n 1, 1) := by decide +kernel
theorem dq_MO_place_81 : decode (fx_cc mq_MO_place) 81 = .ok (.iload_n 3, 1) := by decide +kernel
theorem dq_MO_place_82 : decode (fx_cc mq_MO_place) 82 = .ok (.iastore, 1) := by decide +kernel
theorem dq_MO_place_83 : decode (fx_cc mq_MO_place) 83 = .ok (.aload_n 0, 1) := by decide +kernel
theorem dq_MO_place_84 : decode (fx_cc mq_MO_place) 84 = .ok (.getfield 38, 3) := by decide +kernel
theorem dq_MO_place_87 : decode (fx_cc mq_MO_place) 87 = .ok (.iload_n 1, 1) := by decide +kernel
theorem dq_MO_place_88 : decode (fx_cc mq_MO_place) 88 = .ok (.iload 4, 2) := by decide +kernel
theorem dq_MO_place_90 : decode (fx_cc mq_MO_place) 90 = .ok (.iastore, 1) := by decide +kernel
theorem dq_MO_place_91 : decode (fx_cc mq_MO_place) 91 = .ok (.aload_n 0, 1) := by decide +kernel
theorem dq_MO_place_92 : decode (fx_cc mq_MO_place) 92 = .ok (.getfield 41, 3) := by decide +kernel
theorem dq_MO_place_95 : decode (fx_cc mq_MO_place) 95 = .ok (.iload_n 1, 1) := by decide +kernel
theorem dq_MO_place_96 : decode (fx_cc mq_MO_place) 96 = .ok (.iload 5, 2) := by decide +kernel
theorem dq_MO_place_98 : decode (fx_cc mq_MO_place) 98 = .ok (.iastore, 1) := by decide +kernel
theorem dq_MO_place_99 : decode (fx_cc mq_MO_place) 99 = .ok (.aload_n 0, 1) := by decide +kernel
theorem dq_MO_place_100 : decode (fx_cc mq_MO_place) 100 = .ok (.getfield 44, 3) := by decide +kernel
theorem dq_MO_place_103 : decode (fx_cc mq_MO_place) 103 = .ok (.iload_n 1, 1) := by decide +kernel
theorem dq_MO_place_104 : decode (fx_cc mq_MO_place) 104 = .ok (.iload 6, 2) := by decide +kernel
theorem dq_MO_place_106 : decode (fx_cc mq_MO_place) 106 = .ok (.bastore, 1) := by decide +kernel
theorem dq_MO_place_107 : decode (fx_cc mq_MO_place) 107 = .ok (.return_, 1) := by decide +kernel
theorem dq_MO_clip_0 : decode (fx_cc mq_MO_clip) 0 = .ok (.aload_n 0, 1) := by decide +kernel
theorem dq_MO_clip_1 : decode (fx_cc mq_MO_clip) 1 = .ok (.aload_n 0, 1) := by decide +kernel
theorem dq_MO_clip_2 : decode (fx_cc mq_MO_clip) 2 = .ok (.iload_n 1, 1) := by decide +kernel
theorem dq_MO_clip_3 : decode (fx_cc mq_MO_clip) 3 = .ok (.invokevirtual 137, 3) := by decide +kernel
theorem dq_MO_clip_6 : decode (fx_cc mq_MO_clip) 6 = .ok (.ifCond .eq 19, 3) := by decide +kernel
theorem dq_MO_clip_9 : decode (fx_cc mq_MO_clip) 9 = .ok (.iload_n 2, 1) := by decide +kernel
theorem dq_MO_clip_10 : decode (fx_cc mq_MO_clip) 10 = .ok (.iload_n 3, 1) := by decide +kernel
theorem dq_MO_clip_11 : decode (fx_cc mq_MO_clip) 11 = .ok (.iload 4, 2) := by decide +kernel
theorem dq_MO_clip_13 : decode (fx_cc mq_MO_clip) 13 = .ok (.iload 5, 2) := by decide +kernel
theorem dq_MO_clip_15 : decode (fx_cc mq_MO_clip) 15 = .ok (.invokestatic 153, 3) := by decide +kernel
theorem dq_MO_clip_18 : decode (fx_cc mq_MO_clip) 18 = .ok (.ifCond .eq 7, 3) := by decide +kernel
theorem dq_MO_clip_21 : decode (fx_cc mq_MO_clip) 21 = .ok (.iconst 0, 1) := by decide +kernel
theorem dq_MO_clip_22 : decode (fx_cc mq_MO_clip) 22 = .ok (.goto 4, 3) := by decide +kernel
theorem dq_MO_clip_25 : decode (fx_cc mq_MO_clip) 25 = .ok (.iconst 1, 1) := by decide +kernel
theorem dq_MO_clip_26 : decode (fx_cc mq_MO_clip) 26 = .ok (.putfield 126, 3) := by decide +kernel
theorem dq_MO_clip_29 : decode (fx_cc mq_MO_clip) 29 = .ok (.aload_n 0, 1) := by decide +kernel
theorem dq_MO_clip_30 : decode (fx_cc mq_MO_clip) 30 = .ok (.getfield 126, 3) := by decide +kernel
theorem dq_MO_clip_33 : decode (fx_cc mq_MO_clip) 33 = .ok (.ifCond .eq 4, 3) := by decide +kernel
theorem dq_MO_clip_36 : decode (fx_cc mq_MO_clip) 36 = .ok (.return_, 1) := by decide +kernel
theorem dq_MO_clip_37 : decode (fx_cc mq_MO_clip) 37 = .ok (.iload_n 2, 1) := by decide +kernel
theorem dq_MO_clip_38 : decode (fx_cc mq_MO_clip) 38 = .ok (.iload 4, 2) := by decide +kernel
theorem dq_MO_clip_40 : decode (fx_cc mq_MO_clip) 40 = .ok (.iadd, 1) := by decide +kernel
theorem dq_MO_clip_41 : decode (fx_cc mq_MO_clip) 41 = .ok (.aload_n 0, 1) := by decide +kernel
theorem dq_MO_clip_42 : decode (fx_cc mq_MO_clip) 42 = .ok (.getfield 17, 3) := by decide +kernel
theorem dq_MO_clip_45 : decode (fx_cc mq_MO_clip) 45 = .ok (.iload_n 1, 1) := by decide +kernel
theorem dq_MO_clip_46 : decode (fx_cc mq_MO_clip) 46 = .ok (.iaload, 1) := by decide +kernel
theorem dq_MO_clip_47 : decode (fx_cc mq_MO_clip) 47 = .ok (.if_icmp .ge 10, 3) := by decide +kernel
theorem dq_MO_clip_50 : decode (fx_cc mq_MO_clip) 50 = .ok (.iload_n 2, 1) := by decide +kernel
theorem dq_MO_clip_51 : decode (fx_cc mq_MO_clip) 51 = .ok (.iload 4, 2) := by decide +kernel
theorem dq_MO_clip_53 : decode (fx_cc mq_MO_clip) 53 = .ok (.iadd, 1) := by decide +kernel
theorem dq_MO_clip_54 : decode (fx_cc mq_MO_clip) 54 = .ok (.goto 9, 3) := by decide +kernel
theorem dq_MO_clip_57 : decode (fx_cc mq_MO_clip) 57 = .ok (.aload_n 0, 1) := by decide +kernel
theorem dq_MO_clip_58 : decode (fx_cc mq_MO_clip) 58 = .ok (.getfield 17, 3) := by decide +kernel
theorem dq_MO_clip_61 : decode (fx_cc mq_MO_clip) 61 = .ok (.iload_n 1, 1) := by decide +kernel
theorem dq_MO_clip_62 : decode (fx_cc mq_MO_clip) 62 = .ok (.iaload, 1) := by decide +kernel
theorem dq_MO_clip_63 : decode (fx_cc mq_MO_clip) 63 = .ok (.istore 6, 2) := by decide +kernel
theorem dq_MO_clip_65 : decode (fx_cc mq_MO_clip) 65 = .ok (.iload_n 3, 1) := by decide +kernel
theorem dq_MO_clip_66 : decode (fx_cc mq_MO_clip) 66 = .ok (.iload 5, 2) := by decide +kernel
theorem dq_MO_clip_68 : decode (fx_cc mq_MO_clip) 68 = .ok (.iadd, 1) := by decide +kernel
theorem dq_MO_clip_69 : decode (fx_cc mq_MO_clip) 69 = .ok (.aload_n 0, 1) := by decide +kernel
theorem dq_MO_clip_70 : decode (fx_cc mq_MO_clip) 70 = .ok (.getfield 20, 3) := by decide +kernel
theorem dq_MO_clip_73 : decode (fx_cc mq_MO_clip) 73 = .ok (.iload_n 1, 1) := by decide +kernel
theorem dq_MO_clip_74 : decode (fx_cc mq_MO_clip) 74 = .ok (.iaload, 1) := by decide +kernel
theorem dq_MO_clip_75 : decode (fx_cc mq_MO_clip) 75 = .ok (.if_icmp .ge 10, 3) := by decide +kernel
theorem dq_MO_clip_78 : decode (fx_cc mq_MO_clip) 78 = .ok (.iload_n 3, 1) := by decide +kernel
theorem dq_MO_clip_79 : decode (fx_cc mq_MO_clip) 79 = .ok (.iload 5, 2) := by decide +kernel
theorem dq_MO_clip_81 : decode (fx_cc mq_MO_clip) 81 = .ok (.iadd, 1) := by decide +kernel
theorem dq_MO_clip_82 : decode (fx_cc mq_MO_clip) 82 = .ok (.goto 9, 3) := by decide +kernel
theorem dq_MO_clip_85 : decode (fx_cc mq_MO_clip) 85 = .ok (.aload_n 0, 1) := by decide +kernel
theorem dq_MO_clip_86 : decode (fx_cc mq_MO_clip) 86 = .ok (.getfield 20, 3) := by decide +kernel
theorem dq_MO_clip_89 : decode (fx_cc mq_MO_clip) 89 = .ok (.iload_n 1, 1) := by decide +kernel
theorem dq_MO_clip_90 : decode (fx_cc mq_MO_clip) 90 = .ok (.iaload, 1) := by decide +kernel
theorem dq_MO_clip_91 : decode (fx_cc mq_MO_clip) 91 = .ok (.istore 7, 2) := by decide +kernel
theorem dq_MO_clip_93 : decode (fx_cc mq_MO_clip) 93 = .ok (.aload_n 0, 1) := by decide +kernel
theorem dq_MO_clip_94 : decode (fx_cc mq_MO_clip) 94 = .ok (.getfield 47, 3) := by decide +kernel
theorem dq_MO_clip_97 : decode (fx_cc mq_MO_clip) 97 = .ok (.iload_n 1, 1) := by decide +kernel
theorem dq_MO_clip_98 : decode (fx_cc mq_MO_clip) 98 = .ok (.iload_n 2, 1) := by decide +kernel
theorem dq_MO_clip_99 : decode (fx_cc mq_MO_clip) 99 = .ok (.ifCond .le 7, 3) := by decide +kernel
theorem dq_MO_clip_102 : decode (fx_cc mq_MO_clip) 102 = .ok (.iload_n 2, 1) := by decide +kernel
theorem dq_MO_clip_103 : decode (fx_cc mq_MO_clip) 103 = .ok (.goto 4, 3) := by decide +kernel
theorem dq_MO_clip_106 : decode (fx_cc mq_MO_clip) 106 = .ok (.iconst 0, 1) := by decide +kernel
theorem dq_MO_clip_107 : decode (fx_cc mq_MO_clip) 107 = .ok (.iastore, 1) := by decide +kernel
theorem dq_MO_clip_108 : decode (fx_cc mq_MO_clip) 108 = .ok (.aload_n 0, 1) := by decide +kernel
theorem dq_MO_clip_109 : decode (fx_cc mq_MO_clip) 109 = .ok (.getfield 50, 3) := by decide +kernel
theorem dq_MO_clip_112 : decode (fx_cc mq_MO_clip) 112 = .ok (.iload_n 1, 1) := by decide +kernel
theorem dq_MO_clip_113 : decode (fx_cc mq_MO_clip) 113 = .ok (.iload_n 3, 1) := by decide +kernel
theorem dq_MO_clip_114 : decode (fx_cc mq_MO_clip) 114 = .ok (.ifCond .le 7, 3) := by decide +kernel
theorem dq_MO_clip_117 : decode (fx_cc mq_MO_clip) 117 = .ok (.iload_n 3, 1) := by decide +kernel
theorem dq_MO_clip_118 : decode (fx_cc mq_MO_clip) 118 = .ok (.goto 4, 3) := by decide +kernel
theorem dq_MO_clip_121 : decode (fx_cc mq_MO_clip) 121 = .ok (.iconst 0, 1) := by decide +kernel
theorem dq_MO_clip_122 : decode (fx_cc mq_MO_clip) 122 = .ok (.iastore, 1) := by decide +kernel
theorem dq_MO_clip_123 : decode (fx_cc mq_MO_clip) 123 = .ok (.aload_n 0, 1) := by decide +kernel
theorem dq_MO_clip_124 : decode (fx_cc mq_MO_clip) 124 = .ok (.getfield 53, 3) := by decide +kernel
theorem dq_MO_clip_127 : decode (fx_cc mq_MO_clip) 127 = .ok (.iload_n 1, 1) := by decide +kernel
theorem dq_MO_clip_128 : decode (fx_cc mq_MO_clip) 128 = .ok (.iload 6, 2) := by decide +kernel
theorem dq_MO_clip_130 : decode (fx_cc mq_MO_clip) 130 = .ok (.aload_n 0, 1) := by decide +kernel
theorem dq_MO_clip_131 : decode (fx_cc mq_MO_clip) 131 = .ok (.getfield 47, 3) := by decide +kernel
theorem dq_MO_clip_134 : decode (fx_cc mq_MO_clip) 134 = .ok (.iload_n 1, 1) := by decide +kernel
theorem dq_MO_clip_135 : decode (fx_cc mq_MO_clip) 135 = .ok (.iaload, 1) := by decide +kernel
theorem dq_MO_clip_136 : decode (fx_cc mq_MO_clip) 136 = .ok (.isub, 1) := by decide +kernel
theorem dq_MO_clip_137 : decode (fx_cc mq_MO_clip) 137 = .ok (.iastore, 1) := by decide +kernel
theorem dq_MO_clip_138 : decode (fx_cc mq_MO_clip) 138 = .ok (.aload_n 0, 1) := by decide +kernel
theorem dq_MO_clip_139 : decode (fx_cc mq_MO_clip) 139 = .ok (.getfield 56, 3) := by decide +kernel
theorem dq_MO_clip_142 : decode (fx_cc mq_MO_clip) 142 = .ok (.iload_n 1, 1) := by decide +kernel
theorem dq_MO_clip_143 : decode (fx_cc mq_MO_clip) 143 = .ok (.iload 7, 2) := by decide +kernel
theorem dq_MO_clip_145 : decode (fx_cc mq_MO_clip) 145 = .ok (.aload_n 0, 1) := by decide +kernel
theorem dq_MO_clip_146 : decode (fx_cc mq_MO_clip) 146 = .ok (.getfield 50, 3) := by decide +kernel
theorem dq_MO_clip_149 : decode (fx_cc mq_MO_clip) 149 = .ok (.iload_n 1, 1) := by decide +kernel
theorem dq_MO_clip_150 : decode (fx_cc mq_MO_clip) 150 = .ok (.iaload, 1) := by decide +kernel
theorem dq_MO_clip_151 : decode (fx_cc mq_MO_clip) 151 = .ok (.isub, 1) := by decide +kernel
theorem dq_MO_clip_152 : decode (fx_cc mq_MO_clip) 152 = .ok (.iastore, 1) := by decide +kernel
theorem dq_MO_clip_153 : decode (fx_cc mq_MO_clip) 153 = .ok (.aload_n 0, 1) := by decide +kernel
theorem dq_MO_clip_154 : decode (fx_cc mq_MO_clip) 154 = .ok (.getfield 53, 3) := by decide +kernel
theorem dq_MO_clip_157 : decode (fx_cc mq_MO_clip) 157 = .ok (.iload_n 1, 1) := by decide +kernel
theorem dq_MO_clip_158 : decode (fx_cc mq_MO_clip) 158 = .ok (.iaload, 1) := by decide +kernel
theorem dq_MO_clip_159 : decode (fx_cc mq_MO_clip) 159 = .ok (.ifCond .le 13, 3) := by decide +kernel
theorem dq_MO_clip_162 : decode (fx_cc mq_MO_clip) 162 = .ok (.aload_n 0, 1) := by decide +kernel
theorem dq_MO_clip_163 : decode (fx_cc mq_MO_clip) 163 = .ok (.getfield 56, 3) := by decide +kernel
theorem dq_MO_clip_166 : decode (fx_cc mq_MO_clip) 166 = .ok (.iload_n 1, 1) := by decide +kernel
theorem dq_MO_clip_167 : decode (fx_cc mq_MO_clip) 167 = .ok (.iaload, 1) := by decide +kernel
theorem dq_MO_clip_168 : decode (fx_cc mq_MO_clip) 168 = .ok (.ifCond .le 4, 3) := by decide +kernel
theorem dq_MO_clip_171 : decode (fx_cc mq_MO_clip) 171 = .ok (.return_, 1) := by decide +kernel
theorem dq_MO_clip_172 : decode (fx_cc mq_MO_clip) 172 = .ok (.aload_n 0, 1) := by decide +kernel
theorem dq_MO_clip_173 : decode (fx_cc mq_MO_clip) 173 = .ok (.getfield 53, 3) := by decide +kernel
theorem dq_MO_clip_176 : decode (fx_cc mq_MO_clip) 176 = .ok (.iload_n 1, 1) := by decide +kernel
theorem dq_MO_clip_177 : decode (fx_cc mq_MO_clip) 177 = .ok (.iconst 0, 1) := by decide +kernel
theorem dq_MO_clip_178 : decode (fx_cc mq_MO_clip) 178 = .ok (.iastore, 1) := by decide +kernel
theorem dq_MO_clip_179 : decode (fx_cc mq_MO_clip) 179 = .ok (.aload_n 0, 1) := by decide +kernel
theorem dq_MO_clip_180 : decode (fx_cc mq_MO_clip) 180 = .ok (.getfield 56, 3) := by decide +kernel
theorem dq_MO_clip_183 : decode (fx_cc mq_MO_clip) 183 = .ok (.iload_n 1, 1) := by decide +kernel
theorem dq_MO_clip_184 : decode (fx_cc mq_MO_clip) 184 = .ok (.iconst 0, 1) := by decide +kernel
theorem dq_MO_clip_185 : decode (fx_cc mq_MO_clip) 185 = .ok (.iastore, 1) := by decide +kernel
theorem dq_MO_clip_186 : decode (fx_cc mq_MO_clip) 186 = .ok (.return_, 1) := by decide +kernel
theorem dq_MO_isArea_0 : decode (fx_cc mq_MO_isArea) 0 = .ok (.iload_n 0, 1) := by decide +kernel
theorem dq_MO_isArea_1 : decode (fx_cc mq_MO_isArea) 1 = .ok (.bipush (-20), 2) := by decide +kernel
theorem dq_MO_isArea_3 : decode (fx_cc mq_MO_isArea) 3 = .ok (.bipush 30, 2) := by decide +kernel
theorem dq_MO_isArea_5 : decode (fx_cc mq_MO_isArea) 5 = .ok (.invokestatic 129, 3) := by decide +kernel
theorem dq_MO_isArea_8 : decode (fx_cc mq_MO_isArea) 8 = .ok (.ifCond .eq 38, 3) := by decide +kernel
theorem dq_MO_isArea_11 : decode (fx_cc mq_MO_isArea) 11 = .ok (.iload_n 1, 1) := by decide +kernel
theorem dq_MO_isArea_12 : decode (fx_cc mq_MO_isArea) 12 = .ok (.bipush (-20), 2) := by decide +kernel
theorem dq_MO_isArea_14 : decode (fx_cc mq_MO_isArea) 14 = .ok (.bipush 30, 2) := by decide +kernel
theorem dq_MO_isArea_16 : decode (fx_cc mq_MO_isArea) 16 = .ok (.invokestatic 129, 3) := by decide +kernel
theorem dq_MO_isArea_19 : decode (fx_cc mq_MO_isArea) 19 = .ok (.ifCond .eq 27, 3) := by decide +kernel
theorem dq_MO_isArea_22 : decode (fx_cc mq_MO_isArea) 22 = .ok (.iload_n 2, 1) := by decide +kernel
theorem dq_MO_isArea_23 : decode (fx_cc mq_MO_isArea) 23 = .ok (.iconst 0, 1) := by decide +kernel
theorem dq_MO_isArea_24 : decode (fx_cc mq_MO_isArea) 24 = .ok (.bipush 30, 2) := by decide +kernel
theorem dq_MO_isArea_26 : decode (fx_cc mq_MO_isArea) 26 = .ok (.invokestatic 129, 3) := by decide +kernel
theorem dq_MO_isArea_29 : decode (fx_cc mq_MO_isArea) 29 = .ok (.ifCond .eq 17, 3) := by decide +kernel
theorem dq_MO_isArea_32 : decode (fx_cc mq_MO_isArea) 32 = .ok (.iload_n 3, 1) := by decide +kernel
theorem dq_MO_isArea_33 : decode (fx_cc mq_MO_isArea) 33 = .ok (.iconst 0, 1) := by decide +kernel
theorem dq_MO_isArea_34 : decode (fx_cc mq_MO_isArea) 34 = .ok (.bipush 30, 2) := by decide +kernel
theorem dq_MO_isArea_36 : decode (fx_cc mq_MO_isArea) 36 = .ok (.invokestatic 129, 3) := by decide +kernel
theorem dq_MO_isArea_39 : decode (fx_cc mq_MO_isArea) 39 = .ok (.ifCond .eq 7, 3) := by decide +kernel
theorem dq_MO_isArea_42 : decode (fx_cc mq_MO_isArea) 42 = .ok (.iconst 1, 1) := by decide +kernel
theorem dq_MO_isArea_43 : decode (fx_cc mq_MO_isArea) 43 = .ok (.goto 4, 3) := by decide +kernel
theorem dq_MO_isArea_46 : decode (fx_cc mq_MO_isArea) 46 = .ok (.iconst 0, 1) := by decide +kernel
theorem dq_MO_isArea_47 : decode (fx_cc mq_MO_isArea) 47 = .ok (.ireturn, 1) := by decide +kernel
theorem dq_MO_put_0 : decode (fx_cc mq_MO_put) 0 = .ok (.aload_n 0, 1) := by decide +kernel
theorem dq_MO_put_1 : decode (fx_cc mq_MO_put) 1 = .ok (.aload_n 0, 1) := by decide +kernel
theorem dq_MO_put_2 : decode (fx_cc mq_MO_put) 2 = .ok (.iload_n 1, 1) := by decide +kernel
theorem dq_MO_put_3 : decode (fx_cc mq_MO_put) 3 = .ok (.invokevirtual 137, 3) := by decide +kernel
theorem dq_MO_put_6 : decode (fx_cc mq_MO_put) 6 = .ok (.ifCond .eq 14, 3) := by decide +kernel
theorem dq_MO_put_9 : decode (fx_cc mq_MO_put) 9 = .ok (.iload 4, 2) := by decide +kernel
theorem dq_MO_put_11 : decode (fx_cc mq_MO_put) 11 = .ok (.iconst 0, 1) := by decide +kernel
theorem dq_MO_put_12 : decode (fx_cc mq_MO_put) 12 = .ok (.ldc 157, 2) := by decide +kernel
theorem dq_MO_put_14 : decode (fx_cc mq_MO_put) 14 = .ok (.invokestatic 129, 3) := by decide +kernel
theorem dq_MO_put_17 : decode (fx_cc mq_MO_put) 17 = .ok (.ifCond .ne 7, 3) := by decide +kernel
theorem dq_MO_put_20 : decode (fx_cc mq_MO_put) 20 = .ok (.iconst 1, 1) := by decide +kernel
theorem dq_MO_put_21 : decode (fx_cc mq_MO_put) 21 = .ok (.goto 18, 3) := by decide +kernel
theorem dq_MO_put_24 : decode (fx_cc mq_MO_put) 24 = .ok (.aload_n 0, 1) := by decide +kernel
theorem dq_MO_put_25 : decode (fx_cc mq_MO_put) 25 = .ok (.iload_n 1, 1) := by decide +kernel
theorem dq_MO_put_26 : decode (fx_cc mq_MO_put) 26 = .ok (.iload_n 2, 1) := by decide +kernel
theorem dq_MO_put_27 : decode (fx_cc mq_MO_put) 27 = .ok (.iload_n 3, 1) := by decide +kernel
theorem dq_MO_put_28 : decode (fx_cc mq_MO_put) 28 = .ok (.invokevirtual 158, 3) := by decide +kernel
theorem dq_MO_put_31 : decode (fx_cc mq_MO_put) 31 = .ok (.ifCond .eq 7, 3) := by decide +kernel
theorem dq_MO_put_34 : decode (fx_cc mq_MO_put) 34 = .ok (.iconst 0, 1) := by decide +kernel
theorem dq_MO_put_35 : decode (fx_cc mq_MO_put) 35 = .ok (.goto 4, 3) := by decide +kernel
theorem dq_MO_put_38 : decode (fx_cc mq_MO_put) 38 = .ok (.iconst 2, 1) := by decide +kernel
theorem dq_MO_put_39 : decode (fx_cc mq_MO_put) 39 = .ok (.putfield 126, 3) := by decide +kernel
theorem dq_MO_put_42 : decode (fx_cc mq_MO_put) 42 = .ok (.aload_n 0, 1) := by decide +kernel
theorem dq_MO_put_43 : decode (fx_cc mq_MO_put) 43 = .ok (.getfield 126, 3) := by decide +kernel
theorem dq_MO_put_46 : decode (fx_cc mq_MO_put) 46 = .ok (.ifCond .ne 25, 3) := by decide +kernel
theorem dq_MO_put_49 : decode (fx_cc mq_MO_put) 49 = .ok (.aload_n 0, 1) := by decide +kernel
theorem dq_MO_put_50 : decode (fx_cc mq_MO_put) 50 = .ok (.getfield 59, 3) := by decide +kernel
theorem dq_MO_put_53 : decode (fx_cc mq_MO_put) 53 = .ok (.bipush 96, 2) := by decide +kernel
theorem dq_MO_put_55 : decode (fx_cc mq_MO_put) 55 = .ok (.iload_n 1, 1) := by decide +kernel
theorem dq_MO_put_56 : decode (fx_cc mq_MO_put) 56 = .ok (.imul, 1) := by decide +kernel
theorem dq_MO_put_57 : decode (fx_cc mq_MO_put) 57 = .ok (.aload_n 0, 1) := by decide +kernel
theorem dq_MO_put_58 : decode (fx_cc mq_MO_put) 58 = .ok (.getfield 17, 3) := by decide +kernel
theorem dq_MO_put_61 : decode (fx_cc mq_MO_put) 61 = .ok (.iload_n 1, 1) := by decide +kernel
theorem dq_MO_put_62 : decode (fx_cc mq_MO_put) 62 = .ok (.iaload, 1) := by decide +kernel
theorem dq_MO_put_63 : decode (fx_cc mq_MO_put) 63 = .ok (.iload_n 3, 1) := by decide +kernel
theorem dq_MO_put_64 : decode (fx_cc mq_MO_put) 64 = .ok (.imul, 1) := by decide +kernel
theorem dq_MO_put_65 : decode (fx_cc mq_MO_put) 65 = .ok (.iadd, 1) := by decide +kernel
theorem dq_MO_put_66 : decode (fx_cc mq_MO_put) 66 = .ok (.iload_n 2, 1) := by decide +kernel
theorem dq_MO_put_67 : decode (fx_cc mq_MO_put) 67 = .ok (.iadd, 1) := by decide +kernel
theorem dq_MO_put_68 : decode (fx_cc mq_MO_put) 68 = .ok (.iload 4, 2) := by decide +kernel
theorem dq_MO_put_70 : decode (fx_cc mq_MO_put) 70 = .ok (.iastore, 1) := by decide +kernel
theorem dq_MO_put_71 : decode (fx_cc mq_MO_put) 71 = .ok (.return_, 1) := by decide +kernel
theorem dq_MO_has_0 : decode (fx_cc mq_MO_has) 0 = .ok (.iload_n 2, 1) := by decide +kernel
theorem dq_MO_has_1 : decode (fx_cc mq_MO_has) 1 = .ok (.ifCond .lt 31, 3) := by decide +kernel
theorem dq_MO_has_4 : decode (fx_cc mq_MO_has) 4 = .ok (.iload_n 2, 1) := by decide +kernel
theorem dq_MO_has_5 : decode (fx_cc mq_MO_has) 5 = .ok (.aload_n 0, 1) := by decide +kernel
theorem dq_MO_has_6 : decode (fx_cc mq_MO_has) 6 = .ok (.getfield 17, 3) := by decide +kernel
theorem dq_MO_has_9 : decode (fx_cc mq_MO_has) 9 = .ok (.iload_n 1, 1) := by decide +kernel
theorem dq_MO_has_10 : decode (fx_cc mq_MO_has) 10 = .ok (.iaload, 1) := by decide +kernel
theorem dq_MO_has_11 : decode (fx_cc mq_MO_has) 11 = .ok (.if_icmp .ge 21, 3) := by decide +kernel
theorem dq_MO_has_14 : decode (fx_cc mq_MO_has) 14 = .ok (.iload_n 3, 1) := by decide +kernel
theorem dq_MO_has_15 : decode (fx_cc mq_MO_has) 15 = .ok (.ifCond .lt 17, 3) := by decide +kernel
theorem dq_MO_has_18 : decode (fx_cc mq_MO_has) 18 = .ok (.iload_n 3, 1) := by decide +kernel
theorem dq_MO_has_19 : decode (fx_cc mq_MO_has) 19 = .ok (.aload_n 0, 1) := by decide +kernel
theorem dq_MO_has_20 : decode (fx_cc mq_MO_has) 20 = .ok (.getfield 20, 3) := by decide +kernel
theorem dq_MO_has_23 : decode (fx_cc mq_MO_has) 23 = .ok (.iload_n 1, 1) := by decide +kernel
theorem dq_MO_has_24 : decode (fx_cc mq_MO_has) 24 = .ok (.iaload, 1) := by decide +kernel
theorem dq_MO_has_25 : decode (fx_cc mq_MO_has) 25 = .ok (.if_icmp .ge 7, 3) := by decide +kernel
theorem dq_MO_has_28 : decode (fx_cc mq_MO_has) 28 = .ok (.iconst 1, 1) := by decide +kernel
theorem dq_MO_has_29 : decode (fx_cc mq_MO_has) 29 = .ok (.goto 4, 3) := by decide +kernel
theorem dq_MO_has_32 : decode (fx_cc mq_MO_has) 32 = .ok (.iconst 0, 1) := by decide +kernel
theorem dq_MO_has_33 : decode (fx_cc mq_MO_has) 33 = .ok (.ireturn, 1) := by decide +kernel
theorem dq_MO_fill_0 : decode (fx_cc mq_MO_fill) 0 = .ok (.aload_n 0, 1) := by decide +kernel
theorem dq_MO_fill_1 : decode (fx_cc mq_MO_fill) 1 = .ok (.aload_n 0, 1) := by decide +kernel
theorem dq_MO_fill_2 : decode (fx_cc mq_MO_fill) 2 = .ok (.iload_n 1, 1) := by decide +kernel
theorem dq_MO_fill_3 : decode (fx_cc mq_MO_fill) 3 = .ok (.invokevirtual 137, 3) := by decide +kernel
theorem dq_MO_fill_6 : decode (fx_cc mq_MO_fill) 6 = .ok (.ifCond .eq 30, 3) := by decide +kernel
theorem dq_MO_fill_9 : decode (fx_cc mq_MO_fill) 9 = .ok (.iload 6, 2) := by decide +kernel
theorem dq_MO_fill_11 : decode (fx_cc mq_MO_fill) 11 = .ok (.iconst 0, 1) := by decide +kernel
theorem dq_MO_fill_12 : decode (fx_cc mq_MO_fill) 12 = .ok (.ldc 157, 2) := by decide +kernel
theorem dq_MO_fill_14 : decode (fx_cc mq_MO_fill) 14 = .ok (.invokestatic 129, 3) := by decide +kernel
theorem dq_MO_fill_17 : decode (fx_cc mq_MO_fill) 17 = .ok (.ifCond .eq 19, 3) := by decide +kernel
theorem dq_MO_fill_20 : decode (fx_cc mq_MO_fill) 20 = .ok (.iload_n 2, 1) := by decide +kernel
theorem dq_MO_fill_21 : decode (fx_cc mq_MO_fill) 21 = .ok (.iload_n 3, 1) := by decide +kernel
theorem dq_MO_fill_22 : decode (fx_cc mq_MO_fill) 22 = .ok (.iload 4, 2) := by decide +kernel
theorem dq_MO_fill_24 : decode (fx_cc mq_MO_fill) 24 = .ok (.iload 5, 2) := by decide +kernel
theorem dq_MO_fill_26 : decode (fx_cc mq_MO_fill) 26 = .ok (.invokestatic 153, 3) := by decide +kernel
theorem dq_MO_fill_29 : decode (fx_cc mq_MO_fill) 29 = .ok (.ifCond .eq 7, 3) := by decide +kernel
theorem dq_MO_fill_32 : decode (fx_cc mq_MO_fill) 32 = .ok (.iconst 0, 1) := by decide +kernel
theorem dq_MO_fill_33 : decode (fx_cc mq_MO_fill) 33 = .ok (.goto 4, 3) := by decide +kernel
theorem dq_MO_fill_36 : decode (fx_cc mq_MO_fill) 36 = .ok (.iconst 1, 1) := by decide +kernel
theorem dq_MO_fill_37 : decode (fx_cc mq_MO_fill) 37 = .ok (.putfield 126, 3) := by decide +kernel
theorem dq_MO_fill_40 : decode (fx_cc mq_MO_fill) 40 = .ok (.aload_n 0, 1) := by decide +kernel
theorem dq_MO_fill_41 : decode (fx_cc mq_MO_fill) 41 = .ok (.getfield 126, 3) := by decide +kernel
theorem dq_MO_fill_44 : decode (fx_cc mq_MO_fill) 44 = .ok (.ifCond .eq 5, 3) := by decide +kernel
theorem dq_MO_fill_47 : decode (fx_cc mq_MO_fill) 47 = .ok (.iconst 0, 1) := by decide +kernel
theorem dq_MO_fill_48 : decode (fx_cc mq_MO_fill) 48 = .ok (.ireturn, 1) := by decide +kernel
theorem dq_MO_fill_49 : decode (fx_cc mq_MO_fill) 49 = .ok (.iconst 0, 1) := by decide +kernel
theorem dq_MO_fill_50 : decode (fx_cc mq_MO_fill) 50 = .ok (.istore 7, 2) := by decide +kernel
theorem dq_MO_fill_52 : decode (fx_cc mq_MO_fill) 52 = .ok (.iload_n 3, 1) := by decide +kernel
theorem dq_MO_fill_53 : decode (fx_cc mq_MO_fill) 53 = .ok (.istore 8, 2) := by decide +kernel
theorem dq_MO_fill_55 : decode (fx_cc mq_MO_fill) 55 = .ok (.iload 8, 2) := by decide +kernel
theorem dq_MO_fill_57 : decode (fx_cc mq_MO_fill) 57 = .ok (.iload_n 3, 1) := by decide +kernel
theorem dq_MO_fill_58 : decode (fx_cc mq_MO_fill) 58 = .ok (.iload 5, 2) := by decide +kernel
theorem dq_MO_fill_60 : decode (fx_cc mq_MO_fill) 60 = .ok (.iadd, 1) := by decide +kernel
theorem dq_MO_fill_61 : decode (fx_cc mq_MO_fill) 61 = .ok (.if_icmp .ge 69, 3) := by decide +kernel
theorem dq_MO_fill_64 : decode (fx_cc mq_MO_fill) 64 = .ok (.iload_n 2, 1) := by decide +kernel
theorem dq_MO_fill_65 : decode (fx_cc mq_MO_fill) 65 = .ok (.istore 9, 2) := by decide +kernel
theorem dq_MO_fill_67 : decode (fx_cc mq_MO_fill) 67 = .ok (.iload 9, 2) := by decide +kernel
theorem dq_MO_fill_69 : decode (fx_cc mq_MO_fill) 69 = .ok (.iload_n 2, 1) := by decide +kernel
theorem dq_MO_fill_70 : decode (fx_cc mq_MO_fill) 70 = .ok (.iload 4, 2) := by decide +kernel
theorem dq_MO_fill_72 : decode (fx_cc mq_MO_fill) 72 = .ok (.iadd, 1) := by decide +kernel
theorem dq_MO_fill_73 : decode (fx_cc mq_MO_fill) 73 = .ok (.if_icmp .ge 51, 3) := by decide +kernel
theorem dq_MO_fill_76 : decode (fx_cc mq_MO_fill) 76 = .ok (.aload_n 0, 1) := by decide +kernel
theorem dq_MO_fill_77 : decode (fx_cc mq_MO_fill) 77 = .ok (.iload_n 1, 1) := by decide +kernel
theorem dq_MO_fill_78 : decode (fx_cc mq_MO_fill) 78 = .ok (.iload 9, 2) := by decide +kernel
theorem dq_MO_fill_80 : decode (fx_cc mq_MO_fill) 80 = .ok (.iload 8, 2) := by decide +kernel
theorem dq_MO_fill_82 : decode (fx_cc mq_MO_fill) 82 = .ok (.invokevirtual 158, 3) := by decide +kernel
theorem dq_MO_fill_85 : decode (fx_cc mq_MO_fill) 85 = .ok (.ifCond .ne 6, 3) := by decide +kernel
theorem dq_MO_fill_88 : decode (fx_cc mq_MO_fill) 88 = .ok (.goto 30, 3) := by decide +kernel
theorem dq_MO_fill_91 : decode (fx_cc mq_MO_fill) 91 = .ok (.aload_n 0, 1) := by decide +kernel
theorem dq_MO_fill_92 : decode (fx_cc mq_MO_fill) 92 = .ok (.getfield 59, 3) := by decide +kernel
theorem dq_MO_fill_95 : decode (fx_cc mq_MO_fill) 95 = .ok (.bipush 96, 2) := by decide +kernel
theorem dq_MO_fill_97 : decode (fx_cc mq_MO_fill) 97 = .ok (.iload_n 1, 1) := by decide +kernel
theorem dq_MO_fill_98 : decode (fx_cc mq_MO_fill) 98 = .ok (.imul, 1) := by decide +kernel
theorem dq_MO_fill_99 : decode (fx_cc mq_MO_fill) 99 = .ok (.aload_n 0, 1) := by decide +kernel
theorem dq_MO_fill_100 : decode (fx_cc mq_MO_fill) 100 = .ok (.getfield 17, 3) := by decide +kernel
theorem dq_MO_fill_103 : decode (fx_cc mq_MO_fill) 103 = .ok (.iload_n 1, 1) := by decide +kernel
theorem dq_MO_fill_104 : decode (fx_cc mq_MO_fill) 104 = .ok (.iaload, 1) := by decide +kernel
theorem dq_MO_fill_105 : decode (fx_cc mq_MO_fill) 105 = .ok (.iload 8, 2) := by decide +kernel
theorem dq_MO_fill_107 : decode (fx_cc mq_MO_fill) 107 = .ok (.imul, 1) := by decide +kernel
theorem dq_MO_fill_108 : decode (fx_cc mq_MO_fill) 108 = .ok (.iadd, 1) := by decide +kernel
theorem dq_MO_fill_109 : decode (fx_cc mq_MO_fill) 109 = .ok (.iload 9, 2) := by decide +kernel
theorem dq_MO_fill_111 : decode (fx_cc mq_MO_fill) 111 = .ok (.iadd, 1) := by decide +kernel
theorem dq_MO_fill_112 : decode (fx_cc mq_MO_fill) 112 = .ok (.iload 6, 2) := by decide +kernel
theorem dq_MO_fill_114 : decode (fx_cc mq_MO_fill) 114 = .ok (.iastore, 1) := by decide +kernel
theorem dq_MO_fill_115 : decode (fx_cc mq_MO_fill) 115 = .ok (.iinc 7 1, 3) := by decide +kernel
theorem dq_MO_fill_118 : decode (fx_cc mq_MO_fill) 118 = .ok (.iinc 9 1, 3) := by decide +kernel
theorem dq_MO_fill_121 : decode (fx_cc mq_MO_fill) 121 = .ok (.goto (-54), 3) := by decide +kernel
theorem dq_MO_fill_124 : decode (fx_cc mq_MO_fill) 124 = .ok (.iinc 8 1, 3) := by decide +kernel
theorem dq_MO_fill_127 : decode (fx_cc mq_MO_fill) 127 = .ok (.goto (-72), 3) := by decide +kernel
theorem dq_MO_fill_130 : decode (fx_cc mq_MO_fill) 130 = .ok (.iload 7, 2) := by decide +kernel
theorem dq_MO_fill_132 : decode (fx_cc mq_MO_fill) 132 = .ok (.ireturn, 1) := by decide +kernel
theorem dq_MO_copy_0 : decode (fx_cc mq_MO_copy) 0 = .ok (.aload_n 0, 1) := by decide +kernel
theorem dq_MO_copy_1 : decode (fx_cc mq_MO_copy) 1 = .ok (.aload_n 0, 1) := by decide +kernel
theorem dq_MO_copy_2 : decode (fx_cc mq_MO_copy) 2 = .ok (.iload_n 1, 1) := by decide +kernel
theorem dq_MO_copy_3 : decode (fx_cc mq_MO_copy) 3 = .ok (.iload_n 2, 1) := by decide +kernel
theorem dq_MO_copy_4 : decode (fx_cc mq_MO_copy) 4 = .ok (.iload 7, 2) := by decide +kernel
theorem dq_MO_copy_6 : decode (fx_cc mq_MO_copy) 6 = .ok (.iload 8, 2) := by decide +kernel
theorem dq_MO_copy_8 : decode (fx_cc mq_MO_copy) 8 = .ok (.invokevirtual 161, 3) := by decide +kernel
theorem dq_MO_copy_11 : decode (fx_cc mq_MO_copy) 11 = .ok (.ifCond .eq 20, 3) := by decide +kernel
theorem dq_MO_copy_14 : decode (fx_cc mq_MO_copy) 14 = .ok (.iload_n 3, 1) := by decide +kernel
theorem dq_MO_copy_15 : decode (fx_cc mq_MO_copy) 15 = .ok (.iload 4, 2) := by decide +kernel
theorem dq_MO_copy_17 : decode (fx_cc mq_MO_copy) 17 = .ok (.iload 5, 2) := by decide +kernel
theorem dq_MO_copy_19 : decode (fx_cc mq_MO_copy) 19 = .ok (.iload 6, 2) := by decide +kernel
theorem dq_MO_copy_21 : decode (fx_cc mq_MO_copy) 21 = .ok (.invokestatic 153, 3) := by decide +kernel
theorem dq_MO_copy_24 : decode (fx_cc mq_MO_copy) 24 = .ok (.ifCond .eq 7, 3) := by decide +kernel
theorem dq_MO_copy_27 : decode (fx_cc mq_MO_copy) 27 = .ok (.iconst 0, 1) := by decide +kernel
theorem dq_MO_copy_28 : decode (fx_cc mq_MO_copy) 28 = .ok (.goto 4, 3) := by decide +kernel
theorem dq_MO_copy_31 : decode (fx_cc mq_MO_copy) 31 = .ok (.iconst 1, 1) := by decide +kernel
theorem dq_MO_copy_32 : decode (fx_cc mq_MO_copy) 32 = .ok (.putfield 126, 3) := by decide +kernel
theorem dq_MO_copy_35 : decode (fx_cc mq_MO_copy) 35 = .ok (.aload_n 0, 1) := by decide +kernel
theorem dq_MO_copy_36 : decode (fx_cc mq_MO_copy) 36 = .ok (.getfield 126, 3) := by decide +kernel
theorem dq_MO_copy_39 : decode (fx_cc mq_MO_copy) 39 = .ok (.ifCond .eq 5, 3) := by decide +kernel
theorem dq_MO_copy_42 : decode (fx_cc mq_MO_copy) 42 = .ok (.iconst 0, 1) := by decide +kernel
theorem dq_MO_copy_43 : decode (fx_cc mq_MO_copy) 43 = .ok (.ireturn, 1) := by decide +kernel
theorem dq_MO_copy_44 : decode (fx_cc mq_MO_copy) 44 = .ok (.iconst 0, 1) := by decide +kernel
theorem dq_MO_copy_45 : decode (fx_cc mq_MO_copy) 45 = .ok (.istore 9, 2) := by decide +kernel
theorem dq_MO_copy_47 : decode (fx_cc mq_MO_copy) 47 = .ok (.iload 9, 2) := by decide +kernel
theorem dq_MO_copy_49 : decode (fx_cc mq_MO_copy) 49 = .ok (.bipush 96, 2) := by decide +kernel
theorem dq_MO_copy_51 : decode (fx_cc mq_MO_copy) 51 = .ok (.if_icmp .ge 28, 3) := by decide +kernel
theorem dq_MO_copy_54 : decode (fx_cc mq_MO_copy) 54 = .ok (.aload_n 0, 1) := by decide +kernel
theorem dq_MO_copy_55 : decode (fx_cc mq_MO_copy) 55 = .ok (.getfield 62, 3) := by decide +kernel
theorem dq_MO_copy_58 : decode (fx_cc mq_MO_copy) 58 = .ok (.iload 9, 2) := by decide +kernel
theorem dq_MO_copy_60 : decode (fx_cc mq_MO_copy) 60 = .ok (.aload_n 0, 1) := by decide +kernel
theorem dq_MO_copy_61 : decode (fx_cc mq_MO_copy) 61 = .ok (.getfield 59, 3) := by decide +kernel
theorem dq_MO_copy_64 : decode (fx_cc mq_MO_copy) 64 = .ok (.bipush 96, 2) := by decide +kernel
theorem dq_MO_copy_66 : decode (fx_cc mq_MO_copy) 66 = .ok (.iload_n 1, 1) := by decide +kernel
theorem dq_MO_copy_67 : decode (fx_cc mq_MO_copy) 67 = .ok (.imul, 1) := by decide +kernel
theorem dq_MO_copy_68 : decode (fx_cc mq_MO_copy) 68 = .ok (.iload 9, 2) := by decide +kernel
theorem dq_MO_copy_70 : decode (fx_cc mq_MO_copy) 70 = .ok (.iadd, 1) := by decide +kernel
theorem dq_MO_copy_71 : decode (fx_cc mq_MO_copy) 71 = .ok (.iaload, 1) := by decide +kernel
theorem dq_MO_copy_72 : decode (fx_cc mq_MO_copy) 72 = .ok (.iastore, 1) := by decide +kernel
theorem dq_MO_copy_73 : decode (fx_cc mq_MO_copy) 73 = .ok (.iinc 9 1, 3) := by decide +kernel
theorem dq_MO_copy_76 : decode (fx_cc mq_MO_copy) 76 = .ok (.goto (-29), 3) := by decide +kernel
theorem dq_MO_copy_79 : decode (fx_cc mq_MO_copy) 79 = .ok (.iconst 0, 1) := by decide +kernel
theorem dq_MO_copy_80 : decode (fx_cc mq_MO_copy) 80 = .ok (.istore 9, 2) := by decide +kernel
theorem dq_MO_copy_82 : decode (fx_cc mq_MO_copy) 82 = .ok (.iconst 0, 1) := by decide +kernel
theorem dq_MO_copy_83 : decode (fx_cc mq_MO_copy) 83 = .ok (.istore 10, 2) := by decide +kernel
theorem dq_MO_copy_85 : decode (fx_cc mq_MO_copy) 85 = .ok (.iload 10, 2) := by decide +kernel
theorem dq_MO_copy_87 : decode (fx_cc mq_MO_copy) 87 = .ok (.iload 6, 2) := by decide +kernel
theorem dq_MO_copy_89 : decode (fx_cc mq_MO_copy) 89 = .ok (.if_icmp .ge 116, 3) := by decide +kernel
theorem dq_MO_copy_92 : decode (fx_cc mq_MO_copy) 92 = .ok (.iconst 0, 1) := by decide +kernel
theorem dq_MO_copy_93 : decode (fx_cc mq_MO_copy) 93 = .ok (.istore 11, 2) := by decide +kernel
theorem dq_MO_copy_95 : decode (fx_cc mq_MO_copy) 95 = .ok (.iload 11, 2) := by decide +kernel
theorem dq_MO_copy_97 : decode (fx_cc mq_MO_copy) 97 = .ok (.iload 5, 2) := by decide +kernel
theorem dq_MO_copy_99 : decode (fx_cc mq_MO_copy) 99 = .ok (.if_icmp .ge 100, 3) := by decide +kernel
theorem dq_MO_copy_102 : decode (fx_cc mq_MO_copy) 102 = .ok (.aload_n 0, 1) := by decide +kernel
theorem dq_MO_copy_103 : decode (fx_cc mq_MO_copy) 103 = .ok (.iload_n 1, 1) := by decide +kernel
theorem dq_MO_copy_104 : decode (fx_cc mq_MO_copy) 104 = .ok (.iload_n 3, 1) := by decide +kernel
theorem dq_MO_copy_105 : decode (fx_cc mq_MO_copy) 105 = .ok (.iload 11, 2) := by decide +kernel
theorem dq_MO_copy_107 : decode (fx_cc mq_MO_copy) 107 = .ok (.iadd, 1) := by decide +kernel
theorem dq_MO_copy_108 : decode (fx_cc mq_MO_copy) 108 = .ok (.iload 4, 2) := by decide +kernel
theorem dq_MO_copy_110 : decode (fx_cc mq_MO_copy) 110 = .ok (.iload 10, 2) := by decide +kernel
theorem dq_MO_copy_112 : decode (fx_cc mq_MO_copy) 112 = .ok (.iadd, 1) := by decide +kernel
theorem dq_MO_copy_113 : decode (fx_cc mq_MO_copy) 113 = .ok (.invokevirtual 158, 3) := by decide +kernel
theorem dq_MO_copy_116 : decode (fx_cc mq_MO_copy) 116 = .ok (.ifCond .eq 77, 3) := by decide +kernel
theorem dq_MO_copy_119 : decode (fx_cc mq_MO_copy) 119 = .ok (.aload_n 0, 1) := by decide +kernel
theorem dq_MO_copy_120 : decode (fx_cc mq_MO_copy) 120 = .ok (.iload_n 2, 1) := by decide +kernel
theorem dq_MO_copy_121 : decode (fx_cc mq_MO_copy) 121 = .ok (.iload 7, 2) := by decide +kernel
theorem dq_MO_copy_123 : decode (fx_cc mq_MO_copy) 123 = .ok (.iload 11, 2) := by decide +kernel
theorem dq_MO_copy_125 : decode (fx_cc mq_MO_copy) 125 = .ok (.iadd, 1) := by decide +kernel
theorem dq_MO_copy_126 : decode (fx_cc mq_MO_copy) 126 = .ok (.iload 8, 2) := by decide +kernel
theorem dq_MO_copy_128 : decode (fx_cc mq_MO_copy) 128 = .ok (.iload 10, 2) := by decide +kernel
theorem dq_MO_copy_130 : decode (fx_cc mq_MO_copy) 130 = .ok (.iadd, 1) := by decide +kernel
theorem dq_MO_copy_131 : decode (fx_cc mq_MO_copy) 131 = .ok (.invokevirtual 158, 3) := by decide +kernel
theorem dq_MO_copy_134 : decode (fx_cc mq_MO_copy) 134 = .ok (.ifCond .ne 6, 3) := by decide +kernel
theorem dq_MO_copy_137 : decode (fx_cc mq_MO_copy) 137 = .ok (.goto 56, 3) := by decide +kernel
theorem dq_MO_copy_140 : decode (fx_cc mq_MO_copy) 140 = .ok (.aload_n 0, 1) := by decide +kernel
theorem dq_MO_copy_141 : decode (fx_cc mq_MO_copy) 141 = .ok (.getfield 59, 3) := by decide +kernel
theorem dq_MO_copy_144 : decode (fx_cc mq_MO_copy) 144 = .ok (.bipush 96, 2) := by decide +kernel
theorem dq_MO_copy_146 : decode (fx_cc mq_MO_copy) 146 = .ok (.iload_n 2, 1) := by decide +kernel
theorem dq_MO_copy_147 : decode (fx_cc mq_MO_copy) 147 = .ok (.imul, 1) := by decide +kernel
theorem dq_MO_copy_148 : decode (fx_cc mq_MO_copy) 148 = .ok (.aload_n 0, 1) := by decide +kernel
theorem dq_MO_copy_149 : decode (fx_cc mq_MO_copy) 149 = .ok (.getfield 17, 3) := by decide +kernel
theorem dq_MO_copy_152 : decode (fx_cc mq_MO_copy) 152 = .ok (.iload_n 2, 1) := by decide +kernel
theorem dq_MO_copy_153 : decode (fx_cc mq_MO_copy) 153 = .ok (.iaload, 1) := by decide +kernel
theorem dq_MO_copy_154 : decode (fx_cc mq_MO_copy) 154 = .ok (.iload 8, 2) := by decide +kernel
theorem dq_MO_copy_156 : decode (fx_cc mq_MO_copy) 156 = .ok (.iload 10, 2) := by decide +kernel
theorem dq_MO_copy_158 : decode (fx_cc mq_MO_copy) 158 = .ok (.iadd, 1) := by decide +kernel
theorem dq_MO_copy_159 : decode (fx_cc mq_MO_copy) 159 = .ok (.imul, 1) := by decide +kernel
theorem dq_MO_copy_160 : decode (fx_cc mq_MO_copy) 160 = .ok (.iadd, 1) := by decide +kernel
theorem dq_MO_copy_161 : decode (fx_cc mq_MO_copy) 161 = .ok (.iload 7, 2) := by decide +kernel
theorem dq_MO_copy_163 : decode (fx_cc mq_MO_copy) 163 = .ok (.iadd, 1) := by decide +kernel
theorem dq_MO_copy_164 : decode (fx_cc mq_MO_copy) 164 = .ok (.iload 11, 2) := by decide +kernel
theorem dq_MO_copy_166 : decode (fx_cc mq_MO_copy) 166 = .ok (.iadd, 1) := by decide +kernel
theorem dq_MO_copy_167 : decode (fx_cc mq_MO_copy) 167 = .ok (.aload_n 0, 1) := by decide +kernel
theorem dq_MO_copy_168 : decode (fx_cc mq_MO_copy) 168 = .ok (.getfield 62, 3) := by decide +kernel
theorem dq_MO_copy_171 : decode (fx_cc mq_MO_copy) 171 = .ok (.aload_n 0, 1) := by decide +kernel
theorem dq_MO_copy_172 : decode (fx_cc mq_MO_copy) 172 = .ok (.getfield 17, 3) := by decide +kernel
theorem dq_MO_copy_175 : decode (fx_cc mq_MO_copy) 175 = .ok (.iload_n 1, 1) := by decide +kernel
theorem dq_MO_copy_176 : decode (fx_cc mq_MO_copy) 176 = .ok (.iaload, 1) := by decide +kernel
theorem dq_MO_copy_177 : decode (fx_cc mq_MO_copy) 177 = .ok (.iload 4, 2) := by decide +kernel
theorem dq_MO_copy_179 : decode (fx_cc mq_MO_copy) 179 = .ok (.iload 10, 2) := by decide +kernel
theorem dq_MO_copy_181 : decode (fx_cc mq_MO_copy) 181 = .ok (.iadd, 1) := by decide +kernel
theorem dq_MO_copy_182 : decode (fx_cc mq_MO_copy) 182 = .ok (.imul, 1) := by decide +kernel
theorem dq_MO_copy_183 : decode (fx_cc mq_MO_copy) 183 = .ok (.iload_n 3, 1) := by decide +kernel
theorem dq_MO_copy_184 : decode (fx_cc mq_MO_copy) 184 = .ok (.iadd, 1) := by decide +kernel
theorem dq_MO_copy_185 : decode (fx_cc mq_MO_copy) 185 = .ok (.iload 11, 2) := by decide +kernel
theorem dq_MO_copy_187 : decode (fx_cc mq_MO_copy) 187 = .ok (.iadd, 1) := by decide +kernel
theorem dq_MO_copy_188 : decode (fx_cc mq_MO_copy) 188 = .ok (.iaload, 1) := by decide +kernel
theorem dq_MO_copy_189 : decode (fx_cc mq_MO_copy) 189 = .ok (.iastore, 1) := by decide +kernel
theorem dq_MO_copy_190 : decode (fx_cc mq_MO_copy) 190 = .ok (.iinc 9 1, 3) := by decide +kernel
theorem dq_MO_copy_193 : decode (fx_cc mq_MO_copy) 193 = .ok (.iinc 11 1, 3) := by decide +kernel
theorem dq_MO_copy_196 : decode (fx_cc mq_MO_copy) 196 = .ok (.goto (-101), 3) := by decide +kernel
theorem dq_MO_copy_199 : decode (fx_cc mq_MO_copy) 199 = .ok (.iinc 10 1, 3) := by decide +kernel
theorem dq_MO_copy_202 : decode (fx_cc mq_MO_copy) 202 = .ok (.goto (-117), 3) := by decide +kernel
theorem dq_MO_copy_205 : decode (fx_cc mq_MO_copy) 205 = .ok (.iload 9, 2) := by decide +kernel
theorem dq_MO_copy_207 : decode (fx_cc mq_MO_copy) 207 = .ok (.ireturn, 1) := by decide +kernel
theorem dq_MO_isCopy_0 : decode (fx_cc mq_MO_isCopy) 0 = .ok (.aload_n 0, 1) := by decide +kernel
theorem dq_MO_isCopy_1 : decode (fx_cc mq_MO_isCopy) 1 = .ok (.iload_n 1, 1) := by decide +kernel
theorem dq_MO_isCopy_2 : decode (fx_cc mq_MO_isCopy) 2 = .ok (.invokevirtual 137, 3) := by decide +kernel
theorem dq_MO_isCopy_5 : decode (fx_cc mq_MO_isCopy) 5 = .ok (.ifCond .eq 53, 3) := by decide +kernel
theorem dq_MO_isCopy_8 : decode (fx_cc mq_MO_isCopy) 8 = .ok (.aload_n 0, 1) := by decide +kernel
theorem dq_MO_isCopy_9 : decode (fx_cc mq_MO_isCopy) 9 = .ok (.iload_n 2, 1) := by decide +kernel
theorem dq_MO_isCopy_10 : decode (fx_cc mq_MO_isCopy) 10 = .ok (.invokevirtual 137, 3) := by decide +kernel
theorem dq_MO_isCopy_13 : decode (fx_cc mq_MO_isCopy) 13 = .ok (.ifCond .eq 45, 3) := by decide +kernel
theorem dq_MO_isCopy_16 : decode (fx_cc mq_MO_isCopy) 16 = .ok (.aload_n 0, 1) := by decide +kernel
theorem dq_MO_isCopy_17 : decode (fx_cc mq_MO_isCopy) 17 = .ok (.getfield 13, 3) := by decide +kernel
theorem dq_MO_isCopy_20 : decode (fx_cc mq_MO_isCopy) 20 = .ok (.iload_n 1, 1) := by decide +kernel
theorem dq_MO_isCopy_21 : decode (fx_cc mq_MO_isCopy) 21 = .ok (.iaload, 1) := by decide +kernel
theorem dq_MO_isCopy_22 : decode (fx_cc mq_MO_isCopy) 22 = .ok (.aload_n 0, 1) := by decide +kernel
theorem dq_MO_isCopy_23 : decode (fx_cc mq_MO_isCopy) 23 = .ok (.getfield 13, 3) := by decide +kernel
theorem dq_MO_isCopy_26 : decode (fx_cc mq_MO_isCopy) 26 = .ok (.iload_n 2, 1) := by decide +kernel
theorem dq_MO_isCopy_27 : decode (fx_cc mq_MO_isCopy) 27 = .ok (.iaload, 1) := by decide +kernel
theorem dq_MO_isCopy_28 : decode (fx_cc mq_MO_isCopy) 28 = .ok (.if_icmp .ne 30, 3) := by decide +kernel
theorem dq_MO_isCopy_31 : decode (fx_cc mq_MO_isCopy) 31 = .ok (.iload_n 3, 1) := by decide +kernel
theorem dq_MO_isCopy_32 : decode (fx_cc mq_MO_isCopy) 32 = .ok (.bipush (-20), 2) := by decide +kernel
theorem dq_MO_isCopy_34 : decode (fx_cc mq_MO_isCopy) 34 = .ok (.bipush 30, 2) := by decide +kernel
theorem dq_MO_isCopy_36 : decode (fx_cc mq_MO_isCopy) 36 = .ok (.invokestatic 129, 3) := by decide +kernel
theorem dq_MO_isCopy_39 : decode (fx_cc mq_MO_isCopy) 39 = .ok (.ifCond .eq 19, 3) := by decide +kernel
theorem dq_MO_isCopy_42 : decode (fx_cc mq_MO_isCopy) 42 = .ok (.iload 4, 2) := by decide +kernel
theorem dq_MO_isCopy_44 : decode (fx_cc mq_MO_isCopy) 44 = .ok (.bipush (-20), 2) := by decide +kernel
theorem dq_MO_isCopy_46 : decode (fx_cc mq_MO_isCopy) 46 = .ok (.bipush 30, 2) := by decide +kernel
theorem dq_MO_isCopy_48 : decode (fx_cc mq_MO_isCopy) 48 = .ok (.invokestatic 129, 3) := by decide +kernel
theorem dq_MO_isCopy_51 : decode (fx_cc mq_MO_isCopy) 51 = .ok (.ifCond .eq 7, 3) := by decide +kernel
theorem dq_MO_isCopy_54 : decode (fx_cc mq_MO_isCopy) 54 = .ok (.iconst 1, 1) := by decide +kernel
theorem dq_MO_isCopy_55 : decode (fx_cc mq_MO_isCopy) 55 = .ok (.goto 4, 3) := by decide +kernel
theorem dq_MO_isCopy_58 : decode (fx_cc mq_MO_isCopy) 58 = .ok (.iconst 0, 1) := by decide +kernel
theorem dq_MO_isCopy_59 : decode (fx_cc mq_MO_isCopy) 59 = .ok (.ireturn, 1) := by decide +kernel
theorem dq_MO_commit_0 : decode (fx_cc mq_MO_commit) 0 = .ok (.aload_n 0, 1) := by decide +kernel
theorem dq_MO_commit_1 : decode (fx_cc mq_MO_commit) 1 = .ok (.iload_n 1, 1) := by decide +kernel
theorem dq_MO_commit_2 : decode (fx_cc mq_MO_commit) 2 = .ok (.iconst 0, 1) := by decide +kernel
theorem dq_MO_commit_3 : decode (fx_cc mq_MO_commit) 3 = .ok (.iconst 3, 1) := by decide +kernel
theorem dq_MO_commit_4 : decode (fx_cc mq_MO_commit) 4 = .ok (.invokestatic 129, 3) := by decide +kernel
theorem dq_MO_commit_7 : decode (fx_cc mq_MO_commit) 7 = .ok (.ifCond .ne 7, 3) := by decide +kernel
theorem dq_MO_commit_10 : decode (fx_cc mq_MO_commit) 10 = .ok (.iconst 1, 1) := by decide +kernel
theorem dq_MO_commit_11 : decode (fx_cc mq_MO_commit) 11 = .ok (.goto 22, 3) := by decide +kernel
theorem dq_MO_commit_14 : decode (fx_cc mq_MO_commit) 14 = .ok (.aload_n 0, 1) := by decide +kernel
theorem dq_MO_commit_15 : decode (fx_cc mq_MO_commit) 15 = .ok (.getfield 164, 3) := by decide +kernel
theorem dq_MO_commit_18 : decode (fx_cc mq_MO_commit) 18 = .ok (.aload_n 0, 1) := by decide +kernel
theorem dq_MO_commit_19 : decode (fx_cc mq_MO_commit) 19 = .ok (.getfield 167, 3) := by decide +kernel
theorem dq_MO_commit_22 : decode (fx_cc mq_MO_commit) 22 = .ok (.isub, 1) := by decide +kernel
theorem dq_MO_commit_23 : decode (fx_cc mq_MO_commit) 23 = .ok (.bipush 6, 2) := by decide +kernel
theorem dq_MO_commit_25 : decode (fx_cc mq_MO_commit) 25 = .ok (.if_icmp .ne 7, 3) := by decide +kernel
theorem dq_MO_commit_28 : decode (fx_cc mq_MO_commit) 28 = .ok (.iconst 2, 1) := by decide +kernel
theorem dq_MO_commit_29 : decode (fx_cc mq_MO_commit) 29 = .ok (.goto 4, 3) := by decide +kernel
theorem dq_MO_commit_32 : decode (fx_cc mq_MO_commit) 32 = .ok (.iconst 0, 1) := by decide +kernel
theorem dq_MO_commit_33 : decode (fx_cc mq_MO_commit) 33 = .ok (.putfield 126, 3) := by decide +kernel
theorem dq_MO_commit_36 : decode (fx_cc mq_MO_commit) 36 = .ok (.aload_n 0, 1) := by decide +kernel
theorem dq_MO_commit_37 : decode (fx_cc mq_MO_commit) 37 = .ok (.getfield 126, 3) := by decide +kernel
theorem dq_MO_commit_40 : decode (fx_cc mq_MO_commit) 40 = .ok (.ifCond .eq 5, 3) := by decide +kernel
theorem dq_MO_commit_43 : decode (fx_cc mq_MO_commit) 43 = .ok (.iconst 0, 1) := by decide +kernel
theorem dq_MO_commit_44 : decode (fx_cc mq_MO_commit) 44 = .ok (.ireturn, 1) := by decide +kernel
theorem dq_MO_commit_45 : decode (fx_cc mq_MO_commit) 45 = .ok (.iconst 0, 1) := by decide +kernel
theorem dq_MO_commit_46 : decode (fx_cc mq_MO_commit) 46 = .ok (.istore_n 2, 1) := by decide +kernel
theorem dq_MO_commit_47 : decode (fx_cc mq_MO_commit) 47 = .ok (.iload_n 2, 1) := by decide +kernel
theorem dq_MO_commit_48 : decode (fx_cc mq_MO_commit) 48 = .ok (.bipush 10, 2) := by decide +kernel
theorem dq_MO_commit_50 : decode (fx_cc mq_MO_commit) 50 = .ok (.if_icmp .ge 52, 3) := by decide +kernel
theorem dq_MO_commit_53 : decode (fx_cc mq_MO_commit) 53 = .ok (.aload_n 0, 1) := by decide +kernel
theorem dq_MO_commit_54 : decode (fx_cc mq_MO_commit) 54 = .ok (.getfield 7, 3) := by decide +kernel
theorem dq_MO_commit_57 : decode (fx_cc mq_MO_commit) 57 = .ok (.iload_n 2, 1) := by decide +kernel
theorem dq_MO_commit_58 : decode (fx_cc mq_MO_commit) 58 = .ok (.baload, 1) := by decide +kernel
theorem dq_MO_commit_59 : decode (fx_cc mq_MO_commit) 59 = .ok (.ifCond .eq 37, 3) := by decide +kernel
theorem dq_MO_commit_62 : decode (fx_cc mq_MO_commit) 62 = .ok (.aload_n 0, 1) := by decide +kernel
theorem dq_MO_commit_63 : decode (fx_cc mq_MO_commit) 63 = .ok (.getfield 13, 3) := by decide +kernel
theorem dq_MO_commit_66 : decode (fx_cc mq_MO_commit) 66 = .ok (.iload_n 2, 1) := by decide +kernel
theorem dq_MO_commit_67 : decode (fx_cc mq_MO_commit) 67 = .ok (.iaload, 1) := by decide +kernel
theorem dq_MO_commit_68 : decode (fx_cc mq_MO_commit) 68 = .ok (.iload_n 1, 1) := by decide +kernel
theorem dq_MO_commit_69 : decode (fx_cc mq_MO_commit) 69 = .ok (.if_icmp .eq 6, 3) := by decide +kernel
theorem dq_MO_commit_72 : decode (fx_cc mq_MO_commit) 72 = .ok (.goto 24, 3) := by decide +kernel
theorem dq_MO_commit_75 : decode (fx_cc mq_MO_commit) 75 = .ok (.aload_n 0, 1) := by decide +kernel
theorem dq_MO_commit_76 : decode (fx_cc mq_MO_commit) 76 = .ok (.iload_n 2, 1) := by decide +kernel
theorem dq_MO_commit_77 : decode (fx_cc mq_MO_commit) 77 = .ok (.bipush 10, 2) := by decide +kernel
theorem dq_MO_commit_79 : decode (fx_cc mq_MO_commit) 79 = .ok (.iload_n 2, 1) := by decide +kernel
theorem dq_MO_commit_80 : decode (fx_cc mq_MO_commit) 80 = .ok (.iadd, 1) := by decide +kernel
theorem dq_MO_commit_81 : decode (fx_cc mq_MO_commit) 81 = .ok (.invokevirtual 170, 3) := by decide +kernel
theorem dq_MO_commit_84 : decode (fx_cc mq_MO_commit) 84 = .ok (.aload_n 0, 1) := by decide +kernel
theorem dq_MO_commit_85 : decode (fx_cc mq_MO_commit) 85 = .ok (.getfield 26, 3) := by decide +kernel
theorem dq_MO_commit_88 : decode (fx_cc mq_MO_commit) 88 = .ok (.iload_n 2, 1) := by decide +kernel
theorem dq_MO_commit_89 : decode (fx_cc mq_MO_commit) 89 = .ok (.aload_n 0, 1) := by decide +kernel
theorem dq_MO_commit_90 : decode (fx_cc mq_MO_commit) 90 = .ok (.getfield 23, 3) := by decide +kernel
theorem dq_MO_commit_93 : decode (fx_cc mq_MO_commit) 93 = .ok (.iload_n 2, 1) := by decide +kernel
theorem dq_MO_commit_94 : decode (fx_cc mq_MO_commit) 94 = .ok (.baload, 1) := by decide +kernel
theorem dq_MO_commit_95 : decode (fx_cc mq_MO_commit) 95 = .ok (.bastore, 1) := by decide +kernel
theorem dq_MO_commit_96 : decode (fx_cc mq_MO_commit) 96 = .ok (.iinc 2 1, 3) := by decide +kernel
theorem dq_MO_commit_99 : decode (fx_cc mq_MO_commit) 99 = .ok (.goto (-52), 3) := by decide +kernel
theorem dq_MO_commit_102 : decode (fx_cc mq_MO_commit) 102 = .ok (.aload_n 0, 1) := by decide +kernel
theorem dq_MO_commit_103 : decode (fx_cc mq_MO_commit) 103 = .ok (.getfield 65, 3) := by decide +kernel
theorem dq_MO_commit_106 : decode (fx_cc mq_MO_commit) 106 = .ok (.iload_n 1, 1) := by decide +kernel
theorem dq_MO_commit_107 : decode (fx_cc mq_MO_commit) 107 = .ok (.iconst 1, 1) := by decide +kernel
theorem dq_MO_commit_108 : decode (fx_cc mq_MO_commit) 108 = .ok (.bastore, 1) := by decide +kernel
theorem dq_MO_commit_109 : decode (fx_cc mq_MO_commit) 109 = .ok (.aload_n 0, 1) := by decide +kernel
theorem dq_MO_commit_110 : decode (fx_cc mq_MO_commit) 110 = .ok (.dup, 1) := by decide +kernel
theorem dq_MO_commit_111 : decode (fx_cc mq_MO_commit) 111 = .ok (.getfield 164, 3) := by decide +kernel
theorem dq_MO_commit_114 : decode (fx_cc mq_MO_commit) 114 = .ok (.iconst 1, 1) := by decide +kernel
theorem dq_MO_commit_115 : decode (fx_cc mq_MO_commit) 115 = .ok (.iadd, 1) := by decide +kernel
theorem dq_MO_commit_116 : decode (fx_cc mq_MO_commit) 116 = .ok (.putfield 164, 3) := by decide +kernel
theorem dq_MO_commit_119 : decode (fx_cc mq_MO_commit) 119 = .ok (.aload_n 0, 1) := by decide +kernel
theorem dq_MO_commit_120 : decode (fx_cc mq_MO_commit) 120 = .ok (.getfield 164, 3) := by decide +kernel
theorem dq_MO_commit_123 : decode (fx_cc mq_MO_commit) 123 = .ok (.ireturn, 1) := by decide +kernel
theorem dq_MO_copyPicture_0 : decode (fx_cc mq_MO_copyPicture) 0 = .ok (.aload_n 0, 1) := by decide +kernel
theorem dq_MO_copyPicture_1 : decode (fx_cc mq_MO_copyPicture) 1 = .ok (.getfield 29, 3) := by decide +kernel
theorem dq_MO_copyPicture_4 : decode (fx_cc mq_MO_copyPicture) 4 = .ok (.iload_n 2, 1) := by decide +kernel
theorem dq_MO_copyPicture_5 : decode (fx_cc mq_MO_copyPicture) 5 = .ok (.aload_n 0, 1) := by decide +kernel
