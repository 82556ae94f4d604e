/-! ===== a row for each instruction ===== -/
theorem dq_MO_join_75 : decode (fx_cc mq_MO_join) 75 = .ok (.imul, 1) := by decide +kernel
theorem dq_MO_join_76 : decode (fx_cc mq_MO_join) 76 = .ok (.isub, 1) := by decide +kernel
theorem dq_MO_join_77 : decode (fx_cc mq_MO_join) 77 = .ok (.aload_n 0, 1) := by decide +kernel
theorem dq_MO_join_78 : decode (fx_cc mq_MO_join) 78 = .ok (.getfield 84, 3) := by decide +kernel
theorem dq_MO_join_81 : decode (fx_cc mq_MO_join) 81 = .ok (.iload 6, 2) := by decide +kernel
theorem dq_MO_join_83 : decode (fx_cc mq_MO_join) 83 = .ok (.iaload, 1) := by decide +kernel
theorem dq_MO_join_84 : decode (fx_cc mq_MO_join) 84 = .ok (.aload_n 0, 1) := by decide +kernel
theorem dq_MO_join_85 : decode (fx_cc mq_MO_join) 85 = .ok (.getfield 87, 3) := by decide +kernel
theorem dq_MO_join_88 : decode (fx_cc mq_MO_join) 88 = .ok (.iload 6, 2) := by decide +kernel
theorem dq_MO_join_90 : decode (fx_cc mq_MO_join) 90 = .ok (.iaload, 1) := by decide +kernel
theorem dq_MO_join_91 : decode (fx_cc mq_MO_join) 91 = .ok (.imul, 1) := by decide +kernel
theorem dq_MO_join_92 : decode (fx_cc mq_MO_join) 92 = .ok (.isub, 1) := by decide +kernel
theorem dq_MO_join_93 : decode (fx_cc mq_MO_join) 93 = .ok (.istore 7, 2) := by decide +kernel
theorem dq_MO_join_95 : decode (fx_cc mq_MO_join) 95 = .ok (.iload 7, 2) := by decide +kernel
theorem dq_MO_join_97 : decode (fx_cc mq_MO_join) 97 = .ok (.iload 4, 2) := by decide +kernel
theorem dq_MO_join_99 : decode (fx_cc mq_MO_join) 99 = .ok (.if_icmp .lt 6, 3) := by decide +kernel
theorem dq_MO_join_102 : decode (fx_cc mq_MO_join) 102 = .ok (.goto 13, 3) := by decide +kernel
theorem dq_MO_join_105 : decode (fx_cc mq_MO_join) 105 = .ok (.iload 7, 2) := by decide +kernel
theorem dq_MO_join_107 : decode (fx_cc mq_MO_join) 107 = .ok (.istore 4, 2) := by decide +kernel
theorem dq_MO_join_109 : decode (fx_cc mq_MO_join) 109 = .ok (.iload 5, 2) := by decide +kernel
theorem dq_MO_join_111 : decode (fx_cc mq_MO_join) 111 = .ok (.istore_n 2, 1) := by decide +kernel
theorem dq_MO_join_112 : decode (fx_cc mq_MO_join) 112 = .ok (.iload 6, 2) := by decide +kernel
theorem dq_MO_join_114 : decode (fx_cc mq_MO_join) 114 = .ok (.istore_n 3, 1) := by decide +kernel
theorem dq_MO_join_115 : decode (fx_cc mq_MO_join) 115 = .ok (.iinc 6 1, 3) := by decide +kernel
theorem dq_MO_join_118 : decode (fx_cc mq_MO_join) 118 = .ok (.goto (-86), 3) := by decide +kernel
theorem dq_MO_join_121 : decode (fx_cc mq_MO_join) 121 = .ok (.iinc 5 1, 3) := by decide +kernel
theorem dq_MO_join_124 : decode (fx_cc mq_MO_join) 124 = .ok (.goto (-110), 3) := by decide +kernel
theorem dq_MO_join_127 : decode (fx_cc mq_MO_join) 127 = .ok (.aload_n 0, 1) := by decide +kernel
theorem dq_MO_join_128 : decode (fx_cc mq_MO_join) 128 = .ok (.iload_n 2, 1) := by decide +kernel
theorem dq_MO_join_129 : decode (fx_cc mq_MO_join) 129 = .ok (.iload_n 3, 1) := by decide +kernel
theorem dq_MO_join_130 : decode (fx_cc mq_MO_join) 130 = .ok (.invokevirtual 187, 3) := by decide +kernel
theorem dq_MO_join_133 : decode (fx_cc mq_MO_join) 133 = .ok (.istore 5, 2) := by decide +kernel
theorem dq_MO_join_135 : decode (fx_cc mq_MO_join) 135 = .ok (.aload_n 0, 1) := by decide +kernel
theorem dq_MO_join_136 : decode (fx_cc mq_MO_join) 136 = .ok (.iload_n 2, 1) := by decide +kernel
theorem dq_MO_join_137 : decode (fx_cc mq_MO_join) 137 = .ok (.iload_n 3, 1) := by decide +kernel
theorem dq_MO_join_138 : decode (fx_cc mq_MO_join) 138 = .ok (.invokevirtual 191, 3) := by decide +kernel
theorem dq_MO_join_141 : decode (fx_cc mq_MO_join) 141 = .ok (.istore 6, 2) := by decide +kernel
theorem dq_MO_join_143 : decode (fx_cc mq_MO_join) 143 = .ok (.aload_n 0, 1) := by decide +kernel
theorem dq_MO_join_144 : decode (fx_cc mq_MO_join) 144 = .ok (.getfield 78, 3) := by decide +kernel
theorem dq_MO_join_147 : decode (fx_cc mq_MO_join) 147 = .ok (.iload_n 2, 1) := by decide +kernel
theorem dq_MO_join_148 : decode (fx_cc mq_MO_join) 148 = .ok (.aload_n 0, 1) := by decide +kernel
theorem dq_MO_join_149 : decode (fx_cc mq_MO_join) 149 = .ok (.getfield 78, 3) := by decide +kernel
theorem dq_MO_join_152 : decode (fx_cc mq_MO_join) 152 = .ok (.iload_n 2, 1) := by decide +kernel
theorem dq_MO_join_153 : decode (fx_cc mq_MO_join) 153 = .ok (.iaload, 1) := by decide +kernel
theorem dq_MO_join_154 : decode (fx_cc mq_MO_join) 154 = .ok (.aload_n 0, 1) := by decide +kernel
theorem dq_MO_join_155 : decode (fx_cc mq_MO_join) 155 = .ok (.getfield 78, 3) := by decide +kernel
theorem dq_MO_join_158 : decode (fx_cc mq_MO_join) 158 = .ok (.iload_n 3, 1) := by decide +kernel
theorem dq_MO_join_159 : decode (fx_cc mq_MO_join) 159 = .ok (.iaload, 1) := by decide +kernel
theorem dq_MO_join_160 : decode (fx_cc mq_MO_join) 160 = .ok (.if_icmp .ge 12, 3) := by decide +kernel
theorem dq_MO_join_163 : decode (fx_cc mq_MO_join) 163 = .ok (.aload_n 0, 1) := by decide +kernel
theorem dq_MO_join_164 : decode (fx_cc mq_MO_join) 164 = .ok (.getfield 78, 3) := by decide +kernel
theorem dq_MO_join_167 : decode (fx_cc mq_MO_join) 167 = .ok (.iload_n 2, 1) := by decide +kernel
theorem dq_MO_join_168 : decode (fx_cc mq_MO_join) 168 = .ok (.iaload, 1) := by decide +kernel
theorem dq_MO_join_169 : decode (fx_cc mq_MO_join) 169 = .ok (.goto 9, 3) := by decide +kernel
theorem dq_MO_join_172 : decode (fx_cc mq_MO_join) 172 = .ok (.aload_n 0, 1) := by decide +kernel
theorem dq_MO_join_173 : decode (fx_cc mq_MO_join) 173 = .ok (.getfield 78, 3) := by decide +kernel
theorem dq_MO_join_176 : decode (fx_cc mq_MO_join) 176 = .ok (.iload_n 3, 1) := by decide +kernel
theorem dq_MO_join_177 : decode (fx_cc mq_MO_join) 177 = .ok (.iaload, 1) := by decide +kernel
theorem dq_MO_join_178 : decode (fx_cc mq_MO_join) 178 = .ok (.iastore, 1) := by decide +kernel
theorem dq_MO_join_179 : decode (fx_cc mq_MO_join) 179 = .ok (.aload_n 0, 1) := by decide +kernel
theorem dq_MO_join_180 : decode (fx_cc mq_MO_join) 180 = .ok (.getfield 81, 3) := by decide +kernel
theorem dq_MO_join_183 : decode (fx_cc mq_MO_join) 183 = .ok (.iload_n 2, 1) := by decide +kernel
theorem dq_MO_join_184 : decode (fx_cc mq_MO_join) 184 = .ok (.aload_n 0, 1) := by decide +kernel
theorem dq_MO_join_185 : decode (fx_cc mq_MO_join) 185 = .ok (.getfield 81, 3) := by decide +kernel
theorem dq_MO_join_188 : decode (fx_cc mq_MO_join) 188 = .ok (.iload_n 2, 1) := by decide +kernel
theorem dq_MO_join_189 : decode (fx_cc mq_MO_join) 189 = .ok (.iaload, 1) := by decide +kernel
theorem dq_MO_join_190 : decode (fx_cc mq_MO_join) 190 = .ok (.aload_n 0, 1) := by decide +kernel
theorem dq_MO_join_191 : decode (fx_cc mq_MO_join) 191 = .ok (.getfield 81, 3) := by decide +kernel
theorem dq_MO_join_194 : decode (fx_cc mq_MO_join) 194 = .ok (.iload_n 3, 1) := by decide +kernel
theorem dq_MO_join_195 : decode (fx_cc mq_MO_join) 195 = .ok (.iaload, 1) := by decide +kernel
theorem dq_MO_join_196 : decode (fx_cc mq_MO_join) 196 = .ok (.if_icmp .ge 12, 3) := by decide +kernel
theorem dq_MO_join_199 : decode (fx_cc mq_MO_join) 199 = .ok (.aload_n 0, 1) := by decide +kernel
theorem dq_MO_join_200 : decode (fx_cc mq_MO_join) 200 = .ok (.getfield 81, 3) := by decide +kernel
theorem dq_MO_join_203 : decode (fx_cc mq_MO_join) 203 = .ok (.iload_n 2, 1) := by decide +kernel
theorem dq_MO_join_204 : decode (fx_cc mq_MO_join) 204 = .ok (.iaload, 1) := by decide +kernel
theorem dq_MO_join_205 : decode (fx_cc mq_MO_join) 205 = .ok (.goto 9, 3) := by decide +kernel
theorem dq_MO_join_208 : decode (fx_cc mq_MO_join) 208 = .ok (.aload_n 0, 1) := by decide +kernel
theorem dq_MO_join_209 : decode (fx_cc mq_MO_join) 209 = .ok (.getfield 81, 3) := by decide +kernel
theorem dq_MO_join_212 : decode (fx_cc mq_MO_join) 212 = .ok (.iload_n 3, 1) := by decide +kernel
theorem dq_MO_join_213 : decode (fx_cc mq_MO_join) 213 = .ok (.iaload, 1) := by decide +kernel
theorem dq_MO_join_214 : decode (fx_cc mq_MO_join) 214 = .ok (.iastore, 1) := by decide +kernel
theorem dq_MO_join_215 : decode (fx_cc mq_MO_join) 215 = .ok (.aload_n 0, 1) := by decide +kernel
theorem dq_MO_join_216 : decode (fx_cc mq_MO_join) 216 = .ok (.getfield 84, 3) := by decide +kernel
theorem dq_MO_join_219 : decode (fx_cc mq_MO_join) 219 = .ok (.iload_n 2, 1) := by decide +kernel
theorem dq_MO_join_220 : decode (fx_cc mq_MO_join) 220 = .ok (.iload 5, 2) := by decide +kernel
theorem dq_MO_join_222 : decode (fx_cc mq_MO_join) 222 = .ok (.iastore, 1) := by decide +kernel
theorem dq_MO_join_223 : decode (fx_cc mq_MO_join) 223 = .ok (.aload_n 0, 1) := by decide +kernel
theorem dq_MO_join_224 : decode (fx_cc mq_MO_join) 224 = .ok (.getfield 87, 3) := by decide +kernel
theorem dq_MO_join_227 : decode (fx_cc mq_MO_join) 227 = .ok (.iload_n 2, 1) := by decide +kernel
theorem dq_MO_join_228 : decode (fx_cc mq_MO_join) 228 = .ok (.iload 6, 2) := by decide +kernel
theorem dq_MO_join_230 : decode (fx_cc mq_MO_join) 230 = .ok (.iastore, 1) := by decide +kernel
theorem dq_MO_join_231 : decode (fx_cc mq_MO_join) 231 = .ok (.aload_n 0, 1) := by decide +kernel
theorem dq_MO_join_232 : decode (fx_cc mq_MO_join) 232 = .ok (.getfield 75, 3) := by decide +kernel
theorem dq_MO_join_235 : decode (fx_cc mq_MO_join) 235 = .ok (.iload_n 1, 1) := by decide +kernel
theorem dq_MO_join_236 : decode (fx_cc mq_MO_join) 236 = .ok (.bipush 6, 2) := by decide +kernel
theorem dq_MO_join_238 : decode (fx_cc mq_MO_join) 238 = .ok (.iastore, 1) := by decide +kernel
theorem dq_MO_join_239 : decode (fx_cc mq_MO_join) 239 = .ok (.iload_n 3, 1) := by decide +kernel
theorem dq_MO_join_240 : decode (fx_cc mq_MO_join) 240 = .ok (.istore 7, 2) := by decide +kernel
theorem dq_MO_join_242 : decode (fx_cc mq_MO_join) 242 = .ok (.iload 7, 2) := by decide +kernel
theorem dq_MO_join_244 : decode (fx_cc mq_MO_join) 244 = .ok (.bipush 7, 2) := by decide +kernel
theorem dq_MO_join_246 : decode (fx_cc mq_MO_join) 246 = .ok (.iload_n 1, 1) := by decide +kernel
theorem dq_MO_join_247 : decode (fx_cc mq_MO_join) 247 = .ok (.imul, 1) := by decide +kernel
theorem dq_MO_join_248 : decode (fx_cc mq_MO_join) 248 = .ok (.bipush 6, 2) := by decide +kernel
theorem dq_MO_join_250 : decode (fx_cc mq_MO_join) 250 = .ok (.iadd, 1) := by decide +kernel
theorem dq_MO_join_251 : decode (fx_cc mq_MO_join) 251 = .ok (.if_icmp .ge 73, 3) := by decide +kernel
theorem dq_MO_join_254 : decode (fx_cc mq_MO_join) 254 = .ok (.aload_n 0, 1) := by decide +kernel
theorem dq_MO_join_255 : decode (fx_cc mq_MO_join) 255 = .ok (.getfield 78, 3) := by decide +kernel
theorem dq_MO_join_258 : decode (fx_cc mq_MO_join) 258 = .ok (.iload 7, 2) := by decide +kernel
theorem dq_MO_join_260 : decode (fx_cc mq_MO_join) 260 = .ok (.aload_n 0, 1) := by decide +kernel
theorem dq_MO_join_261 : decode (fx_cc mq_MO_join) 261 = .ok (.getfield 78, 3) := by decide +kernel
theorem dq_MO_join_264 : decode (fx_cc mq_MO_join) 264 = .ok (.iload 7, 2) := by decide +kernel
theorem dq_MO_join_266 : decode (fx_cc mq_MO_join) 266 = .ok (.iconst 1, 1) := by decide +kernel
theorem dq_MO_join_267 : decode (fx_cc mq_MO_join) 267 = .ok (.iadd, 1) := by decide +kernel
theorem dq_MO_join_268 : decode (fx_cc mq_MO_join) 268 = .ok (.iaload, 1) := by decide +kernel
theorem dq_MO_join_269 : decode (fx_cc mq_MO_join) 269 = .ok (.iastore, 1) := by decide +kernel
theorem dq_MO_join_270 : decode (fx_cc mq_MO_join) 270 = .ok (.aload_n 0, 1) := by decide +kernel
theorem dq_MO_join_271 : decode (fx_cc mq_MO_join) 271 = .ok (.getfield 81, 3) := by decide +kernel
theorem dq_MO_join_274 : decode (fx_cc mq_MO_join) 274 = .ok (.iload 7, 2) := by decide +kernel
theorem dq_MO_join_276 : decode (fx_cc mq_MO_join) 276 = .ok (.aload_n 0, 1) := by decide +kernel
theorem dq_MO_join_277 : decode (fx_cc mq_MO_join) 277 = .ok (.getfield 81, 3) := by decide +kernel
theorem dq_MO_join_280 : decode (fx_cc mq_MO_join) 280 = .ok (.iload 7, 2) := by decide +kernel
theorem dq_MO_join_282 : decode (fx_cc mq_MO_join) 282 = .ok (.iconst 1, 1) := by decide +kernel
theorem dq_MO_join_283 : decode (fx_cc mq_MO_join) 283 = .ok (.iadd, 1) := by decide +kernel
theorem dq_MO_join_284 : decode (fx_cc mq_MO_join) 284 = .ok (.iaload, 1) := by decide +kernel
theorem dq_MO_join_285 : decode (fx_cc mq_MO_join) 285 = .ok (.iastore, 1) := by decide +kernel
theorem dq_MO_join_286 : decode (fx_cc mq_MO_join) 286 = .ok (.aload_n 0, 1) := by decide +kernel
theorem dq_MO_join_287 : decode (fx_cc mq_MO_join) 287 = .ok (.getfield 84, 3) := by decide +kernel
theorem dq_MO_join_290 : decode (fx_cc mq_MO_join) 290 = .ok (.iload 7, 2) := by decide +kernel
theorem dq_MO_join_292 : decode (fx_cc mq_MO_join) 292 = .ok (.aload_n 0, 1) := by decide +kernel
theorem dq_MO_join_293 : decode (fx_cc mq_MO_join) 293 = .ok (.getfield 84, 3) := by decide +kernel
theorem dq_MO_join_296 : decode (fx_cc mq_MO_join) 296 = .ok (.iload 7, 2) := by decide +kernel
theorem dq_MO_join_298 : decode (fx_cc mq_MO_join) 298 = .ok (.iconst 1, 1) := by decide +kernel
theorem dq_MO_join_299 : decode (fx_cc mq_MO_join) 299 = .ok (.iadd, 1) := by decide +kernel
theorem dq_MO_join_300 : decode (fx_cc mq_MO_join) 300 = .ok (.iaload, 1) := by decide +kernel
theorem dq_MO_join_301 : decode (fx_cc mq_MO_join) 301 = .ok (.iastore, 1) := by decide +kernel
theorem dq_MO_join_302 : decode (fx_cc mq_MO_join) 302 = .ok (.aload_n 0, 1) := by decide +kernel
theorem dq_MO_join_303 : decode (fx_cc mq_MO_join) 303 = .ok (.getfield 87, 3) := by decide +kernel
theorem dq_MO_join_306 : decode (fx_cc mq_MO_join) 306 = .ok (.iload 7, 2) := by decide +kernel
theorem dq_MO_join_308 : decode (fx_cc mq_MO_join) 308 = .ok (.aload_n 0, 1) := by decide +kernel
theorem dq_MO_join_309 : decode (fx_cc mq_MO_join) 309 = .ok (.getfield 87, 3) := by decide +kernel
theorem dq_MO_join_312 : decode (fx_cc mq_MO_join) 312 = .ok (.iload 7, 2) := by decide +kernel
theorem dq_MO_join_314 : decode (fx_cc mq_MO_join) 314 = .ok (.iconst 1, 1) := by decide +kernel
theorem dq_MO_join_315 : decode (fx_cc mq_MO_join) 315 = .ok (.iadd, 1) := by decide +kernel
theorem dq_MO_join_316 : decode (fx_cc mq_MO_join) 316 = .ok (.iaload, 1) := by decide +kernel
theorem dq_MO_join_317 : decode (fx_cc mq_MO_join) 317 = .ok (.iastore, 1) := by decide +kernel
theorem dq_MO_join_318 : decode (fx_cc mq_MO_join) 318 = .ok (.iinc 7 1, 3) := by decide +kernel
theorem dq_MO_join_321 : decode (fx_cc mq_MO_join) 321 = .ok (.goto (-79), 3) := by decide +kernel
theorem dq_MO_join_324 : decode (fx_cc mq_MO_join) 324 = .ok (.return_, 1) := by decide +kernel
theorem dq_MO_hullWide_0 : decode (fx_cc mq_MO_hullWide) 0 = .ok (.aload_n 0, 1) := by decide +kernel
theorem dq_MO_hullWide_1 : decode (fx_cc mq_MO_hullWide) 1 = .ok (.getfield 78, 3) := by decide +kernel
theorem dq_MO_hullWide_4 : decode (fx_cc mq_MO_hullWide) 4 = .ok (.iload_n 1, 1) := by decide +kernel
theorem dq_MO_hullWide_5 : decode (fx_cc mq_MO_hullWide) 5 = .ok (.iaload, 1) := by decide +kernel
theorem dq_MO_hullWide_6 : decode (fx_cc mq_MO_hullWide) 6 = .ok (.aload_n 0, 1) := by decide +kernel
theorem dq_MO_hullWide_7 : decode (fx_cc mq_MO_hullWide) 7 = .ok (.getfield 78, 3) := by decide +kernel
theorem dq_MO_hullWide_10 : decode (fx_cc mq_MO_hullWide) 10 = .ok (.iload_n 2, 1) := by decide +kernel
theorem dq_MO_hullWide_11 : decode (fx_cc mq_MO_hullWide) 11 = .ok (.iaload, 1) := by decide +kernel
theorem dq_MO_hullWide_12 : decode (fx_cc mq_MO_hullWide) 12 = .ok (.if_icmp .ge 12, 3) := by decide +kernel
theorem dq_MO_hullWide_15 : decode (fx_cc mq_MO_hullWide) 15 = .ok (.aload_n 0, 1) := by decide +kernel
theorem dq_MO_hullWide_16 : decode (fx_cc mq_MO_hullWide) 16 = .ok (.getfield 78, 3) := by decide +kernel
theorem dq_MO_hullWide_19 : decode (fx_cc mq_MO_hullWide) 19 = .ok (.iload_n 1, 1) := by decide +kernel
theorem dq_MO_hullWide_20 : decode (fx_cc mq_MO_hullWide) 20 = .ok (.iaload, 1) := by decide +kernel
theorem dq_MO_hullWide_21 : decode (fx_cc mq_MO_hullWide) 21 = .ok (.goto 9, 3) := by decide +kernel
theorem dq_MO_hullWide_24 : decode (fx_cc mq_MO_hullWide) 24 = .ok (.aload_n 0, 1) := by decide +kernel
theorem dq_MO_hullWide_25 : decode (fx_cc mq_MO_hullWide) 25 = .ok (.getfield 78, 3) := by decide +kernel
theorem dq_MO_hullWide_28 : decode (fx_cc mq_MO_hullWide) 28 = .ok (.iload_n 2, 1) := by decide +kernel
theorem dq_MO_hullWide_29 : decode (fx_cc mq_MO_hullWide) 29 = .ok (.iaload, 1) := by decide +kernel
theorem dq_MO_hullWide_30 : decode (fx_cc mq_MO_hullWide) 30 = .ok (.istore_n 3, 1) := by decide +kernel
theorem dq_MO_hullWide_31 : decode (fx_cc mq_MO_hullWide) 31 = .ok (.aload_n 0, 1) := by decide +kernel
theorem dq_MO_hullWide_32 : decode (fx_cc mq_MO_hullWide) 32 = .ok (.getfield 78, 3) := by decide +kernel
theorem dq_MO_hullWide_35 : decode (fx_cc mq_MO_hullWide) 35 = .ok (.iload_n 1, 1) := by decide +kernel
theorem dq_MO_hullWide_36 : decode (fx_cc mq_MO_hullWide) 36 = .ok (.iaload, 1) := by decide +kernel
theorem dq_MO_hullWide_37 : decode (fx_cc mq_MO_hullWide) 37 = .ok (.aload_n 0, 1) := by decide +kernel
theorem dq_MO_hullWide_38 : decode (fx_cc mq_MO_hullWide) 38 = .ok (.getfield 84, 3) := by decide +kernel
theorem dq_MO_hullWide_41 : decode (fx_cc mq_MO_hullWide) 41 = .ok (.iload_n 1, 1) := by decide +kernel
theorem dq_MO_hullWide_42 : decode (fx_cc mq_MO_hullWide) 42 = .ok (.iaload, 1) := by decide +kernel
theorem dq_MO_hullWide_43 : decode (fx_cc mq_MO_hullWide) 43 = .ok (.iadd, 1) := by decide +kernel
theorem dq_MO_hullWide_44 : decode (fx_cc mq_MO_hullWide) 44 = .ok (.aload_n 0, 1) := by decide +kernel
theorem dq_MO_hullWide_45 : decode (fx_cc mq_MO_hullWide) 45 = .ok (.getfield 78, 3) := by decide +kernel
theorem dq_MO_hullWide_48 : decode (fx_cc mq_MO_hullWide) 48 = .ok (.iload_n 2, 1) := by decide +kernel
theorem dq_MO_hullWide_49 : decode (fx_cc mq_MO_hullWide) 49 = .ok (.iaload, 1) := by decide +kernel
theorem dq_MO_hullWide_50 : decode (fx_cc mq_MO_hullWide) 50 = .ok (.aload_n 0, 1) := by decide +kernel
theorem dq_MO_hullWide_51 : decode (fx_cc mq_MO_hullWide) 51 = .ok (.getfield 84, 3) := by decide +kernel
theorem dq_MO_hullWide_54 : decode (fx_cc mq_MO_hullWide) 54 = .ok (.iload_n 2, 1) := by decide +kernel
theorem dq_MO_hullWide_55 : decode (fx_cc mq_MO_hullWide) 55 = .ok (.iaload, 1) := by decide +kernel
theorem dq_MO_hullWide_56 : decode (fx_cc mq_MO_hullWide) 56 = .ok (.iadd, 1) := by decide +kernel
theorem dq_MO_hullWide_57 : decode (fx_cc mq_MO_hullWide) 57 = .ok (.if_icmp .le 19, 3) := by decide +kernel
theorem dq_MO_hullWide_60 : decode (fx_cc mq_MO_hullWide) 60 = .ok (.aload_n 0, 1) := by decide +kernel
theorem dq_MO_hullWide_61 : decode (fx_cc mq_MO_hullWide) 61 = .ok (.getfield 78, 3) := by decide +kernel
theorem dq_MO_hullWide_64 : decode (fx_cc mq_MO_hullWide) 64 = .ok (.iload_n 1, 1) := by decide +kernel
theorem dq_MO_hullWide_65 : decode (fx_cc mq_MO_hullWide) 65 = .ok (.iaload, 1) := by decide +kernel
theorem dq_MO_hullWide_66 : decode (fx_cc mq_MO_hullWide) 66 = .ok (.aload_n 0, 1) := by decide +kernel
theorem dq_MO_hullWide_67 : decode (fx_cc mq_MO_hullWide) 67 = .ok (.getfield 84, 3) := by decide +kernel
theorem dq_MO_hullWide_70 : decode (fx_cc mq_MO_hullWide) 70 = .ok (.iload_n 1, 1) := by decide +kernel
theorem dq_MO_hullWide_71 : decode (fx_cc mq_MO_hullWide) 71 = .ok (.iaload, 1) := by decide +kernel
theorem dq_MO_hullWide_72 : decode (fx_cc mq_MO_hullWide) 72 = .ok (.iadd, 1) := by decide +kernel
theorem dq_MO_hullWide_73 : decode (fx_cc mq_MO_hullWide) 73 = .ok (.goto 16, 3) := by decide +kernel
theorem dq_MO_hullWide_76 : decode (fx_cc mq_MO_hullWide) 76 = .ok (.aload_n 0, 1) := by decide +kernel
theorem dq_MO_hullWide_77 : decode (fx_cc mq_MO_hullWide) 77 = .ok (.getfield 78, 3) := by decide +kernel
theorem dq_MO_hullWide_80 : decode (fx_cc mq_MO_hullWide) 80 = .ok (.iload_n 2, 1) := by decide +kernel
theorem dq_MO_hullWide_81 : decode (fx_cc mq_MO_hullWide) 81 = .ok (.iaload, 1) := by decide +kernel
theorem dq_MO_hullWide_82 : decode (fx_cc mq_MO_hullWide) 82 = .ok (.aload_n 0, 1) := by decide +kernel
theorem dq_MO_hullWide_83 : decode (fx_cc mq_MO_hullWide) 83 = .ok (.getfield 84, 3) := by decide +kernel
theorem dq_MO_hullWide_86 : decode (fx_cc mq_MO_hullWide) 86 = .ok (.iload_n 2, 1) := by decide +kernel
theorem dq_MO_hullWide_87 : decode (fx_cc mq_MO_hullWide) 87 = .ok (.iaload, 1) := by decide +kernel
theorem dq_MO_hullWide_88 : decode (fx_cc mq_MO_hullWide) 88 = .ok (.iadd, 1) := by decide +kernel
theorem dq_MO_hullWide_89 : decode (fx_cc mq_MO_hullWide) 89 = .ok (.istore 4, 2) := by decide +kernel
theorem dq_MO_hullWide_91 : decode (fx_cc mq_MO_hullWide) 91 = .ok (.iload 4, 2) := by decide +kernel
theorem dq_MO_hullWide_93 : decode (fx_cc mq_MO_hullWide) 93 = .ok (.iload_n 3, 1) := by decide +kernel
theorem dq_MO_hullWide_94 : decode (fx_cc mq_MO_hullWide) 94 = .ok (.isub, 1) := by decide +kernel
theorem dq_MO_hullWide_95 : decode (fx_cc mq_MO_hullWide) 95 = .ok (.ireturn, 1) := by decide +kernel
theorem dq_MO_hullHigh_0 : decode (fx_cc mq_MO_hullHigh) 0 = .ok (.aload_n 0, 1) := by decide +kernel
theorem dq_MO_hullHigh_1 : decode (fx_cc mq_MO_hullHigh) 1 = .ok (.getfield 81, 3) := by decide +kernel
theorem dq_MO_hullHigh_4 : decode (fx_cc mq_MO_hullHigh) 4 = .ok (.iload_n 1, 1) := by decide +kernel
theorem dq_MO_hullHigh_5 : decode (fx_cc mq_MO_hullHigh) 5 = .ok (.iaload, 1) := by decide +kernel
theorem dq_MO_hullHigh_6 : decode (fx_cc mq_MO_hullHigh) 6 = .ok (.aload_n 0, 1) := by decide +kernel
theorem dq_MO_hullHigh_7 : decode (fx_cc mq_MO_hullHigh) 7 = .ok (.getfield 81, 3) := by decide +kernel
theorem dq_MO_hullHigh_10 : decode (fx_cc mq_MO_hullHigh) 10 = .ok (.iload_n 2, 1) := by decide +kernel
theorem dq_MO_hullHigh_11 : decode (fx_cc mq_MO_hullHigh) 11 = .ok (.iaload, 1) := by decide +kernel
theorem dq_MO_hullHigh_12 : decode (fx_cc mq_MO_hullHigh) 12 = .ok (.if_icmp .ge 12, 3) := by decide +kernel
theorem dq_MO_hullHigh_15 : decode (fx_cc mq_MO_hullHigh) 15 = .ok (.aload_n 0, 1) := by decide +kernel
theorem dq_MO_hullHigh_16 : decode (fx_cc mq_MO_hullHigh) 16 = .ok (.getfield 81, 3) := by decide +kernel
theorem dq_MO_hullHigh_19 : decode (fx_cc mq_MO_hullHigh) 19 = .ok (.iload_n 1, 1) := by decide +kernel
theorem dq_MO_hullHigh_20 : decode (fx_cc mq_MO_hullHigh) 20 = .ok (.iaload, 1) := by decide +kernel
theorem dq_MO_hullHigh_21 : decode (fx_cc mq_MO_hullHigh) 21 = .ok (.goto 9, 3) := by decide +kernel
theorem dq_MO_hullHigh_24 : decode (fx_cc mq_MO_hullHigh) 24 = .ok (.aload_n 0, 1) := by decide +kernel
theorem dq_MO_hullHigh_25 : decode (fx_cc mq_MO_hullHigh) 25 = .ok (.getfield 81, 3) := by decide +kernel
theorem dq_MO_hullHigh_28 : decode (fx_cc mq_MO_hullHigh) 28 = .ok (.iload_n 2, 1) := by decide +kernel
theorem dq_MO_hullHigh_29 : decode (fx_cc mq_MO_hullHigh) 29 = .ok (.iaload, 1) := by decide +kernel
theorem dq_MO_hullHigh_30 : decode (fx_cc mq_MO_hullHigh) 30 = .ok (.istore_n 3, 1) := by decide +kernel
theorem dq_MO_hullHigh_31 : decode (fx_cc mq_MO_hullHigh) 31 = .ok (.aload_n 0, 1) := by decide +kernel
theorem dq_MO_hullHigh_32 : decode (fx_cc mq_MO_hullHigh) 32 = .ok (.getfield 81, 3) := by decide +kernel
theorem dq_MO_hullHigh_35 : decode (fx_cc mq_MO_hullHigh) 35 = .ok (.iload_n 1, 1) := by decide +kernel
theorem dq_MO_hullHigh_36 : decode (fx_cc mq_MO_hullHigh) 36 = .ok (.iaload, 1) := by decide +kernel
theorem dq_MO_hullHigh_37 : decode (fx_cc mq_MO_hullHigh) 37 = .ok (.aload_n 0, 1) := by decide +kernel
theorem dq_MO_hullHigh_38 : decode (fx_cc mq_MO_hullHigh) 38 = .ok (.getfield 87, 3) := by decide +kernel
theorem dq_MO_hullHigh_41 : decode (fx_cc mq_MO_hullHigh) 41 = .ok (.iload_n 1, 1) := by decide +kernel
theorem dq_MO_hullHigh_42 : decode (fx_cc mq_MO_hullHigh) 42 = .ok (.iaload, 1) := by decide +kernel
theorem dq_MO_hullHigh_43 : decode (fx_cc mq_MO_hullHigh) 43 = .ok (.iadd, 1) := by decide +kernel
theorem dq_MO_hullHigh_44 : decode (fx_cc mq_MO_hullHigh) 44 = .ok (.aload_n 0, 1) := by decide +kernel
theorem dq_MO_hullHigh_45 : decode (fx_cc mq_MO_hullHigh) 45 = .ok (.getfield 81, 3) := by decide +kernel
theorem dq_MO_hullHigh_48 : decode (fx_cc mq_MO_hullHigh) 48 = .ok (.iload_n 2, 1) := by decide +kernel
theorem dq_MO_hullHigh_49 : decode (fx_cc mq_MO_hullHigh) 49 = .ok (.iaload, 1) := by decide +kernel
theorem dq_MO_hullHigh_50 : decode (fx_cc mq_MO_hullHigh) 50 = .ok (.aload_n 0, 1) := by decide +kernel
theorem dq_MO_hullHigh_51 : decode (fx_cc mq_MO_hullHigh) 51 = .ok (.getfield 87, 3) := by decide +kernel
theorem dq_MO_hullHigh_54 : decode (fx_cc mq_MO_hullHigh) 54 = .ok (.iload_n 2, 1) := by decide +kernel
theorem dq_MO_hullHigh_55 : decode (fx_cc mq_MO_hullHigh) 55 = .ok (.iaload, 1) := by decide +kernel
theorem dq_MO_hullHigh_56 : decode (fx_cc mq_MO_hullHigh) 56 = .ok (.iadd, 1) := by decide +kernel
theorem dq_MO_hullHigh_57 : decode (fx_cc mq_MO_hullHigh) 57 = .ok (.if_icmp .le 19, 3) := by decide +kernel
theorem dq_MO_hullHigh_60 : decode (fx_cc mq_MO_hullHigh) 60 = .ok (.aload_n 0, 1) := by decide +kernel
theorem dq_MO_hullHigh_61 : decode (fx_cc mq_MO_hullHigh) 61 = .ok (.getfield 81, 3) := by decide +kernel
theorem dq_MO_hullHigh_64 : decode (fx_cc mq_MO_hullHigh) 64 = .ok (.iload_n 1, 1) := by decide +kernel
theorem dq_MO_hullHigh_65 : decode (fx_cc mq_MO_hullHigh) 65 = .ok (.iaload, 1) := by decide +kernel
theorem dq_MO_hullHigh_66 : decode (fx_cc mq_MO_hullHigh) 66 = .ok (.aload_n 0, 1) := by decide +kernel
theorem dq_MO_hullHigh_67 : decode (fx_cc mq_MO_hullHigh) 67 = .ok (.getfield 87, 3) := by decide +kernel
theorem dq_MO_hullHigh_70 : decode (fx_cc mq_MO_hullHigh) 70 = .ok (.iload_n 1, 1) := by decide +kernel
theorem dq_MO_hullHigh_71 : decode (fx_cc mq_MO_hullHigh) 71 = .ok (.iaload, 1) := by decide +kernel
theorem dq_MO_hullHigh_72 : decode (fx_cc mq_MO_hullHigh) 72 = .ok (.iadd, 1) := by decide +kernel
theorem dq_MO_hullHigh_73 : decode (fx_cc mq_MO_hullHigh) 73 = .ok (.goto 16, 3) := by decide +kernel
theorem dq_MO_hullHigh_76 : decode (fx_cc mq_MO_hullHigh) 76 = .ok (.aload_n 0, 1) := by decide +kernel
theorem dq_MO_hullHigh_77 : decode (fx_cc mq_MO_hullHigh) 77 = .ok (.getfield 81, 3) := by decide +kernel
theorem dq_MO_hullHigh_80 : decode (fx_cc mq_MO_hullHigh) 80 = .ok (.iload_n 2, 1) := by decide +kernel
theorem dq_MO_hullHigh_81 : decode (fx_cc mq_MO_hullHigh) 81 = .ok (.iaload, 1) := by decide +kernel
theorem dq_MO_hullHigh_82 : decode (fx_cc mq_MO_hullHigh) 82 = .ok (.aload_n 0, 1) := by decide +kernel
theorem dq_MO_hullHigh_83 : decode (fx_cc mq_MO_hullHigh) 83 = .ok (.getfield 87, 3) := by decide +kernel
theorem dq_MO_hullHigh_86 : decode (fx_cc mq_MO_hullHigh) 86 = .ok (.iload_n 2, 1) := by decide +kernel
theorem dq_MO_hullHigh_87 : decode (fx_cc mq_MO_hullHigh) 87 = .ok (.iaload, 1) := by decide +kernel
theorem dq_MO_hullHigh_88 : decode (fx_cc mq_MO_hullHigh) 88 = .ok (.iadd, 1) := by decide +kernel
theorem dq_MO_hullHigh_89 : decode (fx_cc mq_MO_hullHigh) 89 = .ok (.istore 4, 2) := by decide +kernel
theorem dq_MO_hullHigh_91 : decode (fx_cc mq_MO_hullHigh) 91 = .ok (.iload 4, 2) := by decide +kernel
theorem dq_MO_hullHigh_93 : decode (fx_cc mq_MO_hullHigh) 93 = .ok (.iload_n 3, 1) := by decide +kernel
theorem dq_MO_hullHigh_94 : decode (fx_cc mq_MO_hullHigh) 94 = .ok (.isub, 1) := by decide +kernel
theorem dq_MO_hullHigh_95 : decode (fx_cc mq_MO_hullHigh) 95 = .ok (.ireturn, 1) := by decide +kernel
theorem dq_MO_findStep_0 : decode (fx_cc mq_MO_findStep) 0 = .ok (.iconst 0, 1) := by decide +kernel
theorem dq_MO_findStep_1 : decode (fx_cc mq_MO_findStep) 1 = .ok (.istore_n 1, 1) := by decide +kernel
theorem dq_MO_findStep_2 : decode (fx_cc mq_MO_findStep) 2 = .ok (.iload_n 1, 1) := by decide +kernel
theorem dq_MO_findStep_3 : decode (fx_cc mq_MO_findStep) 3 = .ok (.ifCond .ne 110, 3) := by decide +kernel
theorem dq_MO_findStep_6 : decode (fx_cc mq_MO_findStep) 6 = .ok (.aload_n 0, 1) := by decide +kernel
theorem dq_MO_findStep_7 : decode (fx_cc mq_MO_findStep) 7 = .ok (.getfield 219, 3) := by decide +kernel
theorem dq_MO_findStep_10 : decode (fx_cc mq_MO_findStep) 10 = .ok (.aload_n 0, 1) := by decide +kernel
theorem dq_MO_findStep_11 : decode (fx_cc mq_MO_findStep) 11 = .ok (.getfield 75, 3) := by decide +kernel
theorem dq_MO_findStep_14 : decode (fx_cc mq_MO_findStep) 14 = .ok (.aload_n 0, 1) := by decide +kernel
theorem dq_MO_findStep_15 : decode (fx_cc mq_MO_findStep) 15 = .ok (.getfield 68, 3) := by decide +kernel
theorem dq_MO_findStep_18 : decode (fx_cc mq_MO_findStep) 18 = .ok (.iaload, 1) := by decide +kernel
theorem dq_MO_findStep_19 : decode (fx_cc mq_MO_findStep) 19 = .ok (.if_icmp .ge 94, 3) := by decide +kernel
theorem dq_MO_findStep_22 : decode (fx_cc mq_MO_findStep) 22 = .ok (.aload_n 0, 1) := by decide +kernel
theorem dq_MO_findStep_23 : decode (fx_cc mq_MO_findStep) 23 = .ok (.getfield 222, 3) := by decide +kernel
theorem dq_MO_findStep_26 : decode (fx_cc mq_MO_findStep) 26 = .ok (.ifCond .ne 7, 3) := by decide +kernel
theorem dq_MO_findStep_29 : decode (fx_cc mq_MO_findStep) 29 = .ok (.iconst 1, 1) := by decide +kernel
theorem dq_MO_findStep_30 : decode (fx_cc mq_MO_findStep) 30 = .ok (.goto 4, 3) := by decide +kernel
theorem dq_MO_findStep_33 : decode (fx_cc mq_MO_findStep) 33 = .ok (.iconst 0, 1) := by decide +kernel
theorem dq_MO_findStep_34 : decode (fx_cc mq_MO_findStep) 34 = .ok (.istore_n 1, 1) := by decide +kernel
theorem dq_MO_findStep_35 : decode (fx_cc mq_MO_findStep) 35 = .ok (.iload_n 1, 1) := by decide +kernel
theorem dq_MO_findStep_36 : decode (fx_cc mq_MO_findStep) 36 = .ok (.ifCond .ne 52, 3) := by decide +kernel
theorem dq_MO_findStep_39 : decode (fx_cc mq_MO_findStep) 39 = .ok (.aload_n 0, 1) := by decide +kernel
theorem dq_MO_findStep_40 : decode (fx_cc mq_MO_findStep) 40 = .ok (.getfield 222, 3) := by decide +kernel
theorem dq_MO_findStep_43 : decode (fx_cc mq_MO_findStep) 43 = .ok (.bipush 10, 2) := by decide +kernel
theorem dq_MO_findStep_45 : decode (fx_cc mq_MO_findStep) 45 = .ok (.if_icmp .gt 43, 3) := by decide +kernel
theorem dq_MO_findStep_48 : decode (fx_cc mq_MO_findStep) 48 = .ok (.aload_n 0, 1) := by decide +kernel
theorem dq_MO_findStep_49 : decode (fx_cc mq_MO_findStep) 49 = .ok (.aload_n 0, 1) := by decide +kernel
theorem dq_MO_findStep_50 : decode (fx_cc mq_MO_findStep) 50 = .ok (.getfield 222, 3) := by decide +kernel
theorem dq_MO_findStep_53 : decode (fx_cc mq_MO_findStep) 53 = .ok (.iconst 1, 1) := by decide +kernel
theorem dq_MO_findStep_54 : decode (fx_cc mq_MO_findStep) 54 = .ok (.isub, 1) := by decide +kernel
theorem dq_MO_findStep_55 : decode (fx_cc mq_MO_findStep) 55 = .ok (.invokevirtual 232, 3) := by decide +kernel
theorem dq_MO_findStep_58 : decode (fx_cc mq_MO_findStep) 58 = .ok (.aload_n 0, 1) := by decide +kernel
theorem dq_MO_findStep_59 : decode (fx_cc mq_MO_findStep) 59 = .ok (.getfield 144, 3) := by decide +kernel
theorem dq_MO_findStep_62 : decode (fx_cc mq_MO_findStep) 62 = .ok (.ifCond .le 7, 3) := by decide +kernel
theorem dq_MO_findStep_65 : decode (fx_cc mq_MO_findStep) 65 = .ok (.iconst 1, 1) := by decide +kernel
theorem dq_MO_findStep_66 : decode (fx_cc mq_MO_findStep) 66 = .ok (.goto 4, 3) := by decide +kernel
theorem dq_MO_findStep_69 : decode (fx_cc mq_MO_findStep) 69 = .ok (.iconst 0, 1) := by decide +kernel
theorem dq_MO_findStep_70 : decode (fx_cc mq_MO_findStep) 70 = .ok (.istore_n 1, 1) := by decide +kernel
theorem dq_MO_findStep_71 : decode (fx_cc mq_MO_findStep) 71 = .ok (.iload_n 1, 1) := by decide +kernel
theorem dq_MO_findStep_72 : decode (fx_cc mq_MO_findStep) 72 = .ok (.ifCond .ne (-37), 3) := by decide +kernel
theorem dq_MO_findStep_75 : decode (fx_cc mq_MO_findStep) 75 = .ok (.aload_n 0, 1) := by decide +kernel
theorem dq_MO_findStep_76 : decode (fx_cc mq_MO_findStep) 76 = .ok (.dup, 1) := by decide +kernel
theorem dq_MO_findStep_77 : decode (fx_cc mq_MO_findStep) 77 = .ok (.getfield 222, 3) := by decide +kernel
theorem dq_MO_findStep_80 : decode (fx_cc mq_MO_findStep) 80 = .ok (.iconst 1, 1) := by decide +kernel
theorem dq_MO_findStep_81 : decode (fx_cc mq_MO_findStep) 81 = .ok (.iadd, 1) := by decide +kernel
theorem dq_MO_findStep_82 : decode (fx_cc mq_MO_findStep) 82 = .ok (.putfield 222, 3) := by decide +kernel
theorem dq_MO_findStep_85 : decode (fx_cc mq_MO_findStep) 85 = .ok (.goto (-50), 3) := by decide +kernel
theorem dq_MO_findStep_88 : decode (fx_cc mq_MO_findStep) 88 = .ok (.iload_n 1, 1) := by decide +kernel
theorem dq_MO_findStep_89 : decode (fx_cc mq_MO_findStep) 89 = .ok (.ifCond .eq 6, 3) := by decide +kernel
theorem dq_MO_findStep_92 : decode (fx_cc mq_MO_findStep) 92 = .ok (.goto (-90), 3) := by decide +kernel
theorem dq_MO_findStep_95 : decode (fx_cc mq_MO_findStep) 95 = .ok (.aload_n 0, 1) := by decide +kernel
theorem dq_MO_findStep_96 : decode (fx_cc mq_MO_findStep) 96 = .ok (.dup, 1) := by decide +kernel
theorem dq_MO_findStep_97 : decode (fx_cc mq_MO_findStep) 97 = .ok (.getfield 219, 3) := by decide +kernel
theorem dq_MO_findStep_100 : decode (fx_cc mq_MO_findStep) 100 = .ok (.iconst 1, 1) := by decide +kernel
theorem dq_MO_findStep_101 : decode (fx_cc mq_MO_findStep) 101 = .ok (.iadd, 1) := by decide +kernel
theorem dq_MO_findStep_102 : decode (fx_cc mq_MO_findStep) 102 = .ok (.putfield 219, 3) := by decide +kernel
theorem dq_MO_findStep_105 : decode (fx_cc mq_MO_findStep) 105 = .ok (.aload_n 0, 1) := by decide +kernel
theorem dq_MO_findStep_106 : decode (fx_cc mq_MO_findStep) 106 = .ok (.iconst 0, 1) := by decide +kernel
theorem dq_MO_findStep_107 : decode (fx_cc mq_MO_findStep) 107 = .ok (.putfield 222, 3) := by decide +kernel
theorem dq_MO_findStep_110 : decode (fx_cc mq_MO_findStep) 110 = .ok (.goto (-108), 3) := by decide +kernel
theorem dq_MO_findStep_113 : decode (fx_cc mq_MO_findStep) 113 = .ok (.iload_n 1, 1) := by decide +kernel
theorem dq_MO_findStep_114 : decode (fx_cc mq_MO_findStep) 114 = .ok (.ifCond .eq 4, 3) := by decide +kernel
theorem dq_MO_findStep_117 : decode (fx_cc mq_MO_findStep) 117 = .ok (.return_, 1) := by decide +kernel
theorem dq_MO_findStep_118 : decode (fx_cc mq_MO_findStep) 118 = .ok (.aload_n 0, 1) := by decide +kernel
theorem dq_MO_findStep_119 : decode (fx_cc mq_MO_findStep) 119 = .ok (.getfield 75, 3) := by decide +kernel
theorem dq_MO_findStep_122 : decode (fx_cc mq_MO_findStep) 122 = .ok (.aload_n 0, 1) := by decide +kernel
theorem dq_MO_findStep_123 : decode (fx_cc mq_MO_findStep) 123 = .ok (.getfield 68, 3) := by decide +kernel
theorem dq_MO_findStep_126 : decode (fx_cc mq_MO_findStep) 126 = .ok (.iconst 0, 1) := by decide +kernel
theorem dq_MO_findStep_127 : decode (fx_cc mq_MO_findStep) 127 = .ok (.iastore, 1) := by decide +kernel
theorem dq_MO_findStep_128 : decode (fx_cc mq_MO_findStep) 128 = .ok (.aload_n 0, 1) := by decide +kernel
theorem dq_MO_findStep_129 : decode (fx_cc mq_MO_findStep) 129 = .ok (.iconst 2, 1) := by decide +kernel
theorem dq_MO_findStep_130 : decode (fx_cc mq_MO_findStep) 130 = .ok (.putfield 216, 3) := by decide +kernel
theorem dq_MO_findStep_133 : decode (fx_cc mq_MO_findStep) 133 = .ok (.return_, 1) := by decide +kernel
theorem dq_MO_meet_0 : decode (fx_cc mq_MO_meet) 0 = .ok (.aload_n 0, 1) := by decide +kernel
theorem dq_MO_meet_1 : decode (fx_cc mq_MO_meet) 1 = .ok (.bipush 20, 2) := by decide +kernel
theorem dq_MO_meet_3 : decode (fx_cc mq_MO_meet) 3 = .ok (.iload_n 1, 1) := by decide +kernel
theorem dq_MO_meet_4 : decode (fx_cc mq_MO_meet) 4 = .ok (.invokevirtual 201, 3) := by decide +kernel
theorem dq_MO_meet_7 : decode (fx_cc mq_MO_meet) 7 = .ok (.istore_n 2, 1) := by decide +kernel
theorem dq_MO_meet_8 : decode (fx_cc mq_MO_meet) 8 = .ok (.aload_n 0, 1) := by decide +kernel
theorem dq_MO_meet_9 : decode (fx_cc mq_MO_meet) 9 = .ok (.iconst 0, 1) := by decide +kernel
theorem dq_MO_meet_10 : decode (fx_cc mq_MO_meet) 10 = .ok (.putfield 144, 3) := by decide +kernel
theorem dq_MO_meet_13 : decode (fx_cc mq_MO_meet) 13 = .ok (.iload_n 2, 1) := by decide +kernel
theorem dq_MO_meet_14 : decode (fx_cc mq_MO_meet) 14 = .ok (.ifCond .lt 14, 3) := by decide +kernel
theorem dq_MO_meet_17 : decode (fx_cc mq_MO_meet) 17 = .ok (.aload_n 0, 1) := by decide +kernel
theorem dq_MO_meet_18 : decode (fx_cc mq_MO_meet) 18 = .ok (.iload_n 2, 1) := by decide +kernel
theorem dq_MO_meet_19 : decode (fx_cc mq_MO_meet) 19 = .ok (.bipush 20, 2) := by decide +kernel
theorem dq_MO_meet_21 : decode (fx_cc mq_MO_meet) 21 = .ok (.isub, 1) := by decide +kernel
theorem dq_MO_meet_22 : decode (fx_cc mq_MO_meet) 22 = .ok (.invokevirtual 207, 3) := by decide +kernel
theorem dq_MO_meet_25 : decode (fx_cc mq_MO_meet) 25 = .ok (.ifCond .eq 4, 3) := by decide +kernel
theorem dq_MO_meet_28 : decode (fx_cc mq_MO_meet) 28 = .ok (.return_, 1) := by decide +kernel
theorem dq_MO_meet_29 : decode (fx_cc mq_MO_meet) 29 = .ok (.aload_n 0, 1) := by decide +kernel
theorem dq_MO_meet_30 : decode (fx_cc mq_MO_meet) 30 = .ok (.iload_n 2, 1) := by decide +kernel
theorem dq_MO_meet_31 : decode (fx_cc mq_MO_meet) 31 = .ok (.invokevirtual 204, 3) := by decide +kernel
theorem dq_MO_meet_34 : decode (fx_cc mq_MO_meet) 34 = .ok (.aload_n 0, 1) := by decide +kernel
theorem dq_MO_meet_35 : decode (fx_cc mq_MO_meet) 35 = .ok (.getfield 144, 3) := by decide +kernel
theorem dq_MO_meet_38 : decode (fx_cc mq_MO_meet) 38 = .ok (.ifCond .ne 4, 3) := by decide +kernel
theorem dq_MO_meet_41 : decode (fx_cc mq_MO_meet) 41 = .ok (.return_, 1) := by decide +kernel
theorem dq_MO_meet_42 : decode (fx_cc mq_MO_meet) 42 = .ok (.bipush 7, 2) := by decide +kernel
theorem dq_MO_meet_44 : decode (fx_cc mq_MO_meet) 44 = .ok (.aload_n 0, 1) := by decide +kernel
theorem dq_MO_meet_45 : decode (fx_cc mq_MO_meet) 45 = .ok (.getfield 68, 3) := by decide +kernel
theorem dq_MO_meet_48 : decode (fx_cc mq_MO_meet) 48 = .ok (.imul, 1) := by decide +kernel
theorem dq_MO_meet_49 : decode (fx_cc mq_MO_meet) 49 = .ok (.aload_n 0, 1) := by decide +kernel
theorem dq_MO_meet_50 : decode (fx_cc mq_MO_meet) 50 = .ok (.getfield 219, 3) := by decide +kernel
theorem dq_MO_meet_53 : decode (fx_cc mq_MO_meet) 53 = .ok (.iadd, 1) := by decide +kernel
theorem dq_MO_meet_54 : decode (fx_cc mq_MO_meet) 54 = .ok (.istore_n 3, 1) := by decide +kernel
theorem dq_MO_meet_55 : decode (fx_cc mq_MO_meet) 55 = .ok (.aload_n 0, 1) := by decide +kernel
theorem dq_MO_meet_56 : decode (fx_cc mq_MO_meet) 56 = .ok (.aload_n 0, 1) := by decide +kernel
theorem dq_MO_meet_57 : decode (fx_cc mq_MO_meet) 57 = .ok (.getfield 78, 3) := by decide +kernel
theorem dq_MO_meet_60 : decode (fx_cc mq_MO_meet) 60 = .ok (.iload_n 3, 1) := by decide +kernel
theorem dq_MO_meet_61 : decode (fx_cc mq_MO_meet) 61 = .ok (.iaload, 1) := by decide +kernel
theorem dq_MO_meet_62 : decode (fx_cc mq_MO_meet) 62 = .ok (.aload_n 0, 1) := by decide +kernel
theorem dq_MO_meet_63 : decode (fx_cc mq_MO_meet) 63 = .ok (.getfield 81, 3) := by decide +kernel
theorem dq_MO_meet_66 : decode (fx_cc mq_MO_meet) 66 = .ok (.iload_n 3, 1) := by decide +kernel
theorem dq_MO_meet_67 : decode (fx_cc mq_MO_meet) 67 = .ok (.iaload, 1) := by decide +kernel
theorem dq_MO_meet_68 : decode (fx_cc mq_MO_meet) 68 = .ok (.aload_n 0, 1) := by decide +kernel
theorem dq_MO_meet_69 : decode (fx_cc mq_MO_meet) 69 = .ok (.getfield 78, 3) := by decide +kernel
theorem dq_MO_meet_72 : decode (fx_cc mq_MO_meet) 72 = .ok (.iload_n 3, 1) := by decide +kernel
theorem dq_MO_meet_73 : decode (fx_cc mq_MO_meet) 73 = .ok (.iaload, 1) := by decide +kernel
theorem dq_MO_meet_74 : decode (fx_cc mq_MO_meet) 74 = .ok (.aload_n 0, 1) := by decide +kernel
theorem dq_MO_meet_75 : decode (fx_cc mq_MO_meet) 75 = .ok (.getfield 84, 3) := by decide +kernel
theorem dq_MO_meet_78 : decode (fx_cc mq_MO_meet) 78 = .ok (.iload_n 3, 1) := by decide +kernel
theorem dq_MO_meet_79 : decode (fx_cc mq_MO_meet) 79 = .ok (.iaload, 1) := by decide +kernel
theorem dq_MO_meet_80 : decode (fx_cc mq_MO_meet) 80 = .ok (.iadd, 1) := by decide +kernel
theorem dq_MO_meet_81 : decode (fx_cc mq_MO_meet) 81 = .ok (.aload_n 0, 1) := by decide +kernel
theorem dq_MO_meet_82 : decode (fx_cc mq_MO_meet) 82 = .ok (.getfield 81, 3) := by decide +kernel
theorem dq_MO_meet_85 : decode (fx_cc mq_MO_meet) 85 = .ok (.iload_n 3, 1) := by decide +kernel
theorem dq_MO_meet_86 : decode (fx_cc mq_MO_meet) 86 = .ok (.iaload, 1) := by decide +kernel
theorem dq_MO_meet_87 : decode (fx_cc mq_MO_meet) 87 = .ok (.aload_n 0, 1) := by decide +kernel
theorem dq_MO_meet_88 : decode (fx_cc mq_MO_meet) 88 = .ok (.getfield 87, 3) := by decide +kernel
theorem dq_MO_meet_91 : decode (fx_cc mq_MO_meet) 91 = .ok (.iload_n 3, 1) := by decide +kernel
theorem dq_MO_meet_92 : decode (fx_cc mq_MO_meet) 92 = .ok (.iaload, 1) := by decide +kernel
theorem dq_MO_meet_93 : decode (fx_cc mq_MO_meet) 93 = .ok (.iadd, 1) := by decide +kernel
theorem dq_MO_meet_94 : decode (fx_cc mq_MO_meet) 94 = .ok (.invokevirtual 174, 3) := by decide +kernel
theorem dq_MO_meet_97 : decode (fx_cc mq_MO_meet) 97 = .ok (.return_, 1) := by decide +kernel
theorem dq_MO_make_0 : decode (fx_cc mq_MO_make) 0 = .ok (.aload_n 0, 1) := by decide +kernel
theorem dq_MO_make_1 : decode (fx_cc mq_MO_make) 1 = .ok (.getfield 222, 3) := by decide +kernel
theorem dq_MO_make_4 : decode (fx_cc mq_MO_make) 4 = .ok (.ifCond .ne 100, 3) := by decide +kernel
theorem dq_MO_make_7 : decode (fx_cc mq_MO_make) 7 = .ok (.bipush 7, 2) := by decide +kernel
theorem dq_MO_make_9 : decode (fx_cc mq_MO_make) 9 = .ok (.aload_n 0, 1) := by decide +kernel
theorem dq_MO_make_10 : decode (fx_cc mq_MO_make) 10 = .ok (.getfield 68, 3) := by decide +kernel
theorem dq_MO_make_13 : decode (fx_cc mq_MO_make) 13 = .ok (.imul, 1) := by decide +kernel
theorem dq_MO_make_14 : decode (fx_cc mq_MO_make) 14 = .ok (.aload_n 0, 1) := by decide +kernel
theorem dq_MO_make_15 : decode (fx_cc mq_MO_make) 15 = .ok (.getfield 219, 3) := by decide +kernel
theorem dq_MO_make_18 : decode (fx_cc mq_MO_make) 18 = .ok (.iadd, 1) := by decide +kernel
theorem dq_MO_make_19 : decode (fx_cc mq_MO_make) 19 = .ok (.istore_n 1, 1) := by decide +kernel
theorem dq_MO_make_20 : decode (fx_cc mq_MO_make) 20 = .ok (.aload_n 0, 1) := by decide +kernel
theorem dq_MO_make_21 : decode (fx_cc mq_MO_make) 21 = .ok (.getfield 81, 3) := by decide +kernel
theorem dq_MO_make_24 : decode (fx_cc mq_MO_make) 24 = .ok (.iload_n 1, 1) := by decide +kernel
theorem dq_MO_make_25 : decode (fx_cc mq_MO_make) 25 = .ok (.iaload, 1) := by decide +kernel
theorem dq_MO_make_26 : decode (fx_cc mq_MO_make) 26 = .ok (.istore_n 2, 1) := by decide +kernel
theorem dq_MO_make_27 : decode (fx_cc mq_MO_make) 27 = .ok (.iload_n 2, 1) := by decide +kernel
theorem dq_MO_make_28 : decode (fx_cc mq_MO_make) 28 = .ok (.aload_n 0, 1) := by decide +kernel
theorem dq_MO_make_29 : decode (fx_cc mq_MO_make) 29 = .ok (.getfield 81, 3) := by decide +kernel
theorem dq_MO_make_32 : decode (fx_cc mq_MO_make) 32 = .ok (.iload_n 1, 1) := by decide +kernel
theorem dq_MO_make_33 : decode (fx_cc mq_MO_make) 33 = .ok (.iaload, 1) := by decide +kernel
theorem dq_MO_make_34 : decode (fx_cc mq_MO_make) 34 = .ok (.aload_n 0, 1) := by decide +kernel
theorem dq_MO_make_35 : decode (fx_cc mq_MO_make) 35 = .ok (.getfield 87, 3) := by decide +kernel
theorem dq_MO_make_38 : decode (fx_cc mq_MO_make) 38 = .ok (.iload_n 1, 1) := by decide +kernel
theorem dq_MO_make_39 : decode (fx_cc mq_MO_make) 39 = .ok (.iaload, 1) := by decide +kernel
theorem dq_MO_make_40 : decode (fx_cc mq_MO_make) 40 = .ok (.iadd, 1) := by decide +kernel
theorem dq_MO_make_41 : decode (fx_cc mq_MO_make) 41 = .ok (.if_icmp .ge 60, 3) := by decide +kernel
theorem dq_MO_make_44 : decode (fx_cc mq_MO_make) 44 = .ok (.aload_n 0, 1) := by decide +kernel
theorem dq_MO_make_45 : decode (fx_cc mq_MO_make) 45 = .ok (.getfield 78, 3) := by decide +kernel
theorem dq_MO_make_48 : decode (fx_cc mq_MO_make) 48 = .ok (.iload_n 1, 1) := by decide +kernel
theorem dq_MO_make_49 : decode (fx_cc mq_MO_make) 49 = .ok (.iaload, 1) := by decide +kernel
theorem dq_MO_make_50 : decode (fx_cc mq_MO_make) 50 = .ok (.istore_n 3, 1) := by decide +kernel
theorem dq_MO_make_51 : decode (fx_cc mq_MO_make) 51 = .ok (.iload_n 3, 1) := by decide +kernel
theorem dq_MO_make_52 : decode (fx_cc mq_MO_make) 52 = .ok (.aload_n 0, 1) := by decide +kernel
theorem dq_MO_make_53 : decode (fx_cc mq_MO_make) 53 = .ok (.getfield 78, 3) := by decide +kernel
theorem dq_MO_make_56 : decode (fx_cc mq_MO_make) 56 = .ok (.iload_n 1, 1) := by decide +kernel
theorem dq_MO_make_57 : decode (fx_cc mq_MO_make) 57 = .ok (.iaload, 1) := by decide +kernel
theorem dq_MO_make_58 : decode (fx_cc mq_MO_make) 58 = .ok (.aload_n 0, 1) := by decide +kernel
theorem dq_MO_make_59 : decode (fx_cc mq_MO_make) 59 = .ok (.getfield 84, 3) := by decide +kernel
theorem dq_MO_make_62 : decode (fx_cc mq_MO_make) 62 = .ok (.iload_n 1, 1) := by decide +kernel
theorem dq_MO_make_63 : decode (fx_cc mq_MO_make) 63 = .ok (.iaload, 1) := by decide +kernel
theorem dq_MO_make_64 : decode (fx_cc mq_MO_make) 64 = .ok (.iadd, 1) := by decide +kernel
theorem dq_MO_make_65 : decode (fx_cc mq_MO_make) 65 = .ok (.if_icmp .ge 30, 3) := by decide +kernel
theorem dq_MO_make_68 : decode (fx_cc mq_MO_make) 68 = .ok (.aload_n 0, 1) := by decide +kernel
theorem dq_MO_make_69 : decode (fx_cc mq_MO_make) 69 = .ok (.getfield 72, 3) := by decide +kernel
theorem dq_MO_make_72 : decode (fx_cc mq_MO_make) 72 = .ok (.sipush 200, 3) := by decide +kernel
theorem dq_MO_make_75 : decode (fx_cc mq_MO_make) 75 = .ok (.aload_n 0, 1) := by decide +kernel
theorem dq_MO_make_76 : decode (fx_cc mq_MO_make) 76 = .ok (.getfield 68, 3) := by decide +kernel
theorem dq_MO_make_79 : decode (fx_cc mq_MO_make) 79 = .ok (.imul, 1) := by decide +kernel
theorem dq_MO_make_80 : decode (fx_cc mq_MO_make) 80 = .ok (.bipush 20, 2) := by decide +kernel
theorem dq_MO_make_82 : decode (fx_cc mq_MO_make) 82 = .ok (.iload_n 2, 1) := by decide +kernel
theorem dq_MO_make_83 : decode (fx_cc mq_MO_make) 83 = .ok (.imul, 1) := by decide +kernel
theorem dq_MO_make_84 : decode (fx_cc mq_MO_make) 84 = .ok (.iadd, 1) := by decide +kernel
theorem dq_MO_make_85 : decode (fx_cc mq_MO_make) 85 = .ok (.iload_n 3, 1) := by decide +kernel
theorem dq_MO_make_86 : decode (fx_cc mq_MO_make) 86 = .ok (.iadd, 1) := by decide +kernel
theorem dq_MO_make_87 : decode (fx_cc mq_MO_make) 87 = .ok (.iconst 0, 1) := by decide +kernel
theorem dq_MO_make_88 : decode (fx_cc mq_MO_make) 88 = .ok (.iastore, 1) := by decide +kernel
theorem dq_MO_make_89 : decode (fx_cc mq_MO_make) 89 = .ok (.iinc 3 1, 3) := by decide +kernel
theorem dq_MO_make_92 : decode (fx_cc mq_MO_make) 92 = .ok (.goto (-41), 3) := by decide +kernel
theorem dq_MO_make_95 : decode (fx_cc mq_MO_make) 95 = .ok (.iinc 2 1, 3) := by decide +kernel
theorem dq_MO_make_98 : decode (fx_cc mq_MO_make) 98 = .ok (.goto (-71), 3) := by decide +kernel
theorem dq_MO_make_101 : decode (fx_cc mq_MO_make) 101 = .ok (.goto 29, 3) := by decide +kernel
theorem dq_MO_make_104 : decode (fx_cc mq_MO_make) 104 = .ok (.aload_n 0, 1) := by decide +kernel
theorem dq_MO_make_105 : decode (fx_cc mq_MO_make) 105 = .ok (.aload_n 0, 1) := by decide +kernel
theorem dq_MO_make_106 : decode (fx_cc mq_MO_make) 106 = .ok (.getfield 222, 3) := by decide +kernel
theorem dq_MO_make_109 : decode (fx_cc mq_MO_make) 109 = .ok (.iconst 1, 1) := by decide +kernel
theorem dq_MO_make_110 : decode (fx_cc mq_MO_make) 110 = .ok (.isub, 1) := by decide +kernel
theorem dq_MO_make_111 : decode (fx_cc mq_MO_make) 111 = .ok (.invokevirtual 232, 3) := by decide +kernel
theorem dq_MO_make_114 : decode (fx_cc mq_MO_make) 114 = .ok (.aload_n 0, 1) := by decide +kernel
theorem dq_MO_make_115 : decode (fx_cc mq_MO_make) 115 = .ok (.aload_n 0, 1) := by decide +kernel
theorem dq_MO_make_116 : decode (fx_cc mq_MO_make) 116 = .ok (.bipush 20, 2) := by decide +kernel
theorem dq_MO_make_118 : decode (fx_cc mq_MO_make) 118 = .ok (.aload_n 0, 1) := by decide +kernel
theorem dq_MO_make_119 : decode (fx_cc mq_MO_make) 119 = .ok (.getfield 222, 3) := by decide +kernel
theorem dq_MO_make_122 : decode (fx_cc mq_MO_make) 122 = .ok (.iconst 1, 1) := by decide +kernel
theorem dq_MO_make_123 : decode (fx_cc mq_MO_make) 123 = .ok (.isub, 1) := by decide +kernel
theorem dq_MO_make_124 : decode (fx_cc mq_MO_make) 124 = .ok (.invokevirtual 201, 3) := by decide +kernel
theorem dq_MO_make_127 : decode (fx_cc mq_MO_make) 127 = .ok (.invokevirtual 235, 3) := by decide +kernel
theorem dq_MO_make_130 : decode (fx_cc mq_MO_make) 130 = .ok (.aload_n 0, 1) := by decide +kernel
theorem dq_MO_make_131 : decode (fx_cc mq_MO_make) 131 = .ok (.dup, 1) := by decide +kernel
theorem dq_MO_make_132 : decode (fx_cc mq_MO_make) 132 = .ok (.getfield 222, 3) := by decide +kernel
theorem dq_MO_make_135 : decode (fx_cc mq_MO_make) 135 = .ok (.iconst 1, 1) := by decide +kernel
theorem dq_MO_make_136 : decode (fx_cc mq_MO_make) 136 = .ok (.iadd, 1) := by decide +kernel
theorem dq_MO_make_137 : decode (fx_cc mq_MO_make) 137 = .ok (.putfield 222, 3) := by decide +kernel
theorem dq_MO_make_140 : decode (fx_cc mq_MO_make) 140 = .ok (.aload_n 0, 1) := by decide +kernel
theorem dq_MO_make_141 : decode (fx_cc mq_MO_make) 141 = .ok (.invokevirtual 238, 3) := by decide +kernel
theorem dq_MO_make_144 : decode (fx_cc mq_MO_make) 144 = .ok (.return_, 1) := by decide +kernel
theorem dq_MO_paint_0 : decode (fx_cc mq_MO_paint) 0 = .ok (.aload_n 0, 1) := by decide +kernel
theorem dq_MO_paint_1 : decode (fx_cc mq_MO_paint) 1 = .ok (.getfield 147, 3) := by decide +kernel
theorem dq_MO_paint_4 : decode (fx_cc mq_MO_paint) 4 = .ok (.istore_n 2, 1) := by decide +kernel
theorem dq_MO_paint_5 : decode (fx_cc mq_MO_paint) 5 = .ok (.iload_n 2, 1) := by decide +kernel
theorem dq_MO_paint_6 : decode (fx_cc mq_MO_paint) 6 = .ok (.aload_n 0, 1) := by decide +kernel
theorem dq_MO_paint_7 : decode (fx_cc mq_MO_paint) 7 = .ok (.getfield 147, 3) := by decide +kernel
theorem dq_MO_paint_10 : decode (fx_cc mq_MO_paint) 10 = .ok (.aload_n 0, 1) := by decide +kernel
theorem dq_MO_paint_11 : decode (fx_cc mq_MO_paint) 11 = .ok (.getfield 150, 3) := by decide +kernel
theorem dq_MO_paint_14 : decode (fx_cc mq_MO_paint) 14 = .ok (.iadd, 1) := by decide +kernel
theorem dq_MO_paint_15 : decode (fx_cc mq_MO_paint) 15 = .ok (.if_icmp .ge 80, 3) := by decide +kernel
theorem dq_MO_paint_18 : decode (fx_cc mq_MO_paint) 18 = .ok (.aload_n 0, 1) := by decide +kernel
theorem dq_MO_paint_19 : decode (fx_cc mq_MO_paint) 19 = .ok (.getfield 141, 3) := by decide +kernel
theorem dq_MO_paint_22 : decode (fx_cc mq_MO_paint) 22 = .ok (.istore_n 3, 1) := by decide +kernel
theorem dq_MO_paint_23 : decode (fx_cc mq_MO_paint) 23 = .ok (.iload_n 3, 1) := by decide +kernel
theorem dq_MO_paint_24 : decode (fx_cc mq_MO_paint) 24 = .ok (.aload_n 0, 1) := by decide +kernel
theorem dq_MO_paint_25 : decode (fx_cc mq_MO_paint) 25 = .ok (.getfield 141, 3) := by decide +kernel
theorem dq_MO_paint_28 : decode (fx_cc mq_MO_paint) 28 = .ok (.aload_n 0, 1) := by decide +kernel
theorem dq_MO_paint_29 : decode (fx_cc mq_MO_paint) 29 = .ok (.getfield 144, 3) := by decide +kernel
theorem dq_MO_paint_32 : decode (fx_cc mq_MO_paint) 32 = .ok (.iadd, 1) := by decide +kernel
theorem dq_MO_paint_33 : decode (fx_cc mq_MO_paint) 33 = .ok (.if_icmp .ge 56, 3) := by decide +kernel
theorem dq_MO_paint_36 : decode (fx_cc mq_MO_paint) 36 = .ok (.sipush 200, 3) := by decide +kernel
theorem dq_MO_paint_39 : decode (fx_cc mq_MO_paint) 39 = .ok (.aload_n 0, 1) := by decide +kernel
theorem dq_MO_paint_40 : decode (fx_cc mq_MO_paint) 40 = .ok (.getfield 68, 3) := by decide +kernel
theorem dq_MO_paint_43 : decode (fx_cc mq_MO_paint) 43 = .ok (.imul, 1) := by decide +kernel
theorem dq_MO_paint_44 : decode (fx_cc mq_MO_paint) 44 = .ok (.bipush 20, 2) := by decide +kernel
theorem dq_MO_paint_46 : decode (fx_cc mq_MO_paint) 46 = .ok (.iload_n 2, 1) := by decide +kernel
theorem dq_MO_paint_47 : decode (fx_cc mq_MO_paint) 47 = .ok (.imul, 1) := by decide +kernel
theorem dq_MO_paint_48 : decode (fx_cc mq_MO_paint) 48 = .ok (.iadd, 1) := by decide +kernel
theorem dq_MO_paint_49 : decode (fx_cc mq_MO_paint) 49 = .ok (.iload_n 3, 1) := by decide +kernel
theorem dq_MO_paint_50 : decode (fx_cc mq_MO_paint) 50 = .ok (.iadd, 1) := by decide +kernel
theorem dq_MO_paint_51 : decode (fx_cc mq_MO_paint) 51 = .ok (.istore 4, 2) := by decide +kernel
theorem dq_MO_paint_53 : decode (fx_cc mq_MO_paint) 53 = .ok (.aload_n 0, 1) := by decide +kernel
theorem dq_MO_paint_54 : decode (fx_cc mq_MO_paint) 54 = .ok (.getfield 72, 3) := by decide +kernel
theorem dq_MO_paint_57 : decode (fx_cc mq_MO_paint) 57 = .ok (.iload 4, 2) := by decide +kernel
theorem dq_MO_paint_59 : decode (fx_cc mq_MO_paint) 59 = .ok (.aload_n 0, 1) := by decide +kernel
theorem dq_MO_paint_60 : decode (fx_cc mq_MO_paint) 60 = .ok (.iload_n 1, 1) := by decide +kernel
theorem dq_MO_paint_61 : decode (fx_cc mq_MO_paint) 61 = .ok (.iload_n 3, 1) := by decide +kernel
theorem dq_MO_paint_62 : decode (fx_cc mq_MO_paint) 62 = .ok (.iload_n 2, 1) := by decide +kernel
theorem dq_MO_paint_63 : decode (fx_cc mq_MO_paint) 63 = .ok (.invokevirtual 225, 3) := by decide +kernel
theorem dq_MO_paint_66 : decode (fx_cc mq_MO_paint) 66 = .ok (.aload_n 0, 1) := by decide +kernel
theorem dq_MO_paint_67 : decode (fx_cc mq_MO_paint) 67 = .ok (.getfield 72, 3) := by decide +kernel
theorem dq_MO_paint_70 : decode (fx_cc mq_MO_paint) 70 = .ok (.iload 4, 2) := by decide +kernel
theorem dq_MO_paint_72 : decode (fx_cc mq_MO_paint) 72 = .ok (.iaload, 1) := by decide +kernel
theorem dq_MO_paint_73 : decode (fx_cc mq_MO_paint) 73 = .ok (.aload_n 0, 1) := by decide +kernel
theorem dq_MO_paint_74 : decode (fx_cc mq_MO_paint) 74 = .ok (.getfield 41, 3) := by decide +kernel
theorem dq_MO_paint_77 : decode (fx_cc mq_MO_paint) 77 = .ok (.iload_n 1, 1) := by decide +kernel
theorem dq_MO_paint_78 : decode (fx_cc mq_MO_paint) 78 = .ok (.iaload, 1) := by decide +kernel
theorem dq_MO_paint_79 : decode (fx_cc mq_MO_paint) 79 = .ok (.invokestatic 229, 3) := by decide +kernel
theorem dq_MO_paint_82 : decode (fx_cc mq_MO_paint) 82 = .ok (.iastore, 1) := by decide +kernel
theorem dq_MO_paint_83 : decode (fx_cc mq_MO_paint) 83 = .ok (.iinc 3 1, 3) := by decide +kernel
theorem dq_MO_paint_86 : decode (fx_cc mq_MO_paint) 86 = .ok (.goto (-63), 3) := by decide +kernel
theorem dq_MO_paint_89 : decode (fx_cc mq_MO_paint) 89 = .ok (.iinc 2 1, 3) := by decide +kernel
theorem dq_MO_paint_92 : decode (fx_cc mq_MO_paint) 92 = .ok (.goto (-87), 3) := by decide +kernel
theorem dq_MO_paint_95 : decode (fx_cc mq_MO_paint) 95 = .ok (.return_, 1) := by decide +kernel
theorem dq_MO_pixelOf_0 : decode (fx_cc mq_MO_pixelOf) 0 = .ok (.aload_n 0, 1) := by decide +kernel
theorem dq_MO_pixelOf_1 : decode (fx_cc mq_MO_pixelOf) 1 = .ok (.getfield 59, 3) := by decide +kernel
theorem dq_MO_pixelOf_4 : decode (fx_cc mq_MO_pixelOf) 4 = .ok (.bipush 96, 2) := by decide +kernel
theorem dq_MO_pixelOf_6 : decode (fx_cc mq_MO_pixelOf) 6 = .ok (.iload_n 1, 1) := by decide +kernel
theorem dq_MO_pixelOf_7 : decode (fx_cc mq_MO_pixelOf) 7 = .ok (.imul, 1) := by decide +kernel
theorem dq_MO_pixelOf_8 : decode (fx_cc mq_MO_pixelOf) 8 = .ok (.aload_n 0, 1) := by decide +kernel
theorem dq_MO_pixelOf_9 : decode (fx_cc mq_MO_pixelOf) 9 = .ok (.getfield 17, 3) := by decide +kernel
theorem dq_MO_pixelOf_12 : decode (fx_cc mq_MO_pixelOf) 12 = .ok (.iload_n 1, 1) := by decide +kernel
theorem dq_MO_pixelOf_13 : decode (fx_cc mq_MO_pixelOf) 13 = .ok (.bipush 10, 2) := by decide +kernel
theorem dq_MO_pixelOf_15 : decode (fx_cc mq_MO_pixelOf) 15 = .ok (.irem, 1) := by decide +kernel
theorem dq_MO_pixelOf_16 : decode (fx_cc mq_MO_pixelOf) 16 = .ok (.iaload, 1) := by decide +kernel
theorem dq_MO_pixelOf_17 : decode (fx_cc mq_MO_pixelOf) 17 = .ok (.iload_n 3, 1) := by decide +kernel
theorem dq_MO_pixelOf_18 : decode (fx_cc mq_MO_pixelOf) 18 = .ok (.aload_n 0, 1) := by decide +kernel
theorem dq_MO_pixelOf_19 : decode (fx_cc mq_MO_pixelOf) 19 = .ok (.getfield 35, 3) := by decide +kernel
theorem dq_MO_pixelOf_22 : decode (fx_cc mq_MO_pixelOf) 22 = .ok (.iload_n 1, 1) := by decide +kernel
theorem dq_MO_pixelOf_23 : decode (fx_cc mq_MO_pixelOf) 23 = .ok (.iaload, 1) := by decide +kernel
theorem dq_MO_pixelOf_24 : decode (fx_cc mq_MO_pixelOf) 24 = .ok (.isub, 1) := by decide +kernel
theorem dq_MO_pixelOf_25 : decode (fx_cc mq_MO_pixelOf) 25 = .ok (.imul, 1) := by decide +kernel
theorem dq_MO_pixelOf_26 : decode (fx_cc mq_MO_pixelOf) 26 = .ok (.iadd, 1) := by decide +kernel
theorem dq_MO_pixelOf_27 : decode (fx_cc mq_MO_pixelOf) 27 = .ok (.iload_n 2, 1) := by decide +kernel
theorem dq_MO_pixelOf_28 : decode (fx_cc mq_MO_pixelOf) 28 = .ok (.iadd, 1) := by decide +kernel
theorem dq_MO_pixelOf_29 : decode (fx_cc mq_MO_pixelOf) 29 = .ok (.aload_n 0, 1) := by decide +kernel
theorem dq_MO_pixelOf_30 : decode (fx_cc mq_MO_pixelOf) 30 = .ok (.getfield 32, 3) := by decide +kernel
theorem dq_MO_pixelOf_33 : decode (fx_cc mq_MO_pixelOf) 33 = .ok (.iload_n 1, 1) := by decide +kernel
theorem dq_MO_pixelOf_34 : decode (fx_cc mq_MO_pixelOf) 34 = .ok (.iaload, 1) := by decide +kernel
theorem dq_MO_pixelOf_35 : decode (fx_cc mq_MO_pixelOf) 35 = .ok (.isub, 1) := by decide +kernel
theorem dq_MO_pixelOf_36 : decode (fx_cc mq_MO_pixelOf) 36 = .ok (.iaload, 1) := by decide +kernel
theorem dq_MO_pixelOf_37 : decode (fx_cc mq_MO_pixelOf) 37 = .ok (.ireturn, 1) := by decide +kernel
theorem dq_MO_mixed_0 : decode (fx_cc mq_MO_mixed) 0 = .ok (.iload_n 0, 1) := by decide +kernel
theorem dq_MO_mixed_1 : decode (fx_cc mq_MO_mixed) 1 = .ok (.iload_n 1, 1) := by decide +kernel
theorem dq_MO_mixed_2 : decode (fx_cc mq_MO_mixed) 2 = .ok (.iload_n 2, 1) := by decide +kernel
theorem dq_MO_mixed_3 : decode (fx_cc mq_MO_mixed) 3 = .ok (.bipush 11, 2) := by decide +kernel
theorem dq_MO_mixed_5 : decode (fx_cc mq_MO_mixed) 5 = .ok (.bipush 31, 2) := by decide +kernel
theorem dq_MO_mixed_7 : decode (fx_cc mq_MO_mixed) 7 = .ok (.invokestatic 182, 3) := by decide +kernel
theorem dq_MO_mixed_10 : decode (fx_cc mq_MO_mixed) 10 = .ok (.iload_n 0, 1) := by decide +kernel
theorem dq_MO_mixed_11 : decode (fx_cc mq_MO_mixed) 11 = .ok (.iload_n 1, 1) := by decide +kernel
theorem dq_MO_mixed_12 : decode (fx_cc mq_MO_mixed) 12 = .ok (.iload_n 2, 1) := by decide +kernel
theorem dq_MO_mixed_13 : decode (fx_cc mq_MO_mixed) 13 = .ok (.iconst 5, 1) := by decide +kernel
theorem dq_MO_mixed_14 : decode (fx_cc mq_MO_mixed) 14 = .ok (.bipush 63, 2) := by decide +kernel
theorem dq_MO_mixed_16 : decode (fx_cc mq_MO_mixed) 16 = .ok (.invokestatic 182, 3) := by decide +kernel
theorem dq_MO_mixed_19 : decode (fx_cc mq_MO_mixed) 19 = .ok (.ior, 1) := by decide +kernel
theorem dq_MO_mixed_20 : decode (fx_cc mq_MO_mixed) 20 = .ok (.iload_n 0, 1) := by decide +kernel
theorem dq_MO_mixed_21 : decode (fx_cc mq_MO_mixed) 21 = .ok (.iload_n 1, 1) := by decide +kernel
theorem dq_MO_mixed_22 : decode (fx_cc mq_MO_mixed) 22 = .ok (.iload_n 2, 1) := by decide +kernel
theorem dq_MO_mixed_23 : decode (fx_cc mq_MO_mixed) 23 = .ok (.iconst 0, 1) := by decide +kernel
theorem dq_MO_mixed_24 : decode (fx_cc mq_MO_mixed) 24 = .ok (.bipush 31, 2) := by decide +kernel
theorem dq_MO_mixed_26 : decode (fx_cc mq_MO_mixed) 26 = .ok (.invokestatic 182, 3) := by decide +kernel
theorem dq_MO_mixed_29 : decode (fx_cc mq_MO_mixed) 29 = .ok (.ior, 1) := by decide +kernel
theorem dq_MO_mixed_30 : decode (fx_cc mq_MO_mixed) 30 = .ok (.ireturn, 1) := by decide +kernel
theorem dq_MO_part_0 : decode (fx_cc mq_MO_part) 0 = .ok (.iload_n 2, 1) := by decide +kernel
theorem dq_MO_part_1 : decode (fx_cc mq_MO_part) 1 = .ok (.iload_n 0, 1) := by decide +kernel
theorem dq_MO_part_2 : decode (fx_cc mq_MO_part) 2 = .ok (.iload_n 3, 1) := by decide +kernel
theorem dq_MO_part_3 : decode (fx_cc mq_MO_part) 3 = .ok (.ishr, 1) := by decide +kernel
theorem dq_MO_part_4 : decode (fx_cc mq_MO_part) 4 = .ok (.iload 4, 2) := by decide +kernel
theorem dq_MO_part_6 : decode (fx_cc mq_MO_part) 6 = .ok (.iand, 1) := by decide +kernel
theorem dq_MO_part_7 : decode (fx_cc mq_MO_part) 7 = .ok (.imul, 1) := by decide +kernel
theorem dq_MO_part_8 : decode (fx_cc mq_MO_part) 8 = .ok (.bipush 16, 2) := by decide +kernel
theorem dq_MO_part_10 : decode (fx_cc mq_MO_part) 10 = .ok (.iload_n 2, 1) := by decide +kernel
theorem dq_MO_part_11 : decode (fx_cc mq_MO_part) 11 = .ok (.isub, 1) := by decide +kernel
theorem dq_MO_part_12 : decode (fx_cc mq_MO_part) 12 = .ok (.iload_n 1, 1) := by decide +kernel
theorem dq_MO_part_13 : decode (fx_cc mq_MO_part) 13 = .ok (.iload_n 3, 1) := by decide +kernel
theorem dq_MO_part_14 : decode (fx_cc mq_MO_part) 14 = .ok (.ishr, 1) := by decide +kernel
theorem dq_MO_part_15 : decode (fx_cc mq_MO_part) 15 = .ok (.iload 4, 2) := by decide +kernel
theorem dq_MO_part_17 : decode (fx_cc mq_MO_part) 17 = .ok (.iand, 1) := by decide +kernel
theorem dq_MO_part_18 : decode (fx_cc mq_MO_part) 18 = .ok (.imul, 1) := by decide +kernel
theorem dq_MO_part_19 : decode (fx_cc mq_MO_part) 19 = .ok (.iadd, 1) := by decide +kernel
theorem dq_MO_part_20 : decode (fx_cc mq_MO_part) 20 = .ok (.bipush 16, 2) := by decide +kernel
theorem dq_MO_part_22 : decode (fx_cc mq_MO_part) 22 = .ok (.idiv, 1) := by decide +kernel
theorem dq_MO_part_23 : decode (fx_cc mq_MO_part) 23 = .ok (.iload_n 3, 1) := by decide +kernel
theorem dq_MO_part_24 : decode (fx_cc mq_MO_part) 24 = .ok (.ishl, 1) := by decide +kernel
theorem dq_MO_part_25 : decode (fx_cc mq_MO_part) 25 = .ok (.ireturn, 1) := by decide +kernel
theorem dq_MO_scan_0 : decode (fx_cc mq_MO_scan) 0 = .ok (.aload_n 0, 1) := by decide +kernel
theorem dq_MO_scan_1 : decode (fx_cc mq_MO_scan) 1 = .ok (.iconst 0, 1) := by decide +kernel
theorem dq_MO_scan_2 : decode (fx_cc mq_MO_scan) 2 = .ok (.putfield 126, 3) := by decide +kernel
theorem dq_MO_scan_5 : decode (fx_cc mq_MO_scan) 5 = .ok (.aload_n 0, 1) := by decide +kernel
theorem dq_MO_scan_6 : decode (fx_cc mq_MO_scan) 6 = .ok (.getfield 256, 3) := by decide +kernel
theorem dq_MO_scan_9 : decode (fx_cc mq_MO_scan) 9 = .ok (.bipush 10, 2) := by decide +kernel
theorem dq_MO_scan_11 : decode (fx_cc mq_MO_scan) 11 = .ok (.if_icmp .ge 20, 3) := by decide +kernel
theorem dq_MO_scan_14 : decode (fx_cc mq_MO_scan) 14 = .ok (.aload_n 0, 1) := by decide +kernel
theorem dq_MO_scan_15 : decode (fx_cc mq_MO_scan) 15 = .ok (.dup, 1) := by decide +kernel
theorem dq_MO_scan_16 : decode (fx_cc mq_MO_scan) 16 = .ok (.getfield 256, 3) := by decide +kernel
theorem dq_MO_scan_19 : decode (fx_cc mq_MO_scan) 19 = .ok (.iconst 1, 1) := by decide +kernel
theorem dq_MO_scan_20 : decode (fx_cc mq_MO_scan) 20 = .ok (.iadd, 1) := by decide +kernel
theorem dq_MO_scan_21 : decode (fx_cc mq_MO_scan) 21 = .ok (.putfield 256, 3) := by decide +kernel
theorem dq_MO_scan_24 : decode (fx_cc mq_MO_scan) 24 = .ok (.aload_n 0, 1) := by decide +kernel
theorem dq_MO_scan_25 : decode (fx_cc mq_MO_scan) 25 = .ok (.getfield 256, 3) := by decide +kernel
theorem dq_MO_scan_28 : decode (fx_cc mq_MO_scan) 28 = .ok (.iconst 1, 1) := by decide +kernel
theorem dq_MO_scan_29 : decode (fx_cc mq_MO_scan) 29 = .ok (.isub, 1) := by decide +kernel
theorem dq_MO_scan_30 : decode (fx_cc mq_MO_scan) 30 = .ok (.ireturn, 1) := by decide +kernel
theorem dq_MO_scan_31 : decode (fx_cc mq_MO_scan) 31 = .ok (.aload_n 0, 1) := by decide +kernel
theorem dq_MO_scan_32 : decode (fx_cc mq_MO_scan) 32 = .ok (.iconst 0, 1) := by decide +kernel
theorem dq_MO_scan_33 : decode (fx_cc mq_MO_scan) 33 = .ok (.putfield 256, 3) := by decide +kernel
theorem dq_MO_scan_36 : decode (fx_cc mq_MO_scan) 36 = .ok (.aload_n 0, 1) := by decide +kernel
theorem dq_MO_scan_37 : decode (fx_cc mq_MO_scan) 37 = .ok (.invokevirtual 259, 3) := by decide +kernel
theorem dq_MO_scan_40 : decode (fx_cc mq_MO_scan) 40 = .ok (.aload_n 0, 1) := by decide +kernel
theorem dq_MO_scan_41 : decode (fx_cc mq_MO_scan) 41 = .ok (.getfield 216, 3) := by decide +kernel
theorem dq_MO_scan_44 : decode (fx_cc mq_MO_scan) 44 = .ok (.iconst 2, 1) := by decide +kernel
theorem dq_MO_scan_45 : decode (fx_cc mq_MO_scan) 45 = .ok (.if_icmp .ne 7, 3) := by decide +kernel
theorem dq_MO_scan_48 : decode (fx_cc mq_MO_scan) 48 = .ok (.aload_n 0, 1) := by decide +kernel
theorem dq_MO_scan_49 : decode (fx_cc mq_MO_scan) 49 = .ok (.invokevirtual 262, 3) := by decide +kernel
theorem dq_MO_scan_52 : decode (fx_cc mq_MO_scan) 52 = .ok (.iconst (-1), 1) := by decide +kernel
theorem dq_MO_scan_53 : decode (fx_cc mq_MO_scan) 53 = .ok (.ireturn, 1) := by decide +kernel
theorem dq_MO_look_0 : decode (fx_cc mq_MO_look) 0 = .ok (.sipush 200, 3) := by decide +kernel
theorem dq_MO_look_3 : decode (fx_cc mq_MO_look) 3 = .ok (.iconst 1, 1) := by decide +kernel
theorem dq_MO_look_4 : decode (fx_cc mq_MO_look) 4 = .ok (.aload_n 0, 1) := by decide +kernel
theorem dq_MO_look_5 : decode (fx_cc mq_MO_look) 5 = .ok (.getfield 68, 3) := by decide +kernel
theorem dq_MO_look_8 : decode (fx_cc mq_MO_look) 8 = .ok (.isub, 1) := by decide +kernel
theorem dq_MO_look_9 : decode (fx_cc mq_MO_look) 9 = .ok (.imul, 1) := by decide +kernel
theorem dq_MO_look_10 : decode (fx_cc mq_MO_look) 10 = .ok (.istore_n 1, 1) := by decide +kernel
theorem dq_MO_look_11 : decode (fx_cc mq_MO_look) 11 = .ok (.iconst 0, 1) := by decide +kernel
theorem dq_MO_look_12 : decode (fx_cc mq_MO_look) 12 = .ok (.istore_n 2, 1) := by decide +kernel
theorem dq_MO_look_13 : decode (fx_cc mq_MO_look) 13 = .ok (.iload_n 2, 1) := by decide +kernel
theorem dq_MO_look_14 : decode (fx_cc mq_MO_look) 14 = .ok (.sipush 200, 3) := by decide +kernel
theorem dq_MO_look_17 : decode (fx_cc mq_MO_look) 17 = .ok (.if_icmp .ge 23, 3) := by decide +kernel
theorem dq_MO_look_20 : decode (fx_cc mq_MO_look) 20 = .ok (.aload_n 0, 1) := by decide +kernel
theorem dq_MO_look_21 : decode (fx_cc mq_MO_look) 21 = .ok (.getfield 123, 3) := by decide +kernel
theorem dq_MO_look_24 : decode (fx_cc mq_MO_look) 24 = .ok (.iload_n 2, 1) := by decide +kernel
theorem dq_MO_look_25 : decode (fx_cc mq_MO_look) 25 = .ok (.aload_n 0, 1) := by decide +kernel
theorem dq_MO_look_26 : decode (fx_cc mq_MO_look) 26 = .ok (.getfield 72, 3) := by decide +kernel
theorem dq_MO_look_29 : decode (fx_cc mq_MO_look) 29 = .ok (.iload_n 1, 1) := by decide +kernel
theorem dq_MO_look_30 : decode (fx_cc mq_MO_look) 30 = .ok (.iload_n 2, 1) := by decide +kernel
theorem dq_MO_look_31 : decode (fx_cc mq_MO_look) 31 = .ok (.iadd, 1) := by decide +kernel
theorem dq_MO_look_32 : decode (fx_cc mq_MO_look) 32 = .ok (.iaload, 1) := by decide +kernel
theorem dq_MO_look_33 : decode (fx_cc mq_MO_look) 33 = .ok (.iastore, 1) := by decide +kernel
theorem dq_MO_look_34 : decode (fx_cc mq_MO_look) 34 = .ok (.iinc 2 1, 3) := by decide +kernel
theorem dq_MO_look_37 : decode (fx_cc mq_MO_look) 37 = .ok (.goto (-24), 3) := by decide +kernel
theorem dq_MO_look_40 : decode (fx_cc mq_MO_look) 40 = .ok (.iconst 0, 1) := by decide +kernel
theorem dq_MO_look_41 : decode (fx_cc mq_MO_look) 41 = .ok (.istore_n 2, 1) := by decide +kernel
theorem dq_MO_look_42 : decode (fx_cc mq_MO_look) 42 = .ok (.iload_n 2, 1) := by decide +kernel
theorem dq_MO_look_43 : decode (fx_cc mq_MO_look) 43 = .ok (.iconst 2, 1) := by decide +kernel
theorem dq_MO_look_44 : decode (fx_cc mq_MO_look) 44 = .ok (.if_icmp .ge 94, 3) := by decide +kernel
theorem dq_MO_look_47 : decode (fx_cc mq_MO_look) 47 = .ok (.iconst 0, 1) := by decide +kernel
theorem dq_MO_look_48 : decode (fx_cc mq_MO_look) 48 = .ok (.istore_n 3, 1) := by decide +kernel
theorem dq_MO_look_49 : decode (fx_cc mq_MO_look) 49 = .ok (.iload_n 3, 1) := by decide +kernel
theorem dq_MO_look_50 : decode (fx_cc mq_MO_look) 50 = .ok (.aload_n 0, 1) := by decide +kernel
theorem dq_MO_look_51 : decode (fx_cc mq_MO_look) 51 = .ok (.getfield 117, 3) := by decide +kernel
theorem dq_MO_look_54 : decode (fx_cc mq_MO_look) 54 = .ok (.iload_n 2, 1) := by decide +kernel
theorem dq_MO_look_55 : decode (fx_cc mq_MO_look) 55 = .ok (.iaload, 1) := by decide +kernel
theorem dq_MO_look_56 : decode (fx_cc mq_MO_look) 56 = .ok (.if_icmp .ge 76, 3) := by decide +kernel
theorem dq_MO_look_59 : decode (fx_cc mq_MO_look) 59 = .ok (.iconst 0, 1) := by decide +kernel
theorem dq_MO_look_60 : decode (fx_cc mq_MO_look) 60 = .ok (.istore 4, 2) := by decide +kernel
theorem dq_MO_look_62 : decode (fx_cc mq_MO_look) 62 = .ok (.iload 4, 2) := by decide +kernel
theorem dq_MO_look_64 : decode (fx_cc mq_MO_look) 64 = .ok (.aload_n 0, 1) := by decide +kernel
theorem dq_MO_look_65 : decode (fx_cc mq_MO_look) 65 = .ok (.getfield 114, 3) := by decide +kernel
theorem dq_MO_look_68 : decode (fx_cc mq_MO_look) 68 = .ok (.iload_n 2, 1) := by decide +kernel
theorem dq_MO_look_69 : decode (fx_cc mq_MO_look) 69 = .ok (.iaload, 1) := by decide +kernel
theorem dq_MO_look_70 : decode (fx_cc mq_MO_look) 70 = .ok (.if_icmp .ge 56, 3) := by decide +kernel
theorem dq_MO_look_73 : decode (fx_cc mq_MO_look) 73 = .ok (.aload_n 0, 1) := by decide +kernel
theorem dq_MO_look_74 : decode (fx_cc mq_MO_look) 74 = .ok (.getfield 123, 3) := by decide +kernel
theorem dq_MO_look_77 : decode (fx_cc mq_MO_look) 77 = .ok (.bipush 20, 2) := by decide +kernel
theorem dq_MO_look_79 : decode (fx_cc mq_MO_look) 79 = .ok (.aload_n 0, 1) := by decide +kernel
theorem dq_MO_look_80 : decode (fx_cc mq_MO_look) 80 = .ok (.getfield 111, 3) := by decide +kernel
theorem dq_MO_look_83 : decode (fx_cc mq_MO_look) 83 = .ok (.iload_n 2, 1) := by decide +kernel
theorem dq_MO_look_84 : decode (fx_cc mq_MO_look) 84 = .ok (.iaload, 1) := by decide +kernel
theorem dq_MO_look_85 : decode (fx_cc mq_MO_look) 85 = .ok (.iload_n 3, 1) := by decide +kernel
theorem dq_MO_look_86 : decode (fx_cc mq_MO_look) 86 = .ok (.iadd, 1) := by decide +kernel
theorem dq_MO_look_87 : decode (fx_cc mq_MO_look) 87 = .ok (.imul, 1) := by decide +kernel
theorem dq_MO_look_88 : decode (fx_cc mq_MO_look) 88 = .ok (.aload_n 0, 1) := by decide +kernel
theorem dq_MO_look_89 : decode (fx_cc mq_MO_look) 89 = .ok (.getfield 108, 3) := by decide +kernel
theorem dq_MO_look_92 : decode (fx_cc mq_MO_look) 92 = .ok (.iload_n 2, 1) := by decide +kernel
theorem dq_MO_look_93 : decode (fx_cc mq_MO_look) 93 = .ok (.iaload, 1) := by decide +kernel
theorem dq_MO_look_94 : decode (fx_cc mq_MO_look) 94 = .ok (.iadd, 1) := by decide +kernel
theorem dq_MO_look_95 : decode (fx_cc mq_MO_look) 95 = .ok (.iload 4, 2) := by decide +kernel
theorem dq_MO_look_97 : decode (fx_cc mq_MO_look) 97 = .ok (.iadd, 1) := by decide +kernel
theorem dq_MO_look_98 : decode (fx_cc mq_MO_look) 98 = .ok (.aload_n 0, 1) := by decide +kernel
theorem dq_MO_look_99 : decode (fx_cc mq_MO_look) 99 = .ok (.getfield 120, 3) := by decide +kernel
theorem dq_MO_look_102 : decode (fx_cc mq_MO_look) 102 = .ok (.bipush 24, 2) := by decide +kernel
theorem dq_MO_look_104 : decode (fx_cc mq_MO_look) 104 = .ok (.iload_n 2, 1) := by decide +kernel
theorem dq_MO_look_105 : decode (fx_cc mq_MO_look) 105 = .ok (.imul, 1) := by decide +kernel
theorem dq_MO_look_106 : decode (fx_cc mq_MO_look) 106 = .ok (.aload_n 0, 1) := by decide +kernel
theorem dq_MO_look_107 : decode (fx_cc mq_MO_look) 107 = .ok (.getfield 114, 3) := by decide +kernel
theorem dq_MO_look_110 : decode (fx_cc mq_MO_look) 110 = .ok (.iload_n 2, 1) := by decide +kernel
theorem dq_MO_look_111 : decode (fx_cc mq_MO_look) 111 = .ok (.iaload, 1) := by decide +kernel
theorem dq_MO_look_112 : decode (fx_cc mq_MO_look) 112 = .ok (.iload_n 3, 1) := by decide +kernel
theorem dq_MO_look_113 : decode (fx_cc mq_MO_look) 113 = .ok (.imul, 1) := by decide +kernel
theorem dq_MO_look_114 : decode (fx_cc mq_MO_look) 114 = .ok (.iadd, 1) := by decide +kernel
theorem dq_MO_look_115 : decode (fx_cc mq_MO_look) 115 = .ok (.iload 4, 2) := by decide +kernel
theorem dq_MO_look_117 : decode (fx_cc mq_MO_look) 117 = .ok (.iadd, 1) := by decide +kernel
theorem dq_MO_look_118 : decode (fx_cc mq_MO_look) 118 = .ok (.iaload, 1) := by decide +kernel
theorem dq_MO_look_119 : decode (fx_cc mq_MO_look) 119 = .ok (.iastore, 1) := by decide +kernel
theorem dq_MO_look_120 : decode (fx_cc mq_MO_look) 120 = .ok (.iinc 4 1, 3) := by decide +kernel
theorem dq_MO_look_123 : decode (fx_cc mq_MO_look) 123 = .ok (.goto (-61), 3) := by decide +kernel
theorem dq_MO_look_126 : decode (fx_cc mq_MO_look) 126 = .ok (.iinc 3 1, 3) := by decide +kernel
theorem dq_MO_look_129 : decode (fx_cc mq_MO_look) 129 = .ok (.goto (-80), 3) := by decide +kernel
theorem dq_MO_look_132 : decode (fx_cc mq_MO_look) 132 = .ok (.iinc 2 1, 3) := by decide +kernel
theorem dq_MO_look_135 : decode (fx_cc mq_MO_look) 135 = .ok (.goto (-93), 3) := by decide +kernel
theorem dq_MO_look_138 : decode (fx_cc mq_MO_look) 138 = .ok (.aload_n 0, 1) := by decide +kernel
theorem dq_MO_look_139 : decode (fx_cc mq_MO_look) 139 = .ok (.aload_n 0, 1) := by decide +kernel
theorem dq_MO_look_140 : decode (fx_cc mq_MO_look) 140 = .ok (.getfield 247, 3) := by decide +kernel
theorem dq_MO_look_143 : decode (fx_cc mq_MO_look) 143 = .ok (.putfield 250, 3) := by decide +kernel
theorem dq_MO_look_146 : decode (fx_cc mq_MO_look) 146 = .ok (.aload_n 0, 1) := by decide +kernel
theorem dq_MO_look_147 : decode (fx_cc mq_MO_look) 147 = .ok (.dup, 1) := by decide +kernel
theorem dq_MO_look_148 : decode (fx_cc mq_MO_look) 148 = .ok (.getfield 253, 3) := by decide +kernel
theorem dq_MO_look_151 : decode (fx_cc mq_MO_look) 151 = .ok (.iconst 1, 1) := by decide +kernel
theorem dq_MO_look_152 : decode (fx_cc mq_MO_look) 152 = .ok (.iadd, 1) := by decide +kernel
theorem dq_MO_look_153 : decode (fx_cc mq_MO_look) 153 = .ok (.putfield 253, 3) := by decide +kernel
theorem dq_MO_look_156 : decode (fx_cc mq_MO_look) 156 = .ok (.return_, 1) := by decide +kernel
theorem dq_MO_change_0 : decode (fx_cc mq_MO_change) 0 = .ok (.aload_n 0, 1) := by decide +kernel
theorem dq_MO_change_1 : decode (fx_cc mq_MO_change) 1 = .ok (.iconst 1, 1) := by decide +kernel
theorem dq_MO_change_2 : decode (fx_cc mq_MO_change) 2 = .ok (.aload_n 0, 1) := by decide +kernel
theorem dq_MO_change_3 : decode (fx_cc mq_MO_change) 3 = .ok (.getfield 68, 3) := by decide +kernel
theorem dq_MO_change_6 : decode (fx_cc mq_MO_change) 6 = .ok (.isub, 1) := by decide +kernel
theorem dq_MO_change_7 : decode (fx_cc mq_MO_change) 7 = .ok (.putfield 68, 3) := by decide +kernel
theorem dq_MO_change_10 : decode (fx_cc mq_MO_change) 10 = .ok (.iconst 0, 1) := by decide +kernel
theorem dq_MO_change_11 : decode (fx_cc mq_MO_change) 11 = .ok (.istore_n 1, 1) := by decide +kernel
theorem dq_MO_change_12 : decode (fx_cc mq_MO_change) 12 = .ok (.iload_n 1, 1) := by decide +kernel
theorem dq_MO_change_13 : decode (fx_cc mq_MO_change) 13 = .ok (.iconst 2, 1) := by decide +kernel
theorem dq_MO_change_14 : decode (fx_cc mq_MO_change) 14 = .ok (.if_icmp .ge 155, 3) := by decide +kernel
theorem dq_MO_change_17 : decode (fx_cc mq_MO_change) 17 = .ok (.aload_n 0, 1) := by decide +kernel
theorem dq_MO_change_18 : decode (fx_cc mq_MO_change) 18 = .ok (.getfield 114, 3) := by decide +kernel
theorem dq_MO_change_21 : decode (fx_cc mq_MO_change) 21 = .ok (.iload_n 1, 1) := by decide +kernel
theorem dq_MO_change_22 : decode (fx_cc mq_MO_change) 22 = .ok (.iconst 0, 1) := by decide +kernel
theorem dq_MO_change_23 : decode (fx_cc mq_MO_change) 23 = .ok (.iastore, 1) := by decide +kernel
theorem dq_MO_change_24 : decode (fx_cc mq_MO_change) 24 = .ok (.aload_n 0, 1) := by decide +kernel
theorem dq_MO_change_25 : decode (fx_cc mq_MO_change) 25 = .ok (.getfield 117, 3) := by decide +kernel
theorem dq_MO_change_28 : decode (fx_cc mq_MO_change) 28 = .ok (.iload_n 1, 1) := by decide +kernel
theorem dq_MO_change_29 : decode (fx_cc mq_MO_change) 29 = .ok (.iconst 0, 1) := by decide +kernel
theorem dq_MO_change_30 : decode (fx_cc mq_MO_change) 30 = .ok (.iastore, 1) := by decide +kernel
theorem dq_MO_change_31 : decode (fx_cc mq_MO_change) 31 = .ok (.aload_n 0, 1) := by decide +kernel
theorem dq_MO_change_32 : decode (fx_cc mq_MO_change) 32 = .ok (.getfield 90, 3) := by decide +kernel
theorem dq_MO_change_35 : decode (fx_cc mq_MO_change) 35 = .ok (.iload_n 1, 1) := by decide +kernel
theorem dq_MO_change_36 : decode (fx_cc mq_MO_change) 36 = .ok (.iaload, 1) := by decide +kernel
theorem dq_MO_change_37 : decode (fx_cc mq_MO_change) 37 = .ok (.ifCond .ge 6, 3) := by decide +kernel
theorem dq_MO_change_40 : decode (fx_cc mq_MO_change) 40 = .ok (.goto 123, 3) := by decide +kernel
theorem dq_MO_change_43 : decode (fx_cc mq_MO_change) 43 = .ok (.aload_n 0, 1) := by decide +kernel
theorem dq_MO_change_44 : decode (fx_cc mq_MO_change) 44 = .ok (.bipush 20, 2) := by decide +kernel
theorem dq_MO_change_46 : decode (fx_cc mq_MO_change) 46 = .ok (.aload_n 0, 1) := by decide +kernel
theorem dq_MO_change_47 : decode (fx_cc mq_MO_change) 47 = .ok (.getfield 90, 3) := by decide +kernel
theorem dq_MO_change_50 : decode (fx_cc mq_MO_change) 50 = .ok (.iload_n 1, 1) := by decide +kernel
theorem dq_MO_change_51 : decode (fx_cc mq_MO_change) 51 = .ok (.iaload, 1) := by decide +kernel
theorem dq_MO_change_52 : decode (fx_cc mq_MO_change) 52 = .ok (.iadd, 1) := by decide +kernel
theorem dq_MO_change_53 : decode (fx_cc mq_MO_change) 53 = .ok (.invokevirtual 204, 3) := by decide +kernel
theorem dq_MO_change_56 : decode (fx_cc mq_MO_change) 56 = .ok (.aload_n 0, 1) := by decide +kernel
theorem dq_MO_change_57 : decode (fx_cc mq_MO_change) 57 = .ok (.getfield 108, 3) := by decide +kernel
theorem dq_MO_change_60 : decode (fx_cc mq_MO_change) 60 = .ok (.iload_n 1, 1) := by decide +kernel
theorem dq_MO_change_61 : decode (fx_cc mq_MO_change) 61 = .ok (.aload_n 0, 1) := by decide +kernel
theorem dq_MO_change_62 : decode (fx_cc mq_MO_change) 62 = .ok (.getfield 141, 3) := by decide +kernel
theorem dq_MO_change_65 : decode (fx_cc mq_MO_change) 65 = .ok (.iastore, 1) := by decide +kernel
theorem dq_MO_change_66 : decode (fx_cc mq_MO_change) 66 = .ok (.aload_n 0, 1) := by decide +kernel
theorem dq_MO_change_67 : decode (fx_cc mq_MO_change) 67 = .ok (.getfield 111, 3) := by decide +kernel
theorem dq_MO_change_70 : decode (fx_cc mq_MO_change) 70 = .ok (.iload_n 1, 1) := by decide +kernel
theorem dq_MO_change_71 : decode (fx_cc mq_MO_change) 71 = .ok (.aload_n 0, 1) := by decide +kernel
theorem dq_MO_change_72 : decode (fx_cc mq_MO_change) 72 = .ok (.getfield 147, 3) := by decide +kernel
theorem dq_MO_change_75 : decode (fx_cc mq_MO_change) 75 = .ok (.iastore, 1) := by decide +kernel
theorem dq_MO_change_76 : decode (fx_cc mq_MO_change) 76 = .ok (.aload_n 0, 1) := by decide +kernel
theorem dq_MO_change_77 : decode (fx_cc mq_MO_change) 77 = .ok (.getfield 114, 3) := by decide +kernel
theorem dq_MO_change_80 : decode (fx_cc mq_MO_change) 80 = .ok (.iload_n 1, 1) := by decide +kernel
theorem dq_MO_change_81 : decode (fx_cc mq_MO_change) 81 = .ok (.aload_n 0, 1) := by decide +kernel
theorem dq_MO_change_82 : decode (fx_cc mq_MO_change) 82 = .ok (.getfield 144, 3) := by decide +kernel
theorem dq_MO_change_85 : decode (fx_cc mq_MO_change) 85 = .ok (.iastore, 1) := by decide +kernel
theorem dq_MO_change_86 : decode (fx_cc mq_MO_change) 86 = .ok (.aload_n 0, 1) := by decide +kernel
theorem dq_MO_change_87 : decode (fx_cc mq_MO_change) 87 = .ok (.getfield 117, 3) := by decide +kernel
theorem dq_MO_change_90 : decode (fx_cc mq_MO_change) 90 = .ok (.iload_n 1, 1) := by decide +kernel
theorem dq_MO_change_91 : decode (fx_cc mq_MO_change) 91 = .ok (.aload_n 0, 1) := by decide +kernel
theorem dq_MO_change_92 : decode (fx_cc mq_MO_change) 92 = .ok (.getfield 150, 3) := by decide +kernel
theorem dq_MO_change_95 : decode (fx_cc mq_MO_change) 95 = .ok (.iastore, 1) := by decide +kernel
theorem dq_MO_change_96 : decode (fx_cc mq_MO_change) 96 = .ok (.iconst 0, 1) := by decide +kernel
theorem dq_MO_change_97 : decode (fx_cc mq_MO_change) 97 = .ok (.istore_n 2, 1) := by decide +kernel
theorem dq_MO_change_98 : decode (fx_cc mq_MO_change) 98 = .ok (.iload_n 2, 1) := by decide +kernel
theorem dq_MO_change_99 : decode (fx_cc mq_MO_change) 99 = .ok (.aload_n 0, 1) := by decide +kernel
theorem dq_MO_change_100 : decode (fx_cc mq_MO_change) 100 = .ok (.getfield 144, 3) := by decide +kernel
theorem dq_MO_change_103 : decode (fx_cc mq_MO_change) 103 = .ok (.aload_n 0, 1) := by decide +kernel
theorem dq_MO_change_104 : decode (fx_cc mq_MO_change) 104 = .ok (.getfield 150, 3) := by decide +kernel
theorem dq_MO_change_107 : decode (fx_cc mq_MO_change) 107 = .ok (.imul, 1) := by decide +kernel
theorem dq_MO_change_108 : decode (fx_cc mq_MO_change) 108 = .ok (.if_icmp .ge 55, 3) := by decide +kernel
theorem dq_MO_change_111 : decode (fx_cc mq_MO_change) 111 = .ok (.aload_n 0, 1) := by decide +kernel
theorem dq_MO_change_112 : decode (fx_cc mq_MO_change) 112 = .ok (.getfield 120, 3) := by decide +kernel
theorem dq_MO_change_115 : decode (fx_cc mq_MO_change) 115 = .ok (.bipush 24, 2) := by decide +kernel
theorem dq_MO_change_117 : decode (fx_cc mq_MO_change) 117 = .ok (.iload_n 1, 1) := by decide +kernel
theorem dq_MO_change_118 : decode (fx_cc mq_MO_change) 118 = .ok (.imul, 1) := by decide +kernel
theorem dq_MO_change_119 : decode (fx_cc mq_MO_change) 119 = .ok (.iload_n 2, 1) := by decide +kernel
theorem dq_MO_change_120 : decode (fx_cc mq_MO_change) 120 = .ok (.iadd, 1) := by decide +kernel
theorem dq_MO_change_121 : decode (fx_cc mq_MO_change) 121 = .ok (.aload_n 0, 1) := by decide +kernel
theorem dq_MO_change_122 : decode (fx_cc mq_MO_change) 122 = .ok (.bipush 20, 2) := by decide +kernel
theorem dq_MO_change_124 : decode (fx_cc mq_MO_change) 124 = .ok (.aload_n 0, 1) := by decide +kernel
theorem dq_MO_change_125 : decode (fx_cc mq_MO_change) 125 = .ok (.getfield 90, 3) := by decide +kernel
theorem dq_MO_change_128 : decode (fx_cc mq_MO_change) 128 = .ok (.iload_n 1, 1) := by decide +kernel
theorem dq_MO_change_129 : decode (fx_cc mq_MO_change) 129 = .ok (.iaload, 1) := by decide +kernel
theorem dq_MO_change_130 : decode (fx_cc mq_MO_change) 130 = .ok (.iadd, 1) := by decide +kernel
theorem dq_MO_change_131 : decode (fx_cc mq_MO_change) 131 = .ok (.aload_n 0, 1) := by decide +kernel
theorem dq_MO_change_132 : decode (fx_cc mq_MO_change) 132 = .ok (.getfield 141, 3) := by decide +kernel
theorem dq_MO_change_135 : decode (fx_cc mq_MO_change) 135 = .ok (.iload_n 2, 1) := by decide +kernel
theorem dq_MO_change_136 : decode (fx_cc mq_MO_change) 136 = .ok (.aload_n 0, 1) := by decide +kernel
theorem dq_MO_change_137 : decode (fx_cc mq_MO_change) 137 = .ok (.getfield 144, 3) := by decide +kernel
theorem dq_MO_change_140 : decode (fx_cc mq_MO_change) 140 = .ok (.irem, 1) := by decide +kernel
theorem dq_MO_change_141 : decode (fx_cc mq_MO_change) 141 = .ok (.iadd, 1) := by decide +kernel
theorem dq_MO_change_142 : decode (fx_cc mq_MO_change) 142 = .ok (.aload_n 0, 1) := by decide +kernel
theorem dq_MO_change_143 : decode (fx_cc mq_MO_change) 143 = .ok (.getfield 147, 3) := by decide +kernel
theorem dq_MO_change_146 : decode (fx_cc mq_MO_change) 146 = .ok (.iload_n 2, 1) := by decide +kernel
theorem dq_MO_change_147 : decode (fx_cc mq_MO_change) 147 = .ok (.aload_n 0, 1) := by decide +kernel
theorem dq_MO_change_148 : decode (fx_cc mq_MO_change) 148 = .ok (.getfield 144, 3) := by decide +kernel
theorem dq_MO_change_151 : decode (fx_cc mq_MO_change) 151 = .ok (.idiv, 1) := by decide +kernel
theorem dq_MO_change_152 : decode (fx_cc mq_MO_change) 152 = .ok (.iadd, 1) := by decide +kernel
theorem dq_MO_change_153 : decode (fx_cc mq_MO_change) 153 = .ok (.invokevirtual 225, 3) := by decide +kernel
theorem dq_MO_change_156 : decode (fx_cc mq_MO_change) 156 = .ok (.iastore, 1) := by decide +kernel
theorem dq_MO_change_157 : decode (fx_cc mq_MO_change) 157 = .ok (.iinc 2 1, 3) := by decide +kernel
theorem dq_MO_change_160 : decode (fx_cc mq_MO_change) 160 = .ok (.goto (-62), 3) := by decide +kernel
theorem dq_MO_change_163 : decode (fx_cc mq_MO_change) 163 = .ok (.iinc 1 1, 3) := by decide +kernel
theorem dq_MO_change_166 : decode (fx_cc mq_MO_change) 166 = .ok (.goto (-154), 3) := by decide +kernel
theorem dq_MO_change_169 : decode (fx_cc mq_MO_change) 169 = .ok (.aload_n 0, 1) := by decide +kernel
theorem dq_MO_change_170 : decode (fx_cc mq_MO_change) 170 = .ok (.aload_n 0, 1) := by decide +kernel
theorem dq_MO_change_171 : decode (fx_cc mq_MO_change) 171 = .ok (.getfield 167, 3) := by decide +kernel
theorem dq_MO_change_174 : decode (fx_cc mq_MO_change) 174 = .ok (.putfield 247, 3) := by decide +kernel
theorem dq_MO_change_177 : decode (fx_cc mq_MO_change) 177 = .ok (.aload_n 0, 1) := by decide +kernel
theorem dq_MO_change_178 : decode (fx_cc mq_MO_change) 178 = .ok (.iconst 0, 1) := by decide +kernel
theorem dq_MO_change_179 : decode (fx_cc mq_MO_change) 179 = .ok (.putfield 216, 3) := by decide +kernel
theorem dq_MO_change_182 : decode (fx_cc mq_MO_change) 182 = .ok (.return_, 1) := by decide +kernel
theorem dq_MO_state_0 : decode (fx_cc mq_MO_state) 0 = .ok (.aload_n 0, 1) := by decide +kernel
theorem dq_MO_state_1 : decode (fx_cc mq_MO_state) 1 = .ok (.iconst 0, 1) := by decide +kernel
theorem dq_MO_state_2 : decode (fx_cc mq_MO_state) 2 = .ok (.putfield 126, 3) := by decide +kernel
theorem dq_MO_state_5 : decode (fx_cc mq_MO_state) 5 = .ok (.aload_n 0, 1) := by decide +kernel
theorem dq_MO_state_6 : decode (fx_cc mq_MO_state) 6 = .ok (.getfield 216, 3) := by decide +kernel
theorem dq_MO_state_9 : decode (fx_cc mq_MO_state) 9 = .ok (.ireturn, 1) := by decide +kernel
theorem dq_MO_seen_0 : decode (fx_cc mq_MO_seen) 0 = .ok (.aload_n 0, 1) := by decide +kernel
theorem dq_MO_seen_1 : decode (fx_cc mq_MO_seen) 1 = .ok (.iconst 0, 1) := by decide +kernel
theorem dq_MO_seen_2 : decode (fx_cc mq_MO_seen) 2 = .ok (.putfield 126, 3) := by decide +kernel
theorem dq_MO_seen_5 : decode (fx_cc mq_MO_seen) 5 = .ok (.iload_n 1, 1) := by decide +kernel
theorem dq_MO_seen_6 : decode (fx_cc mq_MO_seen) 6 = .ok (.iload_n 2, 1) := by decide +kernel
theorem dq_MO_seen_7 : decode (fx_cc mq_MO_seen) 7 = .ok (.invokestatic 265, 3) := by decide +kernel
theorem dq_MO_seen_10 : decode (fx_cc mq_MO_seen) 10 = .ok (.ifCond .eq 17, 3) := by decide +kernel
theorem dq_MO_seen_13 : decode (fx_cc mq_MO_seen) 13 = .ok (.aload_n 0, 1) := by decide +kernel
theorem dq_MO_seen_14 : decode (fx_cc mq_MO_seen) 14 = .ok (.getfield 123, 3) := by decide +kernel
theorem dq_MO_seen_17 : decode (fx_cc mq_MO_seen) 17 = .ok (.bipush 20, 2) := by decide +kernel
theorem dq_MO_seen_19 : decode (fx_cc mq_MO_seen) 19 = .ok (.iload_n 2, 1) := by decide +kernel
theorem dq_MO_seen_20 : decode (fx_cc mq_MO_seen) 20 = .ok (.imul, 1) := by decide +kernel
theorem dq_MO_seen_21 : decode (fx_cc mq_MO_seen) 21 = .ok (.iload_n 1, 1) := by decide +kernel
theorem dq_MO_seen_22 : decode (fx_cc mq_MO_seen) 22 = .ok (.iadd, 1) := by decide +kernel
theorem dq_MO_seen_23 : decode (fx_cc mq_MO_seen) 23 = .ok (.iaload, 1) := by decide +kernel
theorem dq_MO_seen_24 : decode (fx_cc mq_MO_seen) 24 = .ok (.goto 4, 3) := by decide +kernel
theorem dq_MO_seen_27 : decode (fx_cc mq_MO_seen) 27 = .ok (.iconst (-1), 1) := by decide +kernel
theorem dq_MO_seen_28 : decode (fx_cc mq_MO_seen) 28 = .ok (.ireturn, 1) := by decide +kernel
theorem dq_MO_isPixel_0 : decode (fx_cc mq_MO_isPixel) 0 = .ok (.iload_n 0, 1) := by decide +kernel
theorem dq_MO_isPixel_1 : decode (fx_cc mq_MO_isPixel) 1 = .ok (.ifCond .lt 23, 3) := by decide +kernel
theorem dq_MO_isPixel_4 : decode (fx_cc mq_MO_isPixel) 4 = .ok (.iload_n 0, 1) := by decide +kernel
theorem dq_MO_isPixel_5 : decode (fx_cc mq_MO_isPixel) 5 = .ok (.bipush 20, 2) := by decide +kernel
theorem dq_MO_isPixel_7 : decode (fx_cc mq_MO_isPixel) 7 = .ok (.if_icmp .ge 17, 3) := by decide +kernel
theorem dq_MO_isPixel_10 : decode (fx_cc mq_MO_isPixel) 10 = .ok (.iload_n 1, 1) := by decide +kernel
theorem dq_MO_isPixel_11 : decode (fx_cc mq_MO_isPixel) 11 = .ok (.ifCond .lt 13, 3) := by decide +kernel
theorem dq_MO_isPixel_14 : decode (fx_cc mq_MO_isPixel) 14 = .ok (.iload_n 1, 1) := by decide +kernel
theorem dq_MO_isPixel_15 : decode (fx_cc mq_MO_isPixel) 15 = .ok (.bipush 10, 2) := by decide +kernel
theorem dq_MO_isPixel_17 : decode (fx_cc mq_MO_isPixel) 17 = .ok (.if_icmp .ge 7, 3) := by decide +kernel
theorem dq_MO_isPixel_20 : decode (fx_cc mq_MO_isPixel) 20 = .ok (.iconst 1, 1) := by decide +kernel
theorem dq_MO_isPixel_21 : decode (fx_cc mq_MO_isPixel) 21 = .ok (.goto 4, 3) := by decide +kernel
theorem dq_MO_isPixel_24 : decode (fx_cc mq_MO_isPixel) 24 = .ok (.iconst 0, 1) := by decide +kernel
theorem dq_MO_isPixel_25 : decode (fx_cc mq_MO_isPixel) 25 = .ok (.ireturn, 1) := by decide +kernel
theorem dq_MO_wanted_0 : decode (fx_cc mq_MO_wanted) 0 = .ok (.aload_n 0, 1) := by decide +kernel
theorem dq_MO_wanted_1 : decode (fx_cc mq_MO_wanted) 1 = .ok (.iconst 0, 1) := by decide +kernel
theorem dq_MO_wanted_2 : decode (fx_cc mq_MO_wanted) 2 = .ok (.putfield 126, 3) := by decide +kernel
theorem dq_MO_wanted_5 : decode (fx_cc mq_MO_wanted) 5 = .ok (.iload_n 1, 1) := by decide +kernel
theorem dq_MO_wanted_6 : decode (fx_cc mq_MO_wanted) 6 = .ok (.iload_n 2, 1) := by decide +kernel
theorem dq_MO_wanted_7 : decode (fx_cc mq_MO_wanted) 7 = .ok (.invokestatic 265, 3) := by decide +kernel
theorem dq_MO_wanted_10 : decode (fx_cc mq_MO_wanted) 10 = .ok (.ifCond .ne 5, 3) := by decide +kernel
theorem dq_MO_wanted_13 : decode (fx_cc mq_MO_wanted) 13 = .ok (.iconst (-1), 1) := by decide +kernel
theorem dq_MO_wanted_14 : decode (fx_cc mq_MO_wanted) 14 = .ok (.ireturn, 1) := by decide +kernel
