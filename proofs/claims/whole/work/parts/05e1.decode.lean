theorem d_L_law_0 : decode M_L_law.2.1 0 = .ok (.new 7, 3) := by decide +kernel
theorem d_L_law_3 : decode M_L_law.2.1 3 = .ok (.dup, 1) := by decide +kernel
theorem d_L_law_4 : decode M_L_law.2.1 4 = .ok (.invokespecial 9, 3) := by decide +kernel
theorem d_L_law_7 : decode M_L_law.2.1 7 = .ok (.astore_n 1, 1) := by decide +kernel
theorem d_L_law_8 : decode M_L_law.2.1 8 = .ok (.new 10, 3) := by decide +kernel
theorem d_L_law_11 : decode M_L_law.2.1 11 = .ok (.dup, 1) := by decide +kernel
theorem d_L_law_12 : decode M_L_law.2.1 12 = .ok (.invokespecial 12, 3) := by decide +kernel
theorem d_L_law_15 : decode M_L_law.2.1 15 = .ok (.astore_n 2, 1) := by decide +kernel
theorem d_L_law_16 : decode M_L_law.2.1 16 = .ok (.iconst (0), 1) := by decide +kernel
theorem d_L_law_17 : decode M_L_law.2.1 17 = .ok (.istore_n 3, 1) := by decide +kernel
theorem d_L_law_18 : decode M_L_law.2.1 18 = .ok (.iload_n 3, 1) := by decide +kernel
theorem d_L_law_19 : decode M_L_law.2.1 19 = .ok (.aload_n 0, 1) := by decide +kernel
theorem d_L_law_20 : decode M_L_law.2.1 20 = .ok (.arraylength, 1) := by decide +kernel
theorem d_L_law_21 : decode M_L_law.2.1 21 = .ok (.bipush (6), 2) := by decide +kernel
theorem d_L_law_23 : decode M_L_law.2.1 23 = .ok (.isub, 1) := by decide +kernel
theorem d_L_law_24 : decode M_L_law.2.1 24 = .ok (.if_icmp .gt (568), 3) := by decide +kernel
theorem d_L_law_27 : decode M_L_law.2.1 27 = .ok (.aload_n 0, 1) := by decide +kernel
theorem d_L_law_28 : decode M_L_law.2.1 28 = .ok (.iload_n 3, 1) := by decide +kernel
theorem d_L_law_29 : decode M_L_law.2.1 29 = .ok (.iaload, 1) := by decide +kernel
theorem d_L_law_30 : decode M_L_law.2.1 30 = .ok (.bipush (15), 2) := by decide +kernel
theorem d_L_law_32 : decode M_L_law.2.1 32 = .ok (.iand, 1) := by decide +kernel
theorem d_L_law_33 : decode M_L_law.2.1 33 = .ok (.tableswitch (553) (0) (13) #[71, 150, 163, 186, 209, 232, 255, 288, 312, 336, 369, 392, 477, 510], 71) := by decide +kernel
theorem d_L_law_104 : decode M_L_law.2.1 104 = .ok (.aload_n 1, 1) := by decide +kernel
theorem d_L_law_105 : decode M_L_law.2.1 105 = .ok (.aload_n 0, 1) := by decide +kernel
theorem d_L_law_106 : decode M_L_law.2.1 106 = .ok (.iload_n 3, 1) := by decide +kernel
theorem d_L_law_107 : decode M_L_law.2.1 107 = .ok (.iconst (1), 1) := by decide +kernel
theorem d_L_law_108 : decode M_L_law.2.1 108 = .ok (.iadd, 1) := by decide +kernel
theorem d_L_law_109 : decode M_L_law.2.1 109 = .ok (.iaload, 1) := by decide +kernel
theorem d_L_law_110 : decode M_L_law.2.1 110 = .ok (.aload_n 0, 1) := by decide +kernel
theorem d_L_law_111 : decode M_L_law.2.1 111 = .ok (.iload_n 3, 1) := by decide +kernel
theorem d_L_law_112 : decode M_L_law.2.1 112 = .ok (.iconst (2), 1) := by decide +kernel
theorem d_L_law_113 : decode M_L_law.2.1 113 = .ok (.iadd, 1) := by decide +kernel
theorem d_L_law_114 : decode M_L_law.2.1 114 = .ok (.iaload, 1) := by decide +kernel
theorem d_L_law_115 : decode M_L_law.2.1 115 = .ok (.aload_n 0, 1) := by decide +kernel
theorem d_L_law_116 : decode M_L_law.2.1 116 = .ok (.iload_n 3, 1) := by decide +kernel
theorem d_L_law_117 : decode M_L_law.2.1 117 = .ok (.iconst (3), 1) := by decide +kernel
theorem d_L_law_118 : decode M_L_law.2.1 118 = .ok (.iadd, 1) := by decide +kernel
theorem d_L_law_119 : decode M_L_law.2.1 119 = .ok (.iaload, 1) := by decide +kernel
theorem d_L_law_120 : decode M_L_law.2.1 120 = .ok (.aload_n 0, 1) := by decide +kernel
theorem d_L_law_121 : decode M_L_law.2.1 121 = .ok (.iload_n 3, 1) := by decide +kernel
theorem d_L_law_122 : decode M_L_law.2.1 122 = .ok (.iconst (4), 1) := by decide +kernel
theorem d_L_law_123 : decode M_L_law.2.1 123 = .ok (.iadd, 1) := by decide +kernel
theorem d_L_law_124 : decode M_L_law.2.1 124 = .ok (.iaload, 1) := by decide +kernel
theorem d_L_law_125 : decode M_L_law.2.1 125 = .ok (.aload_n 0, 1) := by decide +kernel
theorem d_L_law_126 : decode M_L_law.2.1 126 = .ok (.iload_n 3, 1) := by decide +kernel
theorem d_L_law_127 : decode M_L_law.2.1 127 = .ok (.iconst (5), 1) := by decide +kernel
theorem d_L_law_128 : decode M_L_law.2.1 128 = .ok (.iadd, 1) := by decide +kernel
theorem d_L_law_129 : decode M_L_law.2.1 129 = .ok (.iaload, 1) := by decide +kernel
theorem d_L_law_130 : decode M_L_law.2.1 130 = .ok (.ifCond .eq (7), 3) := by decide +kernel
theorem d_L_law_133 : decode M_L_law.2.1 133 = .ok (.iconst (1), 1) := by decide +kernel
theorem d_L_law_134 : decode M_L_law.2.1 134 = .ok (.goto (4), 3) := by decide +kernel
theorem d_L_law_137 : decode M_L_law.2.1 137 = .ok (.iconst (0), 1) := by decide +kernel
theorem d_L_law_138 : decode M_L_law.2.1 138 = .ok (.invokevirtual 13, 3) := by decide +kernel
theorem d_L_law_141 : decode M_L_law.2.1 141 = .ok (.aload_n 2, 1) := by decide +kernel
theorem d_L_law_142 : decode M_L_law.2.1 142 = .ok (.aload_n 0, 1) := by decide +kernel
theorem d_L_law_143 : decode M_L_law.2.1 143 = .ok (.iload_n 3, 1) := by decide +kernel
theorem d_L_law_144 : decode M_L_law.2.1 144 = .ok (.iconst (1), 1) := by decide +kernel
theorem d_L_law_145 : decode M_L_law.2.1 145 = .ok (.iadd, 1) := by decide +kernel
theorem d_L_law_146 : decode M_L_law.2.1 146 = .ok (.iaload, 1) := by decide +kernel
theorem d_L_law_147 : decode M_L_law.2.1 147 = .ok (.aload_n 0, 1) := by decide +kernel
theorem d_L_law_148 : decode M_L_law.2.1 148 = .ok (.iload_n 3, 1) := by decide +kernel
theorem d_L_law_149 : decode M_L_law.2.1 149 = .ok (.iconst (2), 1) := by decide +kernel
theorem d_L_law_150 : decode M_L_law.2.1 150 = .ok (.iadd, 1) := by decide +kernel
theorem d_L_law_151 : decode M_L_law.2.1 151 = .ok (.iaload, 1) := by decide +kernel
theorem d_L_law_152 : decode M_L_law.2.1 152 = .ok (.aload_n 0, 1) := by decide +kernel
theorem d_L_law_153 : decode M_L_law.2.1 153 = .ok (.iload_n 3, 1) := by decide +kernel
theorem d_L_law_154 : decode M_L_law.2.1 154 = .ok (.iconst (3), 1) := by decide +kernel
theorem d_L_law_155 : decode M_L_law.2.1 155 = .ok (.iadd, 1) := by decide +kernel
theorem d_L_law_156 : decode M_L_law.2.1 156 = .ok (.iaload, 1) := by decide +kernel
theorem d_L_law_157 : decode M_L_law.2.1 157 = .ok (.aload_n 0, 1) := by decide +kernel
theorem d_L_law_158 : decode M_L_law.2.1 158 = .ok (.iload_n 3, 1) := by decide +kernel
theorem d_L_law_159 : decode M_L_law.2.1 159 = .ok (.iconst (4), 1) := by decide +kernel
theorem d_L_law_160 : decode M_L_law.2.1 160 = .ok (.iadd, 1) := by decide +kernel
theorem d_L_law_161 : decode M_L_law.2.1 161 = .ok (.iaload, 1) := by decide +kernel
theorem d_L_law_162 : decode M_L_law.2.1 162 = .ok (.aload_n 0, 1) := by decide +kernel
theorem d_L_law_163 : decode M_L_law.2.1 163 = .ok (.iload_n 3, 1) := by decide +kernel
theorem d_L_law_164 : decode M_L_law.2.1 164 = .ok (.iconst (5), 1) := by decide +kernel
theorem d_L_law_165 : decode M_L_law.2.1 165 = .ok (.iadd, 1) := by decide +kernel
theorem d_L_law_166 : decode M_L_law.2.1 166 = .ok (.iaload, 1) := by decide +kernel
theorem d_L_law_167 : decode M_L_law.2.1 167 = .ok (.ifCond .eq (7), 3) := by decide +kernel
theorem d_L_law_170 : decode M_L_law.2.1 170 = .ok (.iconst (1), 1) := by decide +kernel
theorem d_L_law_171 : decode M_L_law.2.1 171 = .ok (.goto (4), 3) := by decide +kernel
theorem d_L_law_174 : decode M_L_law.2.1 174 = .ok (.iconst (0), 1) := by decide +kernel
theorem d_L_law_175 : decode M_L_law.2.1 175 = .ok (.invokevirtual 17, 3) := by decide +kernel
theorem d_L_law_178 : decode M_L_law.2.1 178 = .ok (.if_icmp .eq (408), 3) := by decide +kernel
theorem d_L_law_181 : decode M_L_law.2.1 181 = .ok (.iconst (0), 1) := by decide +kernel
theorem d_L_law_182 : decode M_L_law.2.1 182 = .ok (.ireturn, 1) := by decide +kernel
theorem d_L_law_183 : decode M_L_law.2.1 183 = .ok (.aload_n 1, 1) := by decide +kernel
theorem d_L_law_184 : decode M_L_law.2.1 184 = .ok (.invokevirtual 18, 3) := by decide +kernel
theorem d_L_law_187 : decode M_L_law.2.1 187 = .ok (.aload_n 2, 1) := by decide +kernel
theorem d_L_law_188 : decode M_L_law.2.1 188 = .ok (.invokevirtual 22, 3) := by decide +kernel
theorem d_L_law_191 : decode M_L_law.2.1 191 = .ok (.if_icmp .eq (395), 3) := by decide +kernel
theorem d_L_law_194 : decode M_L_law.2.1 194 = .ok (.iconst (0), 1) := by decide +kernel
theorem d_L_law_195 : decode M_L_law.2.1 195 = .ok (.ireturn, 1) := by decide +kernel
theorem d_L_law_196 : decode M_L_law.2.1 196 = .ok (.aload_n 1, 1) := by decide +kernel
theorem d_L_law_197 : decode M_L_law.2.1 197 = .ok (.aload_n 0, 1) := by decide +kernel
theorem d_L_law_198 : decode M_L_law.2.1 198 = .ok (.iload_n 3, 1) := by decide +kernel
theorem d_L_law_199 : decode M_L_law.2.1 199 = .ok (.iconst (1), 1) := by decide +kernel
theorem d_L_law_200 : decode M_L_law.2.1 200 = .ok (.iadd, 1) := by decide +kernel
theorem d_L_law_201 : decode M_L_law.2.1 201 = .ok (.iaload, 1) := by decide +kernel
theorem d_L_law_202 : decode M_L_law.2.1 202 = .ok (.invokevirtual 23, 3) := by decide +kernel
theorem d_L_law_205 : decode M_L_law.2.1 205 = .ok (.aload_n 2, 1) := by decide +kernel
theorem d_L_law_206 : decode M_L_law.2.1 206 = .ok (.aload_n 0, 1) := by decide +kernel
theorem d_L_law_207 : decode M_L_law.2.1 207 = .ok (.iload_n 3, 1) := by decide +kernel
theorem d_L_law_208 : decode M_L_law.2.1 208 = .ok (.iconst (1), 1) := by decide +kernel
theorem d_L_law_209 : decode M_L_law.2.1 209 = .ok (.iadd, 1) := by decide +kernel
theorem d_L_law_210 : decode M_L_law.2.1 210 = .ok (.iaload, 1) := by decide +kernel
theorem d_L_law_211 : decode M_L_law.2.1 211 = .ok (.invokevirtual 27, 3) := by decide +kernel
theorem d_L_law_214 : decode M_L_law.2.1 214 = .ok (.if_icmp .eq (372), 3) := by decide +kernel
theorem d_L_law_217 : decode M_L_law.2.1 217 = .ok (.iconst (0), 1) := by decide +kernel
theorem d_L_law_218 : decode M_L_law.2.1 218 = .ok (.ireturn, 1) := by decide +kernel
theorem d_L_law_219 : decode M_L_law.2.1 219 = .ok (.aload_n 1, 1) := by decide +kernel
theorem d_L_law_220 : decode M_L_law.2.1 220 = .ok (.aload_n 0, 1) := by decide +kernel
theorem d_L_law_221 : decode M_L_law.2.1 221 = .ok (.iload_n 3, 1) := by decide +kernel
theorem d_L_law_222 : decode M_L_law.2.1 222 = .ok (.iconst (1), 1) := by decide +kernel
theorem d_L_law_223 : decode M_L_law.2.1 223 = .ok (.iadd, 1) := by decide +kernel
theorem d_L_law_224 : decode M_L_law.2.1 224 = .ok (.iaload, 1) := by decide +kernel
theorem d_L_law_225 : decode M_L_law.2.1 225 = .ok (.invokevirtual 28, 3) := by decide +kernel
theorem d_L_law_228 : decode M_L_law.2.1 228 = .ok (.aload_n 2, 1) := by decide +kernel
theorem d_L_law_229 : decode M_L_law.2.1 229 = .ok (.aload_n 0, 1) := by decide +kernel
theorem d_L_law_230 : decode M_L_law.2.1 230 = .ok (.iload_n 3, 1) := by decide +kernel
theorem d_L_law_231 : decode M_L_law.2.1 231 = .ok (.iconst (1), 1) := by decide +kernel
theorem d_L_law_232 : decode M_L_law.2.1 232 = .ok (.iadd, 1) := by decide +kernel
theorem d_L_law_233 : decode M_L_law.2.1 233 = .ok (.iaload, 1) := by decide +kernel
theorem d_L_law_234 : decode M_L_law.2.1 234 = .ok (.invokevirtual 32, 3) := by decide +kernel
theorem d_L_law_237 : decode M_L_law.2.1 237 = .ok (.if_icmp .eq (349), 3) := by decide +kernel
theorem d_L_law_240 : decode M_L_law.2.1 240 = .ok (.iconst (0), 1) := by decide +kernel
theorem d_L_law_241 : decode M_L_law.2.1 241 = .ok (.ireturn, 1) := by decide +kernel
theorem d_L_law_242 : decode M_L_law.2.1 242 = .ok (.aload_n 1, 1) := by decide +kernel
theorem d_L_law_243 : decode M_L_law.2.1 243 = .ok (.aload_n 0, 1) := by decide +kernel
theorem d_L_law_244 : decode M_L_law.2.1 244 = .ok (.iload_n 3, 1) := by decide +kernel
theorem d_L_law_245 : decode M_L_law.2.1 245 = .ok (.iconst (1), 1) := by decide +kernel
theorem d_L_law_246 : decode M_L_law.2.1 246 = .ok (.iadd, 1) := by decide +kernel
theorem d_L_law_247 : decode M_L_law.2.1 247 = .ok (.iaload, 1) := by decide +kernel
theorem d_L_law_248 : decode M_L_law.2.1 248 = .ok (.invokevirtual 33, 3) := by decide +kernel
theorem d_L_law_251 : decode M_L_law.2.1 251 = .ok (.aload_n 2, 1) := by decide +kernel
theorem d_L_law_252 : decode M_L_law.2.1 252 = .ok (.aload_n 0, 1) := by decide +kernel
theorem d_L_law_253 : decode M_L_law.2.1 253 = .ok (.iload_n 3, 1) := by decide +kernel
theorem d_L_law_254 : decode M_L_law.2.1 254 = .ok (.iconst (1), 1) := by decide +kernel
theorem d_L_law_255 : decode M_L_law.2.1 255 = .ok (.iadd, 1) := by decide +kernel
theorem d_L_law_256 : decode M_L_law.2.1 256 = .ok (.iaload, 1) := by decide +kernel
theorem d_L_law_257 : decode M_L_law.2.1 257 = .ok (.invokevirtual 36, 3) := by decide +kernel
theorem d_L_law_260 : decode M_L_law.2.1 260 = .ok (.if_icmp .eq (326), 3) := by decide +kernel
theorem d_L_law_263 : decode M_L_law.2.1 263 = .ok (.iconst (0), 1) := by decide +kernel
theorem d_L_law_264 : decode M_L_law.2.1 264 = .ok (.ireturn, 1) := by decide +kernel
theorem d_L_law_265 : decode M_L_law.2.1 265 = .ok (.aload_n 1, 1) := by decide +kernel
theorem d_L_law_266 : decode M_L_law.2.1 266 = .ok (.aload_n 0, 1) := by decide +kernel
theorem d_L_law_267 : decode M_L_law.2.1 267 = .ok (.iload_n 3, 1) := by decide +kernel
theorem d_L_law_268 : decode M_L_law.2.1 268 = .ok (.iconst (1), 1) := by decide +kernel
theorem d_L_law_269 : decode M_L_law.2.1 269 = .ok (.iadd, 1) := by decide +kernel
theorem d_L_law_270 : decode M_L_law.2.1 270 = .ok (.iaload, 1) := by decide +kernel
theorem d_L_law_271 : decode M_L_law.2.1 271 = .ok (.invokevirtual 37, 3) := by decide +kernel
theorem d_L_law_274 : decode M_L_law.2.1 274 = .ok (.aload_n 2, 1) := by decide +kernel
theorem d_L_law_275 : decode M_L_law.2.1 275 = .ok (.aload_n 0, 1) := by decide +kernel
theorem d_L_law_276 : decode M_L_law.2.1 276 = .ok (.iload_n 3, 1) := by decide +kernel
theorem d_L_law_277 : decode M_L_law.2.1 277 = .ok (.iconst (1), 1) := by decide +kernel
theorem d_L_law_278 : decode M_L_law.2.1 278 = .ok (.iadd, 1) := by decide +kernel
theorem d_L_law_279 : decode M_L_law.2.1 279 = .ok (.iaload, 1) := by decide +kernel
theorem d_L_law_280 : decode M_L_law.2.1 280 = .ok (.invokevirtual 40, 3) := by decide +kernel
theorem d_L_law_283 : decode M_L_law.2.1 283 = .ok (.if_icmp .eq (303), 3) := by decide +kernel
theorem d_L_law_286 : decode M_L_law.2.1 286 = .ok (.iconst (0), 1) := by decide +kernel
theorem d_L_law_287 : decode M_L_law.2.1 287 = .ok (.ireturn, 1) := by decide +kernel
theorem d_L_law_288 : decode M_L_law.2.1 288 = .ok (.aload_n 1, 1) := by decide +kernel
theorem d_L_law_289 : decode M_L_law.2.1 289 = .ok (.aload_n 0, 1) := by decide +kernel
theorem d_L_law_290 : decode M_L_law.2.1 290 = .ok (.iload_n 3, 1) := by decide +kernel
theorem d_L_law_291 : decode M_L_law.2.1 291 = .ok (.iconst (1), 1) := by decide +kernel
theorem d_L_law_292 : decode M_L_law.2.1 292 = .ok (.iadd, 1) := by decide +kernel
theorem d_L_law_293 : decode M_L_law.2.1 293 = .ok (.iaload, 1) := by decide +kernel
theorem d_L_law_294 : decode M_L_law.2.1 294 = .ok (.aload_n 0, 1) := by decide +kernel
theorem d_L_law_295 : decode M_L_law.2.1 295 = .ok (.iload_n 3, 1) := by decide +kernel
theorem d_L_law_296 : decode M_L_law.2.1 296 = .ok (.iconst (2), 1) := by decide +kernel
theorem d_L_law_297 : decode M_L_law.2.1 297 = .ok (.iadd, 1) := by decide +kernel
theorem d_L_law_298 : decode M_L_law.2.1 298 = .ok (.iaload, 1) := by decide +kernel
theorem d_L_law_299 : decode M_L_law.2.1 299 = .ok (.invokevirtual 41, 3) := by decide +kernel
theorem d_L_law_302 : decode M_L_law.2.1 302 = .ok (.aload_n 2, 1) := by decide +kernel
theorem d_L_law_303 : decode M_L_law.2.1 303 = .ok (.aload_n 0, 1) := by decide +kernel
theorem d_L_law_304 : decode M_L_law.2.1 304 = .ok (.iload_n 3, 1) := by decide +kernel
theorem d_L_law_305 : decode M_L_law.2.1 305 = .ok (.iconst (1), 1) := by decide +kernel
theorem d_L_law_306 : decode M_L_law.2.1 306 = .ok (.iadd, 1) := by decide +kernel
theorem d_L_law_307 : decode M_L_law.2.1 307 = .ok (.iaload, 1) := by decide +kernel
theorem d_L_law_308 : decode M_L_law.2.1 308 = .ok (.aload_n 0, 1) := by decide +kernel
theorem d_L_law_309 : decode M_L_law.2.1 309 = .ok (.iload_n 3, 1) := by decide +kernel
theorem d_L_law_310 : decode M_L_law.2.1 310 = .ok (.iconst (2), 1) := by decide +kernel
theorem d_L_law_311 : decode M_L_law.2.1 311 = .ok (.iadd, 1) := by decide +kernel
theorem d_L_law_312 : decode M_L_law.2.1 312 = .ok (.iaload, 1) := by decide +kernel
theorem d_L_law_313 : decode M_L_law.2.1 313 = .ok (.invokevirtual 45, 3) := by decide +kernel
theorem d_L_law_316 : decode M_L_law.2.1 316 = .ok (.if_icmp .eq (270), 3) := by decide +kernel
theorem d_L_law_319 : decode M_L_law.2.1 319 = .ok (.iconst (0), 1) := by decide +kernel
theorem d_L_law_320 : decode M_L_law.2.1 320 = .ok (.ireturn, 1) := by decide +kernel
theorem d_L_law_321 : decode M_L_law.2.1 321 = .ok (.aload_n 1, 1) := by decide +kernel
theorem d_L_law_322 : decode M_L_law.2.1 322 = .ok (.aload_n 0, 1) := by decide +kernel
theorem d_L_law_323 : decode M_L_law.2.1 323 = .ok (.iload_n 3, 1) := by decide +kernel
theorem d_L_law_324 : decode M_L_law.2.1 324 = .ok (.iconst (1), 1) := by decide +kernel
theorem d_L_law_325 : decode M_L_law.2.1 325 = .ok (.iadd, 1) := by decide +kernel
theorem d_L_law_326 : decode M_L_law.2.1 326 = .ok (.iaload, 1) := by decide +kernel
theorem d_L_law_327 : decode M_L_law.2.1 327 = .ok (.invokevirtual 46, 3) := by decide +kernel
theorem d_L_law_330 : decode M_L_law.2.1 330 = .ok (.aload_n 2, 1) := by decide +kernel
theorem d_L_law_331 : decode M_L_law.2.1 331 = .ok (.aload_n 0, 1) := by decide +kernel
theorem d_L_law_332 : decode M_L_law.2.1 332 = .ok (.iload_n 3, 1) := by decide +kernel
theorem d_L_law_333 : decode M_L_law.2.1 333 = .ok (.iconst (1), 1) := by decide +kernel
theorem d_L_law_334 : decode M_L_law.2.1 334 = .ok (.iadd, 1) := by decide +kernel
theorem d_L_law_335 : decode M_L_law.2.1 335 = .ok (.iaload, 1) := by decide +kernel
theorem d_L_law_336 : decode M_L_law.2.1 336 = .ok (.invokevirtual 50, 3) := by decide +kernel
theorem d_L_law_339 : decode M_L_law.2.1 339 = .ok (.lcmp, 1) := by decide +kernel
theorem d_L_law_340 : decode M_L_law.2.1 340 = .ok (.ifCond .eq (246), 3) := by decide +kernel
theorem d_L_law_343 : decode M_L_law.2.1 343 = .ok (.iconst (0), 1) := by decide +kernel
theorem d_L_law_344 : decode M_L_law.2.1 344 = .ok (.ireturn, 1) := by decide +kernel
theorem d_L_law_345 : decode M_L_law.2.1 345 = .ok (.aload_n 1, 1) := by decide +kernel
theorem d_L_law_346 : decode M_L_law.2.1 346 = .ok (.aload_n 0, 1) := by decide +kernel
theorem d_L_law_347 : decode M_L_law.2.1 347 = .ok (.iload_n 3, 1) := by decide +kernel
theorem d_L_law_348 : decode M_L_law.2.1 348 = .ok (.iconst (1), 1) := by decide +kernel
theorem d_L_law_349 : decode M_L_law.2.1 349 = .ok (.iadd, 1) := by decide +kernel
theorem d_L_law_350 : decode M_L_law.2.1 350 = .ok (.iaload, 1) := by decide +kernel
theorem d_L_law_351 : decode M_L_law.2.1 351 = .ok (.invokevirtual 51, 3) := by decide +kernel
theorem d_L_law_354 : decode M_L_law.2.1 354 = .ok (.aload_n 2, 1) := by decide +kernel
theorem d_L_law_355 : decode M_L_law.2.1 355 = .ok (.aload_n 0, 1) := by decide +kernel
theorem d_L_law_356 : decode M_L_law.2.1 356 = .ok (.iload_n 3, 1) := by decide +kernel
theorem d_L_law_357 : decode M_L_law.2.1 357 = .ok (.iconst (1), 1) := by decide +kernel
theorem d_L_law_358 : decode M_L_law.2.1 358 = .ok (.iadd, 1) := by decide +kernel
theorem d_L_law_359 : decode M_L_law.2.1 359 = .ok (.iaload, 1) := by decide +kernel
theorem d_L_law_360 : decode M_L_law.2.1 360 = .ok (.invokevirtual 54, 3) := by decide +kernel
theorem d_L_law_363 : decode M_L_law.2.1 363 = .ok (.lcmp, 1) := by decide +kernel
theorem d_L_law_364 : decode M_L_law.2.1 364 = .ok (.ifCond .eq (222), 3) := by decide +kernel
theorem d_L_law_367 : decode M_L_law.2.1 367 = .ok (.iconst (0), 1) := by decide +kernel
theorem d_L_law_368 : decode M_L_law.2.1 368 = .ok (.ireturn, 1) := by decide +kernel
theorem d_L_law_369 : decode M_L_law.2.1 369 = .ok (.aload_n 1, 1) := by decide +kernel
theorem d_L_law_370 : decode M_L_law.2.1 370 = .ok (.aload_n 0, 1) := by decide +kernel
theorem d_L_law_371 : decode M_L_law.2.1 371 = .ok (.iload_n 3, 1) := by decide +kernel
theorem d_L_law_372 : decode M_L_law.2.1 372 = .ok (.iconst (1), 1) := by decide +kernel
theorem d_L_law_373 : decode M_L_law.2.1 373 = .ok (.iadd, 1) := by decide +kernel
theorem d_L_law_374 : decode M_L_law.2.1 374 = .ok (.iaload, 1) := by decide +kernel
theorem d_L_law_375 : decode M_L_law.2.1 375 = .ok (.aload_n 0, 1) := by decide +kernel
theorem d_L_law_376 : decode M_L_law.2.1 376 = .ok (.iload_n 3, 1) := by decide +kernel
theorem d_L_law_377 : decode M_L_law.2.1 377 = .ok (.iconst (2), 1) := by decide +kernel
theorem d_L_law_378 : decode M_L_law.2.1 378 = .ok (.iadd, 1) := by decide +kernel
theorem d_L_law_379 : decode M_L_law.2.1 379 = .ok (.iaload, 1) := by decide +kernel
theorem d_L_law_380 : decode M_L_law.2.1 380 = .ok (.invokevirtual 55, 3) := by decide +kernel
theorem d_L_law_383 : decode M_L_law.2.1 383 = .ok (.aload_n 2, 1) := by decide +kernel
theorem d_L_law_384 : decode M_L_law.2.1 384 = .ok (.aload_n 0, 1) := by decide +kernel
theorem d_L_law_385 : decode M_L_law.2.1 385 = .ok (.iload_n 3, 1) := by decide +kernel
theorem d_L_law_386 : decode M_L_law.2.1 386 = .ok (.iconst (1), 1) := by decide +kernel
theorem d_L_law_387 : decode M_L_law.2.1 387 = .ok (.iadd, 1) := by decide +kernel
theorem d_L_law_388 : decode M_L_law.2.1 388 = .ok (.iaload, 1) := by decide +kernel
theorem d_L_law_389 : decode M_L_law.2.1 389 = .ok (.aload_n 0, 1) := by decide +kernel
theorem d_L_law_390 : decode M_L_law.2.1 390 = .ok (.iload_n 3, 1) := by decide +kernel
theorem d_L_law_391 : decode M_L_law.2.1 391 = .ok (.iconst (2), 1) := by decide +kernel
theorem d_L_law_392 : decode M_L_law.2.1 392 = .ok (.iadd, 1) := by decide +kernel
theorem d_L_law_393 : decode M_L_law.2.1 393 = .ok (.iaload, 1) := by decide +kernel
theorem d_L_law_394 : decode M_L_law.2.1 394 = .ok (.invokevirtual 59, 3) := by decide +kernel
theorem d_L_law_397 : decode M_L_law.2.1 397 = .ok (.if_icmp .eq (189), 3) := by decide +kernel
theorem d_L_law_400 : decode M_L_law.2.1 400 = .ok (.iconst (0), 1) := by decide +kernel
theorem d_L_law_401 : decode M_L_law.2.1 401 = .ok (.ireturn, 1) := by decide +kernel
theorem d_L_law_402 : decode M_L_law.2.1 402 = .ok (.aload_n 1, 1) := by decide +kernel
theorem d_L_law_403 : decode M_L_law.2.1 403 = .ok (.aload_n 0, 1) := by decide +kernel
theorem d_L_law_404 : decode M_L_law.2.1 404 = .ok (.iload_n 3, 1) := by decide +kernel
theorem d_L_law_405 : decode M_L_law.2.1 405 = .ok (.iconst (1), 1) := by decide +kernel
theorem d_L_law_406 : decode M_L_law.2.1 406 = .ok (.iadd, 1) := by decide +kernel
theorem d_L_law_407 : decode M_L_law.2.1 407 = .ok (.iaload, 1) := by decide +kernel
theorem d_L_law_408 : decode M_L_law.2.1 408 = .ok (.invokevirtual 60, 3) := by decide +kernel
theorem d_L_law_411 : decode M_L_law.2.1 411 = .ok (.aload_n 2, 1) := by decide +kernel
theorem d_L_law_412 : decode M_L_law.2.1 412 = .ok (.aload_n 0, 1) := by decide +kernel
theorem d_L_law_413 : decode M_L_law.2.1 413 = .ok (.iload_n 3, 1) := by decide +kernel
theorem d_L_law_414 : decode M_L_law.2.1 414 = .ok (.iconst (1), 1) := by decide +kernel
theorem d_L_law_415 : decode M_L_law.2.1 415 = .ok (.iadd, 1) := by decide +kernel
theorem d_L_law_416 : decode M_L_law.2.1 416 = .ok (.iaload, 1) := by decide +kernel
theorem d_L_law_417 : decode M_L_law.2.1 417 = .ok (.invokevirtual 63, 3) := by decide +kernel
theorem d_L_law_420 : decode M_L_law.2.1 420 = .ok (.if_icmp .eq (166), 3) := by decide +kernel
theorem d_L_law_423 : decode M_L_law.2.1 423 = .ok (.iconst (0), 1) := by decide +kernel
theorem d_L_law_424 : decode M_L_law.2.1 424 = .ok (.ireturn, 1) := by decide +kernel
theorem d_L_law_425 : decode M_L_law.2.1 425 = .ok (.aload_n 1, 1) := by decide +kernel
theorem d_L_law_426 : decode M_L_law.2.1 426 = .ok (.aload_n 0, 1) := by decide +kernel
theorem d_L_law_427 : decode M_L_law.2.1 427 = .ok (.iload_n 3, 1) := by decide +kernel
theorem d_L_law_428 : decode M_L_law.2.1 428 = .ok (.iconst (1), 1) := by decide +kernel
theorem d_L_law_429 : decode M_L_law.2.1 429 = .ok (.iadd, 1) := by decide +kernel
theorem d_L_law_430 : decode M_L_law.2.1 430 = .ok (.iaload, 1) := by decide +kernel
theorem d_L_law_431 : decode M_L_law.2.1 431 = .ok (.aload_n 0, 1) := by decide +kernel
theorem d_L_law_432 : decode M_L_law.2.1 432 = .ok (.iload_n 3, 1) := by decide +kernel
theorem d_L_law_433 : decode M_L_law.2.1 433 = .ok (.iconst (2), 1) := by decide +kernel
theorem d_L_law_434 : decode M_L_law.2.1 434 = .ok (.iadd, 1) := by decide +kernel
theorem d_L_law_435 : decode M_L_law.2.1 435 = .ok (.iaload, 1) := by decide +kernel
theorem d_L_law_436 : decode M_L_law.2.1 436 = .ok (.ifCond .eq (7), 3) := by decide +kernel
theorem d_L_law_439 : decode M_L_law.2.1 439 = .ok (.iconst (1), 1) := by decide +kernel
theorem d_L_law_440 : decode M_L_law.2.1 440 = .ok (.goto (4), 3) := by decide +kernel
theorem d_L_law_443 : decode M_L_law.2.1 443 = .ok (.iconst (0), 1) := by decide +kernel
theorem d_L_law_444 : decode M_L_law.2.1 444 = .ok (.aload_n 0, 1) := by decide +kernel
theorem d_L_law_445 : decode M_L_law.2.1 445 = .ok (.iload_n 3, 1) := by decide +kernel
theorem d_L_law_446 : decode M_L_law.2.1 446 = .ok (.iconst (3), 1) := by decide +kernel
theorem d_L_law_447 : decode M_L_law.2.1 447 = .ok (.iadd, 1) := by decide +kernel
theorem d_L_law_448 : decode M_L_law.2.1 448 = .ok (.iaload, 1) := by decide +kernel
theorem d_L_law_449 : decode M_L_law.2.1 449 = .ok (.aload_n 0, 1) := by decide +kernel
theorem d_L_law_450 : decode M_L_law.2.1 450 = .ok (.iload_n 3, 1) := by decide +kernel
theorem d_L_law_451 : decode M_L_law.2.1 451 = .ok (.iconst (4), 1) := by decide +kernel
theorem d_L_law_452 : decode M_L_law.2.1 452 = .ok (.iadd, 1) := by decide +kernel
theorem d_L_law_453 : decode M_L_law.2.1 453 = .ok (.iaload, 1) := by decide +kernel
theorem d_L_law_454 : decode M_L_law.2.1 454 = .ok (.ifCond .eq (7), 3) := by decide +kernel
theorem d_L_law_457 : decode M_L_law.2.1 457 = .ok (.iconst (1), 1) := by decide +kernel
theorem d_L_law_458 : decode M_L_law.2.1 458 = .ok (.goto (4), 3) := by decide +kernel
theorem d_L_law_461 : decode M_L_law.2.1 461 = .ok (.iconst (0), 1) := by decide +kernel
theorem d_L_law_462 : decode M_L_law.2.1 462 = .ok (.invokevirtual 64, 3) := by decide +kernel
theorem d_L_law_465 : decode M_L_law.2.1 465 = .ok (.aload_n 2, 1) := by decide +kernel
theorem d_L_law_466 : decode M_L_law.2.1 466 = .ok (.aload_n 0, 1) := by decide +kernel
theorem d_L_law_467 : decode M_L_law.2.1 467 = .ok (.iload_n 3, 1) := by decide +kernel
theorem d_L_law_468 : decode M_L_law.2.1 468 = .ok (.iconst (1), 1) := by decide +kernel
theorem d_L_law_469 : decode M_L_law.2.1 469 = .ok (.iadd, 1) := by decide +kernel
theorem d_L_law_470 : decode M_L_law.2.1 470 = .ok (.iaload, 1) := by decide +kernel
theorem d_L_law_471 : decode M_L_law.2.1 471 = .ok (.aload_n 0, 1) := by decide +kernel
theorem d_L_law_472 : decode M_L_law.2.1 472 = .ok (.iload_n 3, 1) := by decide +kernel
theorem d_L_law_473 : decode M_L_law.2.1 473 = .ok (.iconst (2), 1) := by decide +kernel
theorem d_L_law_474 : decode M_L_law.2.1 474 = .ok (.iadd, 1) := by decide +kernel
theorem d_L_law_475 : decode M_L_law.2.1 475 = .ok (.iaload, 1) := by decide +kernel
theorem d_L_law_476 : decode M_L_law.2.1 476 = .ok (.ifCond .eq (7), 3) := by decide +kernel
theorem d_L_law_479 : decode M_L_law.2.1 479 = .ok (.iconst (1), 1) := by decide +kernel
theorem d_L_law_480 : decode M_L_law.2.1 480 = .ok (.goto (4), 3) := by decide +kernel
theorem d_L_law_483 : decode M_L_law.2.1 483 = .ok (.iconst (0), 1) := by decide +kernel
theorem d_L_law_484 : decode M_L_law.2.1 484 = .ok (.aload_n 0, 1) := by decide +kernel
theorem d_L_law_485 : decode M_L_law.2.1 485 = .ok (.iload_n 3, 1) := by decide +kernel
theorem d_L_law_486 : decode M_L_law.2.1 486 = .ok (.iconst (3), 1) := by decide +kernel
theorem d_L_law_487 : decode M_L_law.2.1 487 = .ok (.iadd, 1) := by decide +kernel
theorem d_L_law_488 : decode M_L_law.2.1 488 = .ok (.iaload, 1) := by decide +kernel
theorem d_L_law_489 : decode M_L_law.2.1 489 = .ok (.aload_n 0, 1) := by decide +kernel
theorem d_L_law_490 : decode M_L_law.2.1 490 = .ok (.iload_n 3, 1) := by decide +kernel
theorem d_L_law_491 : decode M_L_law.2.1 491 = .ok (.iconst (4), 1) := by decide +kernel
theorem d_L_law_492 : decode M_L_law.2.1 492 = .ok (.iadd, 1) := by decide +kernel
theorem d_L_law_493 : decode M_L_law.2.1 493 = .ok (.iaload, 1) := by decide +kernel
theorem d_L_law_494 : decode M_L_law.2.1 494 = .ok (.ifCond .eq (7), 3) := by decide +kernel
theorem d_L_law_497 : decode M_L_law.2.1 497 = .ok (.iconst (1), 1) := by decide +kernel
theorem d_L_law_498 : decode M_L_law.2.1 498 = .ok (.goto (4), 3) := by decide +kernel
theorem d_L_law_501 : decode M_L_law.2.1 501 = .ok (.iconst (0), 1) := by decide +kernel
theorem d_L_law_502 : decode M_L_law.2.1 502 = .ok (.invokevirtual 68, 3) := by decide +kernel
theorem d_L_law_505 : decode M_L_law.2.1 505 = .ok (.if_icmp .eq (81), 3) := by decide +kernel
theorem d_L_law_508 : decode M_L_law.2.1 508 = .ok (.iconst (0), 1) := by decide +kernel
theorem d_L_law_509 : decode M_L_law.2.1 509 = .ok (.ireturn, 1) := by decide +kernel
theorem d_L_law_510 : decode M_L_law.2.1 510 = .ok (.aload_n 1, 1) := by decide +kernel
theorem d_L_law_511 : decode M_L_law.2.1 511 = .ok (.aload_n 0, 1) := by decide +kernel
theorem d_L_law_512 : decode M_L_law.2.1 512 = .ok (.iload_n 3, 1) := by decide +kernel
theorem d_L_law_513 : decode M_L_law.2.1 513 = .ok (.iconst (1), 1) := by decide +kernel
theorem d_L_law_514 : decode M_L_law.2.1 514 = .ok (.iadd, 1) := by decide +kernel
theorem d_L_law_515 : decode M_L_law.2.1 515 = .ok (.iaload, 1) := by decide +kernel
theorem d_L_law_516 : decode M_L_law.2.1 516 = .ok (.aload_n 0, 1) := by decide +kernel
theorem d_L_law_517 : decode M_L_law.2.1 517 = .ok (.iload_n 3, 1) := by decide +kernel
theorem d_L_law_518 : decode M_L_law.2.1 518 = .ok (.iconst (2), 1) := by decide +kernel
theorem d_L_law_519 : decode M_L_law.2.1 519 = .ok (.iadd, 1) := by decide +kernel
theorem d_L_law_520 : decode M_L_law.2.1 520 = .ok (.iaload, 1) := by decide +kernel
theorem d_L_law_521 : decode M_L_law.2.1 521 = .ok (.invokevirtual 69, 3) := by decide +kernel
theorem d_L_law_524 : decode M_L_law.2.1 524 = .ok (.aload_n 2, 1) := by decide +kernel
theorem d_L_law_525 : decode M_L_law.2.1 525 = .ok (.aload_n 0, 1) := by decide +kernel
theorem d_L_law_526 : decode M_L_law.2.1 526 = .ok (.iload_n 3, 1) := by decide +kernel
theorem d_L_law_527 : decode M_L_law.2.1 527 = .ok (.iconst (1), 1) := by decide +kernel
theorem d_L_law_528 : decode M_L_law.2.1 528 = .ok (.iadd, 1) := by decide +kernel
theorem d_L_law_529 : decode M_L_law.2.1 529 = .ok (.iaload, 1) := by decide +kernel
theorem d_L_law_530 : decode M_L_law.2.1 530 = .ok (.aload_n 0, 1) := by decide +kernel
theorem d_L_law_531 : decode M_L_law.2.1 531 = .ok (.iload_n 3, 1) := by decide +kernel
theorem d_L_law_532 : decode M_L_law.2.1 532 = .ok (.iconst (2), 1) := by decide +kernel
theorem d_L_law_533 : decode M_L_law.2.1 533 = .ok (.iadd, 1) := by decide +kernel
theorem d_L_law_534 : decode M_L_law.2.1 534 = .ok (.iaload, 1) := by decide +kernel
theorem d_L_law_535 : decode M_L_law.2.1 535 = .ok (.invokevirtual 72, 3) := by decide +kernel
theorem d_L_law_538 : decode M_L_law.2.1 538 = .ok (.if_icmp .eq (48), 3) := by decide +kernel
theorem d_L_law_541 : decode M_L_law.2.1 541 = .ok (.iconst (0), 1) := by decide +kernel
theorem d_L_law_542 : decode M_L_law.2.1 542 = .ok (.ireturn, 1) := by decide +kernel
theorem d_L_law_543 : decode M_L_law.2.1 543 = .ok (.aload_n 1, 1) := by decide +kernel
theorem d_L_law_544 : decode M_L_law.2.1 544 = .ok (.aload_n 0, 1) := by decide +kernel
theorem d_L_law_545 : decode M_L_law.2.1 545 = .ok (.iload_n 3, 1) := by decide +kernel
theorem d_L_law_546 : decode M_L_law.2.1 546 = .ok (.iconst (1), 1) := by decide +kernel
theorem d_L_law_547 : decode M_L_law.2.1 547 = .ok (.iadd, 1) := by decide +kernel
theorem d_L_law_548 : decode M_L_law.2.1 548 = .ok (.iaload, 1) := by decide +kernel
theorem d_L_law_549 : decode M_L_law.2.1 549 = .ok (.aload_n 0, 1) := by decide +kernel
theorem d_L_law_550 : decode M_L_law.2.1 550 = .ok (.iload_n 3, 1) := by decide +kernel
theorem d_L_law_551 : decode M_L_law.2.1 551 = .ok (.iconst (2), 1) := by decide +kernel
theorem d_L_law_552 : decode M_L_law.2.1 552 = .ok (.iadd, 1) := by decide +kernel
theorem d_L_law_553 : decode M_L_law.2.1 553 = .ok (.iaload, 1) := by decide +kernel
theorem d_L_law_554 : decode M_L_law.2.1 554 = .ok (.aload_n 0, 1) := by decide +kernel
theorem d_L_law_555 : decode M_L_law.2.1 555 = .ok (.iload_n 3, 1) := by decide +kernel
theorem d_L_law_556 : decode M_L_law.2.1 556 = .ok (.iconst (3), 1) := by decide +kernel
theorem d_L_law_557 : decode M_L_law.2.1 557 = .ok (.iadd, 1) := by decide +kernel
theorem d_L_law_558 : decode M_L_law.2.1 558 = .ok (.iaload, 1) := by decide +kernel
theorem d_L_law_559 : decode M_L_law.2.1 559 = .ok (.invokevirtual 73, 3) := by decide +kernel
theorem d_L_law_562 : decode M_L_law.2.1 562 = .ok (.aload_n 2, 1) := by decide +kernel
theorem d_L_law_563 : decode M_L_law.2.1 563 = .ok (.aload_n 0, 1) := by decide +kernel
theorem d_L_law_564 : decode M_L_law.2.1 564 = .ok (.iload_n 3, 1) := by decide +kernel
theorem d_L_law_565 : decode M_L_law.2.1 565 = .ok (.iconst (1), 1) := by decide +kernel
theorem d_L_law_566 : decode M_L_law.2.1 566 = .ok (.iadd, 1) := by decide +kernel
theorem d_L_law_567 : decode M_L_law.2.1 567 = .ok (.iaload, 1) := by decide +kernel
theorem d_L_law_568 : decode M_L_law.2.1 568 = .ok (.aload_n 0, 1) := by decide +kernel
theorem d_L_law_569 : decode M_L_law.2.1 569 = .ok (.iload_n 3, 1) := by decide +kernel
theorem d_L_law_570 : decode M_L_law.2.1 570 = .ok (.iconst (2), 1) := by decide +kernel
theorem d_L_law_571 : decode M_L_law.2.1 571 = .ok (.iadd, 1) := by decide +kernel
theorem d_L_law_572 : decode M_L_law.2.1 572 = .ok (.iaload, 1) := by decide +kernel
theorem d_L_law_573 : decode M_L_law.2.1 573 = .ok (.aload_n 0, 1) := by decide +kernel
theorem d_L_law_574 : decode M_L_law.2.1 574 = .ok (.iload_n 3, 1) := by decide +kernel
theorem d_L_law_575 : decode M_L_law.2.1 575 = .ok (.iconst (3), 1) := by decide +kernel
theorem d_L_law_576 : decode M_L_law.2.1 576 = .ok (.iadd, 1) := by decide +kernel
theorem d_L_law_577 : decode M_L_law.2.1 577 = .ok (.iaload, 1) := by decide +kernel
theorem d_L_law_578 : decode M_L_law.2.1 578 = .ok (.invokevirtual 77, 3) := by decide +kernel
theorem d_L_law_581 : decode M_L_law.2.1 581 = .ok (.if_icmp .eq (5), 3) := by decide +kernel
theorem d_L_law_584 : decode M_L_law.2.1 584 = .ok (.iconst (0), 1) := by decide +kernel
theorem d_L_law_585 : decode M_L_law.2.1 585 = .ok (.ireturn, 1) := by decide +kernel
theorem d_L_law_586 : decode M_L_law.2.1 586 = .ok (.iinc 3 (6), 3) := by decide +kernel
theorem d_L_law_589 : decode M_L_law.2.1 589 = .ok (.goto (-571), 3) := by decide +kernel
theorem d_L_law_592 : decode M_L_law.2.1 592 = .ok (.iconst (1), 1) := by decide +kernel
theorem d_L_law_593 : decode M_L_law.2.1 593 = .ok (.ireturn, 1) := by decide +kernel
