theorem d_Law_law_0 : decode c_Law_law 0 = .ok (.new 7, 3) := by decide +kernel
theorem d_Law_law_3 : decode c_Law_law 3 = .ok (.dup, 1) := by decide +kernel
theorem d_Law_law_4 : decode c_Law_law 4 = .ok (.invokespecial 9, 3) := by decide +kernel
theorem d_Law_law_7 : decode c_Law_law 7 = .ok (.astore_n 1, 1) := by decide +kernel
theorem d_Law_law_8 : decode c_Law_law 8 = .ok (.new 10, 3) := by decide +kernel
theorem d_Law_law_11 : decode c_Law_law 11 = .ok (.dup, 1) := by decide +kernel
theorem d_Law_law_12 : decode c_Law_law 12 = .ok (.invokespecial 12, 3) := by decide +kernel
theorem d_Law_law_15 : decode c_Law_law 15 = .ok (.astore_n 2, 1) := by decide +kernel
theorem d_Law_law_16 : decode c_Law_law 16 = .ok (.iconst 0, 1) := by decide +kernel
theorem d_Law_law_17 : decode c_Law_law 17 = .ok (.istore_n 3, 1) := by decide +kernel
theorem d_Law_law_18 : decode c_Law_law 18 = .ok (.iload_n 3, 1) := by decide +kernel
theorem d_Law_law_19 : decode c_Law_law 19 = .ok (.aload_n 0, 1) := by decide +kernel
theorem d_Law_law_20 : decode c_Law_law 20 = .ok (.arraylength, 1) := by decide +kernel
theorem d_Law_law_21 : decode c_Law_law 21 = .ok (.bipush 6, 2) := by decide +kernel
theorem d_Law_law_23 : decode c_Law_law 23 = .ok (.isub, 1) := by decide +kernel
theorem d_Law_law_24 : decode c_Law_law 24 = .ok (.if_icmp .gt 646, 3) := by decide +kernel
theorem d_Law_law_27 : decode c_Law_law 27 = .ok (.aload_n 0, 1) := by decide +kernel
theorem d_Law_law_28 : decode c_Law_law 28 = .ok (.iload_n 3, 1) := by decide +kernel
theorem d_Law_law_29 : decode c_Law_law 29 = .ok (.iaload, 1) := by decide +kernel
theorem d_Law_law_30 : decode c_Law_law 30 = .ok (.bipush 31, 2) := by decide +kernel
theorem d_Law_law_32 : decode c_Law_law 32 = .ok (.iand, 1) := by decide +kernel
theorem d_Law_law_33 : decode c_Law_law 33 = .ok (.tableswitch 631 0 17 #[87, 120, 183, 196, 239, 252, 285, 318, 351, 404, 427, 440, 493, 506, 539, 562, 585, 618], 87) := by decide +kernel
theorem d_Law_law_120 : decode c_Law_law 120 = .ok (.aload_n 1, 1) := by decide +kernel
theorem d_Law_law_121 : decode c_Law_law 121 = .ok (.aload_n 0, 1) := by decide +kernel
theorem d_Law_law_122 : decode c_Law_law 122 = .ok (.iload_n 3, 1) := by decide +kernel
theorem d_Law_law_123 : decode c_Law_law 123 = .ok (.iconst 1, 1) := by decide +kernel
theorem d_Law_law_124 : decode c_Law_law 124 = .ok (.iadd, 1) := by decide +kernel
theorem d_Law_law_125 : decode c_Law_law 125 = .ok (.iaload, 1) := by decide +kernel
theorem d_Law_law_126 : decode c_Law_law 126 = .ok (.aload_n 0, 1) := by decide +kernel
theorem d_Law_law_127 : decode c_Law_law 127 = .ok (.iload_n 3, 1) := by decide +kernel
theorem d_Law_law_128 : decode c_Law_law 128 = .ok (.iconst 2, 1) := by decide +kernel
theorem d_Law_law_129 : decode c_Law_law 129 = .ok (.iadd, 1) := by decide +kernel
theorem d_Law_law_130 : decode c_Law_law 130 = .ok (.iaload, 1) := by decide +kernel
theorem d_Law_law_131 : decode c_Law_law 131 = .ok (.invokevirtual 13, 3) := by decide +kernel
theorem d_Law_law_134 : decode c_Law_law 134 = .ok (.aload_n 2, 1) := by decide +kernel
theorem d_Law_law_135 : decode c_Law_law 135 = .ok (.aload_n 0, 1) := by decide +kernel
theorem d_Law_law_136 : decode c_Law_law 136 = .ok (.iload_n 3, 1) := by decide +kernel
theorem d_Law_law_137 : decode c_Law_law 137 = .ok (.iconst 1, 1) := by decide +kernel
theorem d_Law_law_138 : decode c_Law_law 138 = .ok (.iadd, 1) := by decide +kernel
theorem d_Law_law_139 : decode c_Law_law 139 = .ok (.iaload, 1) := by decide +kernel
theorem d_Law_law_140 : decode c_Law_law 140 = .ok (.aload_n 0, 1) := by decide +kernel
theorem d_Law_law_141 : decode c_Law_law 141 = .ok (.iload_n 3, 1) := by decide +kernel
theorem d_Law_law_142 : decode c_Law_law 142 = .ok (.iconst 2, 1) := by decide +kernel
theorem d_Law_law_143 : decode c_Law_law 143 = .ok (.iadd, 1) := by decide +kernel
theorem d_Law_law_144 : decode c_Law_law 144 = .ok (.iaload, 1) := by decide +kernel
theorem d_Law_law_145 : decode c_Law_law 145 = .ok (.invokevirtual 17, 3) := by decide +kernel
theorem d_Law_law_148 : decode c_Law_law 148 = .ok (.if_icmp .eq 516, 3) := by decide +kernel
theorem d_Law_law_151 : decode c_Law_law 151 = .ok (.iconst 0, 1) := by decide +kernel
theorem d_Law_law_152 : decode c_Law_law 152 = .ok (.ireturn, 1) := by decide +kernel
theorem d_Law_law_153 : decode c_Law_law 153 = .ok (.aload_n 1, 1) := by decide +kernel
theorem d_Law_law_154 : decode c_Law_law 154 = .ok (.aload_n 0, 1) := by decide +kernel
theorem d_Law_law_155 : decode c_Law_law 155 = .ok (.iload_n 3, 1) := by decide +kernel
theorem d_Law_law_156 : decode c_Law_law 156 = .ok (.iconst 1, 1) := by decide +kernel
theorem d_Law_law_157 : decode c_Law_law 157 = .ok (.iadd, 1) := by decide +kernel
theorem d_Law_law_158 : decode c_Law_law 158 = .ok (.iaload, 1) := by decide +kernel
theorem d_Law_law_159 : decode c_Law_law 159 = .ok (.aload_n 0, 1) := by decide +kernel
theorem d_Law_law_160 : decode c_Law_law 160 = .ok (.iload_n 3, 1) := by decide +kernel
theorem d_Law_law_161 : decode c_Law_law 161 = .ok (.iconst 2, 1) := by decide +kernel
theorem d_Law_law_162 : decode c_Law_law 162 = .ok (.iadd, 1) := by decide +kernel
theorem d_Law_law_163 : decode c_Law_law 163 = .ok (.iaload, 1) := by decide +kernel
theorem d_Law_law_164 : decode c_Law_law 164 = .ok (.aload_n 0, 1) := by decide +kernel
theorem d_Law_law_165 : decode c_Law_law 165 = .ok (.iload_n 3, 1) := by decide +kernel
theorem d_Law_law_166 : decode c_Law_law 166 = .ok (.iconst 3, 1) := by decide +kernel
theorem d_Law_law_167 : decode c_Law_law 167 = .ok (.iadd, 1) := by decide +kernel
theorem d_Law_law_168 : decode c_Law_law 168 = .ok (.iaload, 1) := by decide +kernel
theorem d_Law_law_169 : decode c_Law_law 169 = .ok (.aload_n 0, 1) := by decide +kernel
theorem d_Law_law_170 : decode c_Law_law 170 = .ok (.iload_n 3, 1) := by decide +kernel
theorem d_Law_law_171 : decode c_Law_law 171 = .ok (.iconst 4, 1) := by decide +kernel
theorem d_Law_law_172 : decode c_Law_law 172 = .ok (.iadd, 1) := by decide +kernel
theorem d_Law_law_173 : decode c_Law_law 173 = .ok (.iaload, 1) := by decide +kernel
theorem d_Law_law_174 : decode c_Law_law 174 = .ok (.aload_n 0, 1) := by decide +kernel
theorem d_Law_law_175 : decode c_Law_law 175 = .ok (.iload_n 3, 1) := by decide +kernel
theorem d_Law_law_176 : decode c_Law_law 176 = .ok (.iconst 5, 1) := by decide +kernel
theorem d_Law_law_177 : decode c_Law_law 177 = .ok (.iadd, 1) := by decide +kernel
theorem d_Law_law_178 : decode c_Law_law 178 = .ok (.iaload, 1) := by decide +kernel
theorem d_Law_law_179 : decode c_Law_law 179 = .ok (.invokevirtual 18, 3) := by decide +kernel
theorem d_Law_law_182 : decode c_Law_law 182 = .ok (.aload_n 2, 1) := by decide +kernel
theorem d_Law_law_183 : decode c_Law_law 183 = .ok (.aload_n 0, 1) := by decide +kernel
theorem d_Law_law_184 : decode c_Law_law 184 = .ok (.iload_n 3, 1) := by decide +kernel
theorem d_Law_law_185 : decode c_Law_law 185 = .ok (.iconst 1, 1) := by decide +kernel
theorem d_Law_law_186 : decode c_Law_law 186 = .ok (.iadd, 1) := by decide +kernel
theorem d_Law_law_187 : decode c_Law_law 187 = .ok (.iaload, 1) := by decide +kernel
theorem d_Law_law_188 : decode c_Law_law 188 = .ok (.aload_n 0, 1) := by decide +kernel
theorem d_Law_law_189 : decode c_Law_law 189 = .ok (.iload_n 3, 1) := by decide +kernel
theorem d_Law_law_190 : decode c_Law_law 190 = .ok (.iconst 2, 1) := by decide +kernel
theorem d_Law_law_191 : decode c_Law_law 191 = .ok (.iadd, 1) := by decide +kernel
theorem d_Law_law_192 : decode c_Law_law 192 = .ok (.iaload, 1) := by decide +kernel
theorem d_Law_law_193 : decode c_Law_law 193 = .ok (.aload_n 0, 1) := by decide +kernel
theorem d_Law_law_194 : decode c_Law_law 194 = .ok (.iload_n 3, 1) := by decide +kernel
theorem d_Law_law_195 : decode c_Law_law 195 = .ok (.iconst 3, 1) := by decide +kernel
theorem d_Law_law_196 : decode c_Law_law 196 = .ok (.iadd, 1) := by decide +kernel
theorem d_Law_law_197 : decode c_Law_law 197 = .ok (.iaload, 1) := by decide +kernel
theorem d_Law_law_198 : decode c_Law_law 198 = .ok (.aload_n 0, 1) := by decide +kernel
theorem d_Law_law_199 : decode c_Law_law 199 = .ok (.iload_n 3, 1) := by decide +kernel
theorem d_Law_law_200 : decode c_Law_law 200 = .ok (.iconst 4, 1) := by decide +kernel
theorem d_Law_law_201 : decode c_Law_law 201 = .ok (.iadd, 1) := by decide +kernel
theorem d_Law_law_202 : decode c_Law_law 202 = .ok (.iaload, 1) := by decide +kernel
theorem d_Law_law_203 : decode c_Law_law 203 = .ok (.aload_n 0, 1) := by decide +kernel
theorem d_Law_law_204 : decode c_Law_law 204 = .ok (.iload_n 3, 1) := by decide +kernel
theorem d_Law_law_205 : decode c_Law_law 205 = .ok (.iconst 5, 1) := by decide +kernel
theorem d_Law_law_206 : decode c_Law_law 206 = .ok (.iadd, 1) := by decide +kernel
theorem d_Law_law_207 : decode c_Law_law 207 = .ok (.iaload, 1) := by decide +kernel
theorem d_Law_law_208 : decode c_Law_law 208 = .ok (.invokevirtual 22, 3) := by decide +kernel
theorem d_Law_law_211 : decode c_Law_law 211 = .ok (.if_icmp .eq 453, 3) := by decide +kernel
theorem d_Law_law_214 : decode c_Law_law 214 = .ok (.iconst 0, 1) := by decide +kernel
theorem d_Law_law_215 : decode c_Law_law 215 = .ok (.ireturn, 1) := by decide +kernel
theorem d_Law_law_216 : decode c_Law_law 216 = .ok (.aload_n 1, 1) := by decide +kernel
theorem d_Law_law_217 : decode c_Law_law 217 = .ok (.invokevirtual 23, 3) := by decide +kernel
theorem d_Law_law_220 : decode c_Law_law 220 = .ok (.aload_n 2, 1) := by decide +kernel
theorem d_Law_law_221 : decode c_Law_law 221 = .ok (.invokevirtual 27, 3) := by decide +kernel
theorem d_Law_law_224 : decode c_Law_law 224 = .ok (.if_icmp .eq 440, 3) := by decide +kernel
theorem d_Law_law_227 : decode c_Law_law 227 = .ok (.iconst 0, 1) := by decide +kernel
theorem d_Law_law_228 : decode c_Law_law 228 = .ok (.ireturn, 1) := by decide +kernel
theorem d_Law_law_229 : decode c_Law_law 229 = .ok (.aload_n 1, 1) := by decide +kernel
theorem d_Law_law_230 : decode c_Law_law 230 = .ok (.aload_n 0, 1) := by decide +kernel
theorem d_Law_law_231 : decode c_Law_law 231 = .ok (.iload_n 3, 1) := by decide +kernel
theorem d_Law_law_232 : decode c_Law_law 232 = .ok (.iconst 1, 1) := by decide +kernel
theorem d_Law_law_233 : decode c_Law_law 233 = .ok (.iadd, 1) := by decide +kernel
theorem d_Law_law_234 : decode c_Law_law 234 = .ok (.iaload, 1) := by decide +kernel
theorem d_Law_law_235 : decode c_Law_law 235 = .ok (.aload_n 0, 1) := by decide +kernel
theorem d_Law_law_236 : decode c_Law_law 236 = .ok (.iload_n 3, 1) := by decide +kernel
theorem d_Law_law_237 : decode c_Law_law 237 = .ok (.iconst 2, 1) := by decide +kernel
theorem d_Law_law_238 : decode c_Law_law 238 = .ok (.iadd, 1) := by decide +kernel
theorem d_Law_law_239 : decode c_Law_law 239 = .ok (.iaload, 1) := by decide +kernel
theorem d_Law_law_240 : decode c_Law_law 240 = .ok (.aload_n 0, 1) := by decide +kernel
theorem d_Law_law_241 : decode c_Law_law 241 = .ok (.iload_n 3, 1) := by decide +kernel
theorem d_Law_law_242 : decode c_Law_law 242 = .ok (.iconst 3, 1) := by decide +kernel
theorem d_Law_law_243 : decode c_Law_law 243 = .ok (.iadd, 1) := by decide +kernel
theorem d_Law_law_244 : decode c_Law_law 244 = .ok (.iaload, 1) := by decide +kernel
theorem d_Law_law_245 : decode c_Law_law 245 = .ok (.invokevirtual 28, 3) := by decide +kernel
theorem d_Law_law_248 : decode c_Law_law 248 = .ok (.aload_n 2, 1) := by decide +kernel
theorem d_Law_law_249 : decode c_Law_law 249 = .ok (.aload_n 0, 1) := by decide +kernel
theorem d_Law_law_250 : decode c_Law_law 250 = .ok (.iload_n 3, 1) := by decide +kernel
theorem d_Law_law_251 : decode c_Law_law 251 = .ok (.iconst 1, 1) := by decide +kernel
theorem d_Law_law_252 : decode c_Law_law 252 = .ok (.iadd, 1) := by decide +kernel
theorem d_Law_law_253 : decode c_Law_law 253 = .ok (.iaload, 1) := by decide +kernel
theorem d_Law_law_254 : decode c_Law_law 254 = .ok (.aload_n 0, 1) := by decide +kernel
theorem d_Law_law_255 : decode c_Law_law 255 = .ok (.iload_n 3, 1) := by decide +kernel
theorem d_Law_law_256 : decode c_Law_law 256 = .ok (.iconst 2, 1) := by decide +kernel
theorem d_Law_law_257 : decode c_Law_law 257 = .ok (.iadd, 1) := by decide +kernel
theorem d_Law_law_258 : decode c_Law_law 258 = .ok (.iaload, 1) := by decide +kernel
theorem d_Law_law_259 : decode c_Law_law 259 = .ok (.aload_n 0, 1) := by decide +kernel
theorem d_Law_law_260 : decode c_Law_law 260 = .ok (.iload_n 3, 1) := by decide +kernel
theorem d_Law_law_261 : decode c_Law_law 261 = .ok (.iconst 3, 1) := by decide +kernel
theorem d_Law_law_262 : decode c_Law_law 262 = .ok (.iadd, 1) := by decide +kernel
theorem d_Law_law_263 : decode c_Law_law 263 = .ok (.iaload, 1) := by decide +kernel
theorem d_Law_law_264 : decode c_Law_law 264 = .ok (.invokevirtual 32, 3) := by decide +kernel
theorem d_Law_law_267 : decode c_Law_law 267 = .ok (.if_icmp .eq 397, 3) := by decide +kernel
theorem d_Law_law_270 : decode c_Law_law 270 = .ok (.iconst 0, 1) := by decide +kernel
theorem d_Law_law_271 : decode c_Law_law 271 = .ok (.ireturn, 1) := by decide +kernel
theorem d_Law_law_272 : decode c_Law_law 272 = .ok (.aload_n 1, 1) := by decide +kernel
theorem d_Law_law_273 : decode c_Law_law 273 = .ok (.invokevirtual 33, 3) := by decide +kernel
theorem d_Law_law_276 : decode c_Law_law 276 = .ok (.aload_n 2, 1) := by decide +kernel
theorem d_Law_law_277 : decode c_Law_law 277 = .ok (.invokevirtual 36, 3) := by decide +kernel
theorem d_Law_law_280 : decode c_Law_law 280 = .ok (.if_icmp .eq 384, 3) := by decide +kernel
theorem d_Law_law_283 : decode c_Law_law 283 = .ok (.iconst 0, 1) := by decide +kernel
theorem d_Law_law_284 : decode c_Law_law 284 = .ok (.ireturn, 1) := by decide +kernel
theorem d_Law_law_285 : decode c_Law_law 285 = .ok (.aload_n 1, 1) := by decide +kernel
theorem d_Law_law_286 : decode c_Law_law 286 = .ok (.aload_n 0, 1) := by decide +kernel
theorem d_Law_law_287 : decode c_Law_law 287 = .ok (.iload_n 3, 1) := by decide +kernel
theorem d_Law_law_288 : decode c_Law_law 288 = .ok (.iconst 1, 1) := by decide +kernel
theorem d_Law_law_289 : decode c_Law_law 289 = .ok (.iadd, 1) := by decide +kernel
theorem d_Law_law_290 : decode c_Law_law 290 = .ok (.iaload, 1) := by decide +kernel
theorem d_Law_law_291 : decode c_Law_law 291 = .ok (.aload_n 0, 1) := by decide +kernel
theorem d_Law_law_292 : decode c_Law_law 292 = .ok (.iload_n 3, 1) := by decide +kernel
theorem d_Law_law_293 : decode c_Law_law 293 = .ok (.iconst 2, 1) := by decide +kernel
theorem d_Law_law_294 : decode c_Law_law 294 = .ok (.iadd, 1) := by decide +kernel
theorem d_Law_law_295 : decode c_Law_law 295 = .ok (.iaload, 1) := by decide +kernel
theorem d_Law_law_296 : decode c_Law_law 296 = .ok (.invokevirtual 37, 3) := by decide +kernel
theorem d_Law_law_299 : decode c_Law_law 299 = .ok (.aload_n 2, 1) := by decide +kernel
theorem d_Law_law_300 : decode c_Law_law 300 = .ok (.aload_n 0, 1) := by decide +kernel
theorem d_Law_law_301 : decode c_Law_law 301 = .ok (.iload_n 3, 1) := by decide +kernel
theorem d_Law_law_302 : decode c_Law_law 302 = .ok (.iconst 1, 1) := by decide +kernel
theorem d_Law_law_303 : decode c_Law_law 303 = .ok (.iadd, 1) := by decide +kernel
theorem d_Law_law_304 : decode c_Law_law 304 = .ok (.iaload, 1) := by decide +kernel
theorem d_Law_law_305 : decode c_Law_law 305 = .ok (.aload_n 0, 1) := by decide +kernel
theorem d_Law_law_306 : decode c_Law_law 306 = .ok (.iload_n 3, 1) := by decide +kernel
theorem d_Law_law_307 : decode c_Law_law 307 = .ok (.iconst 2, 1) := by decide +kernel
theorem d_Law_law_308 : decode c_Law_law 308 = .ok (.iadd, 1) := by decide +kernel
theorem d_Law_law_309 : decode c_Law_law 309 = .ok (.iaload, 1) := by decide +kernel
theorem d_Law_law_310 : decode c_Law_law 310 = .ok (.invokevirtual 40, 3) := by decide +kernel
theorem d_Law_law_313 : decode c_Law_law 313 = .ok (.if_icmp .eq 351, 3) := by decide +kernel
theorem d_Law_law_316 : decode c_Law_law 316 = .ok (.iconst 0, 1) := by decide +kernel
theorem d_Law_law_317 : decode c_Law_law 317 = .ok (.ireturn, 1) := by decide +kernel
theorem d_Law_law_318 : decode c_Law_law 318 = .ok (.aload_n 1, 1) := by decide +kernel
theorem d_Law_law_319 : decode c_Law_law 319 = .ok (.aload_n 0, 1) := by decide +kernel
theorem d_Law_law_320 : decode c_Law_law 320 = .ok (.iload_n 3, 1) := by decide +kernel
theorem d_Law_law_321 : decode c_Law_law 321 = .ok (.iconst 1, 1) := by decide +kernel
theorem d_Law_law_322 : decode c_Law_law 322 = .ok (.iadd, 1) := by decide +kernel
theorem d_Law_law_323 : decode c_Law_law 323 = .ok (.iaload, 1) := by decide +kernel
theorem d_Law_law_324 : decode c_Law_law 324 = .ok (.aload_n 0, 1) := by decide +kernel
theorem d_Law_law_325 : decode c_Law_law 325 = .ok (.iload_n 3, 1) := by decide +kernel
theorem d_Law_law_326 : decode c_Law_law 326 = .ok (.iconst 2, 1) := by decide +kernel
theorem d_Law_law_327 : decode c_Law_law 327 = .ok (.iadd, 1) := by decide +kernel
theorem d_Law_law_328 : decode c_Law_law 328 = .ok (.iaload, 1) := by decide +kernel
theorem d_Law_law_329 : decode c_Law_law 329 = .ok (.invokevirtual 41, 3) := by decide +kernel
theorem d_Law_law_332 : decode c_Law_law 332 = .ok (.aload_n 2, 1) := by decide +kernel
theorem d_Law_law_333 : decode c_Law_law 333 = .ok (.aload_n 0, 1) := by decide +kernel
theorem d_Law_law_334 : decode c_Law_law 334 = .ok (.iload_n 3, 1) := by decide +kernel
theorem d_Law_law_335 : decode c_Law_law 335 = .ok (.iconst 1, 1) := by decide +kernel
theorem d_Law_law_336 : decode c_Law_law 336 = .ok (.iadd, 1) := by decide +kernel
theorem d_Law_law_337 : decode c_Law_law 337 = .ok (.iaload, 1) := by decide +kernel
theorem d_Law_law_338 : decode c_Law_law 338 = .ok (.aload_n 0, 1) := by decide +kernel
theorem d_Law_law_339 : decode c_Law_law 339 = .ok (.iload_n 3, 1) := by decide +kernel
theorem d_Law_law_340 : decode c_Law_law 340 = .ok (.iconst 2, 1) := by decide +kernel
theorem d_Law_law_341 : decode c_Law_law 341 = .ok (.iadd, 1) := by decide +kernel
theorem d_Law_law_342 : decode c_Law_law 342 = .ok (.iaload, 1) := by decide +kernel
theorem d_Law_law_343 : decode c_Law_law 343 = .ok (.invokevirtual 44, 3) := by decide +kernel
theorem d_Law_law_346 : decode c_Law_law 346 = .ok (.if_icmp .eq 318, 3) := by decide +kernel
theorem d_Law_law_349 : decode c_Law_law 349 = .ok (.iconst 0, 1) := by decide +kernel
theorem d_Law_law_350 : decode c_Law_law 350 = .ok (.ireturn, 1) := by decide +kernel
theorem d_Law_law_351 : decode c_Law_law 351 = .ok (.aload_n 1, 1) := by decide +kernel
theorem d_Law_law_352 : decode c_Law_law 352 = .ok (.aload_n 0, 1) := by decide +kernel
theorem d_Law_law_353 : decode c_Law_law 353 = .ok (.iload_n 3, 1) := by decide +kernel
theorem d_Law_law_354 : decode c_Law_law 354 = .ok (.iconst 1, 1) := by decide +kernel
theorem d_Law_law_355 : decode c_Law_law 355 = .ok (.iadd, 1) := by decide +kernel
theorem d_Law_law_356 : decode c_Law_law 356 = .ok (.iaload, 1) := by decide +kernel
theorem d_Law_law_357 : decode c_Law_law 357 = .ok (.aload_n 0, 1) := by decide +kernel
theorem d_Law_law_358 : decode c_Law_law 358 = .ok (.iload_n 3, 1) := by decide +kernel
theorem d_Law_law_359 : decode c_Law_law 359 = .ok (.iconst 2, 1) := by decide +kernel
theorem d_Law_law_360 : decode c_Law_law 360 = .ok (.iadd, 1) := by decide +kernel
theorem d_Law_law_361 : decode c_Law_law 361 = .ok (.iaload, 1) := by decide +kernel
theorem d_Law_law_362 : decode c_Law_law 362 = .ok (.invokevirtual 45, 3) := by decide +kernel
theorem d_Law_law_365 : decode c_Law_law 365 = .ok (.aload_n 2, 1) := by decide +kernel
theorem d_Law_law_366 : decode c_Law_law 366 = .ok (.aload_n 0, 1) := by decide +kernel
theorem d_Law_law_367 : decode c_Law_law 367 = .ok (.iload_n 3, 1) := by decide +kernel
theorem d_Law_law_368 : decode c_Law_law 368 = .ok (.iconst 1, 1) := by decide +kernel
theorem d_Law_law_369 : decode c_Law_law 369 = .ok (.iadd, 1) := by decide +kernel
theorem d_Law_law_370 : decode c_Law_law 370 = .ok (.iaload, 1) := by decide +kernel
theorem d_Law_law_371 : decode c_Law_law 371 = .ok (.aload_n 0, 1) := by decide +kernel
theorem d_Law_law_372 : decode c_Law_law 372 = .ok (.iload_n 3, 1) := by decide +kernel
theorem d_Law_law_373 : decode c_Law_law 373 = .ok (.iconst 2, 1) := by decide +kernel
theorem d_Law_law_374 : decode c_Law_law 374 = .ok (.iadd, 1) := by decide +kernel
theorem d_Law_law_375 : decode c_Law_law 375 = .ok (.iaload, 1) := by decide +kernel
theorem d_Law_law_376 : decode c_Law_law 376 = .ok (.invokevirtual 48, 3) := by decide +kernel
theorem d_Law_law_379 : decode c_Law_law 379 = .ok (.if_icmp .eq 285, 3) := by decide +kernel
theorem d_Law_law_382 : decode c_Law_law 382 = .ok (.iconst 0, 1) := by decide +kernel
theorem d_Law_law_383 : decode c_Law_law 383 = .ok (.ireturn, 1) := by decide +kernel
theorem d_Law_law_384 : decode c_Law_law 384 = .ok (.aload_n 1, 1) := by decide +kernel
theorem d_Law_law_385 : decode c_Law_law 385 = .ok (.aload_n 0, 1) := by decide +kernel
theorem d_Law_law_386 : decode c_Law_law 386 = .ok (.iload_n 3, 1) := by decide +kernel
theorem d_Law_law_387 : decode c_Law_law 387 = .ok (.iconst 1, 1) := by decide +kernel
theorem d_Law_law_388 : decode c_Law_law 388 = .ok (.iadd, 1) := by decide +kernel
theorem d_Law_law_389 : decode c_Law_law 389 = .ok (.iaload, 1) := by decide +kernel
theorem d_Law_law_390 : decode c_Law_law 390 = .ok (.aload_n 0, 1) := by decide +kernel
theorem d_Law_law_391 : decode c_Law_law 391 = .ok (.iload_n 3, 1) := by decide +kernel
theorem d_Law_law_392 : decode c_Law_law 392 = .ok (.iconst 2, 1) := by decide +kernel
theorem d_Law_law_393 : decode c_Law_law 393 = .ok (.iadd, 1) := by decide +kernel
theorem d_Law_law_394 : decode c_Law_law 394 = .ok (.iaload, 1) := by decide +kernel
theorem d_Law_law_395 : decode c_Law_law 395 = .ok (.aload_n 0, 1) := by decide +kernel
theorem d_Law_law_396 : decode c_Law_law 396 = .ok (.iload_n 3, 1) := by decide +kernel
theorem d_Law_law_397 : decode c_Law_law 397 = .ok (.iconst 3, 1) := by decide +kernel
theorem d_Law_law_398 : decode c_Law_law 398 = .ok (.iadd, 1) := by decide +kernel
theorem d_Law_law_399 : decode c_Law_law 399 = .ok (.iaload, 1) := by decide +kernel
theorem d_Law_law_400 : decode c_Law_law 400 = .ok (.aload_n 0, 1) := by decide +kernel
theorem d_Law_law_401 : decode c_Law_law 401 = .ok (.iload_n 3, 1) := by decide +kernel
theorem d_Law_law_402 : decode c_Law_law 402 = .ok (.iconst 4, 1) := by decide +kernel
theorem d_Law_law_403 : decode c_Law_law 403 = .ok (.iadd, 1) := by decide +kernel
theorem d_Law_law_404 : decode c_Law_law 404 = .ok (.iaload, 1) := by decide +kernel
theorem d_Law_law_405 : decode c_Law_law 405 = .ok (.invokevirtual 49, 3) := by decide +kernel
theorem d_Law_law_408 : decode c_Law_law 408 = .ok (.aload_n 2, 1) := by decide +kernel
theorem d_Law_law_409 : decode c_Law_law 409 = .ok (.aload_n 0, 1) := by decide +kernel
theorem d_Law_law_410 : decode c_Law_law 410 = .ok (.iload_n 3, 1) := by decide +kernel
theorem d_Law_law_411 : decode c_Law_law 411 = .ok (.iconst 1, 1) := by decide +kernel
theorem d_Law_law_412 : decode c_Law_law 412 = .ok (.iadd, 1) := by decide +kernel
theorem d_Law_law_413 : decode c_Law_law 413 = .ok (.iaload, 1) := by decide +kernel
theorem d_Law_law_414 : decode c_Law_law 414 = .ok (.aload_n 0, 1) := by decide +kernel
theorem d_Law_law_415 : decode c_Law_law 415 = .ok (.iload_n 3, 1) := by decide +kernel
theorem d_Law_law_416 : decode c_Law_law 416 = .ok (.iconst 2, 1) := by decide +kernel
theorem d_Law_law_417 : decode c_Law_law 417 = .ok (.iadd, 1) := by decide +kernel
theorem d_Law_law_418 : decode c_Law_law 418 = .ok (.iaload, 1) := by decide +kernel
theorem d_Law_law_419 : decode c_Law_law 419 = .ok (.aload_n 0, 1) := by decide +kernel
theorem d_Law_law_420 : decode c_Law_law 420 = .ok (.iload_n 3, 1) := by decide +kernel
theorem d_Law_law_421 : decode c_Law_law 421 = .ok (.iconst 3, 1) := by decide +kernel
theorem d_Law_law_422 : decode c_Law_law 422 = .ok (.iadd, 1) := by decide +kernel
theorem d_Law_law_423 : decode c_Law_law 423 = .ok (.iaload, 1) := by decide +kernel
theorem d_Law_law_424 : decode c_Law_law 424 = .ok (.aload_n 0, 1) := by decide +kernel
theorem d_Law_law_425 : decode c_Law_law 425 = .ok (.iload_n 3, 1) := by decide +kernel
theorem d_Law_law_426 : decode c_Law_law 426 = .ok (.iconst 4, 1) := by decide +kernel
theorem d_Law_law_427 : decode c_Law_law 427 = .ok (.iadd, 1) := by decide +kernel
theorem d_Law_law_428 : decode c_Law_law 428 = .ok (.iaload, 1) := by decide +kernel
theorem d_Law_law_429 : decode c_Law_law 429 = .ok (.invokevirtual 53, 3) := by decide +kernel
theorem d_Law_law_432 : decode c_Law_law 432 = .ok (.if_icmp .eq 232, 3) := by decide +kernel
theorem d_Law_law_435 : decode c_Law_law 435 = .ok (.iconst 0, 1) := by decide +kernel
theorem d_Law_law_436 : decode c_Law_law 436 = .ok (.ireturn, 1) := by decide +kernel
theorem d_Law_law_437 : decode c_Law_law 437 = .ok (.aload_n 1, 1) := by decide +kernel
theorem d_Law_law_438 : decode c_Law_law 438 = .ok (.aload_n 0, 1) := by decide +kernel
theorem d_Law_law_439 : decode c_Law_law 439 = .ok (.iload_n 3, 1) := by decide +kernel
theorem d_Law_law_440 : decode c_Law_law 440 = .ok (.iconst 1, 1) := by decide +kernel
theorem d_Law_law_441 : decode c_Law_law 441 = .ok (.iadd, 1) := by decide +kernel
theorem d_Law_law_442 : decode c_Law_law 442 = .ok (.iaload, 1) := by decide +kernel
theorem d_Law_law_443 : decode c_Law_law 443 = .ok (.invokevirtual 54, 3) := by decide +kernel
theorem d_Law_law_446 : decode c_Law_law 446 = .ok (.aload_n 2, 1) := by decide +kernel
theorem d_Law_law_447 : decode c_Law_law 447 = .ok (.aload_n 0, 1) := by decide +kernel
theorem d_Law_law_448 : decode c_Law_law 448 = .ok (.iload_n 3, 1) := by decide +kernel
theorem d_Law_law_449 : decode c_Law_law 449 = .ok (.iconst 1, 1) := by decide +kernel
theorem d_Law_law_450 : decode c_Law_law 450 = .ok (.iadd, 1) := by decide +kernel
theorem d_Law_law_451 : decode c_Law_law 451 = .ok (.iaload, 1) := by decide +kernel
theorem d_Law_law_452 : decode c_Law_law 452 = .ok (.invokevirtual 58, 3) := by decide +kernel
theorem d_Law_law_455 : decode c_Law_law 455 = .ok (.if_icmp .eq 209, 3) := by decide +kernel
theorem d_Law_law_458 : decode c_Law_law 458 = .ok (.iconst 0, 1) := by decide +kernel
theorem d_Law_law_459 : decode c_Law_law 459 = .ok (.ireturn, 1) := by decide +kernel
theorem d_Law_law_460 : decode c_Law_law 460 = .ok (.aload_n 1, 1) := by decide +kernel
theorem d_Law_law_461 : decode c_Law_law 461 = .ok (.invokevirtual 59, 3) := by decide +kernel
theorem d_Law_law_464 : decode c_Law_law 464 = .ok (.aload_n 2, 1) := by decide +kernel
theorem d_Law_law_465 : decode c_Law_law 465 = .ok (.invokevirtual 62, 3) := by decide +kernel
theorem d_Law_law_468 : decode c_Law_law 468 = .ok (.if_icmp .eq 196, 3) := by decide +kernel
theorem d_Law_law_471 : decode c_Law_law 471 = .ok (.iconst 0, 1) := by decide +kernel
theorem d_Law_law_472 : decode c_Law_law 472 = .ok (.ireturn, 1) := by decide +kernel
theorem d_Law_law_473 : decode c_Law_law 473 = .ok (.aload_n 1, 1) := by decide +kernel
theorem d_Law_law_474 : decode c_Law_law 474 = .ok (.aload_n 0, 1) := by decide +kernel
theorem d_Law_law_475 : decode c_Law_law 475 = .ok (.iload_n 3, 1) := by decide +kernel
theorem d_Law_law_476 : decode c_Law_law 476 = .ok (.iconst 1, 1) := by decide +kernel
theorem d_Law_law_477 : decode c_Law_law 477 = .ok (.iadd, 1) := by decide +kernel
theorem d_Law_law_478 : decode c_Law_law 478 = .ok (.iaload, 1) := by decide +kernel
theorem d_Law_law_479 : decode c_Law_law 479 = .ok (.aload_n 0, 1) := by decide +kernel
theorem d_Law_law_480 : decode c_Law_law 480 = .ok (.iload_n 3, 1) := by decide +kernel
theorem d_Law_law_481 : decode c_Law_law 481 = .ok (.iconst 2, 1) := by decide +kernel
theorem d_Law_law_482 : decode c_Law_law 482 = .ok (.iadd, 1) := by decide +kernel
theorem d_Law_law_483 : decode c_Law_law 483 = .ok (.iaload, 1) := by decide +kernel
theorem d_Law_law_484 : decode c_Law_law 484 = .ok (.aload_n 0, 1) := by decide +kernel
theorem d_Law_law_485 : decode c_Law_law 485 = .ok (.iload_n 3, 1) := by decide +kernel
theorem d_Law_law_486 : decode c_Law_law 486 = .ok (.iconst 3, 1) := by decide +kernel
theorem d_Law_law_487 : decode c_Law_law 487 = .ok (.iadd, 1) := by decide +kernel
theorem d_Law_law_488 : decode c_Law_law 488 = .ok (.iaload, 1) := by decide +kernel
theorem d_Law_law_489 : decode c_Law_law 489 = .ok (.aload_n 0, 1) := by decide +kernel
theorem d_Law_law_490 : decode c_Law_law 490 = .ok (.iload_n 3, 1) := by decide +kernel
theorem d_Law_law_491 : decode c_Law_law 491 = .ok (.iconst 4, 1) := by decide +kernel
theorem d_Law_law_492 : decode c_Law_law 492 = .ok (.iadd, 1) := by decide +kernel
theorem d_Law_law_493 : decode c_Law_law 493 = .ok (.iaload, 1) := by decide +kernel
theorem d_Law_law_494 : decode c_Law_law 494 = .ok (.invokevirtual 63, 3) := by decide +kernel
theorem d_Law_law_497 : decode c_Law_law 497 = .ok (.aload_n 2, 1) := by decide +kernel
theorem d_Law_law_498 : decode c_Law_law 498 = .ok (.aload_n 0, 1) := by decide +kernel
theorem d_Law_law_499 : decode c_Law_law 499 = .ok (.iload_n 3, 1) := by decide +kernel
theorem d_Law_law_500 : decode c_Law_law 500 = .ok (.iconst 1, 1) := by decide +kernel
theorem d_Law_law_501 : decode c_Law_law 501 = .ok (.iadd, 1) := by decide +kernel
theorem d_Law_law_502 : decode c_Law_law 502 = .ok (.iaload, 1) := by decide +kernel
theorem d_Law_law_503 : decode c_Law_law 503 = .ok (.aload_n 0, 1) := by decide +kernel
theorem d_Law_law_504 : decode c_Law_law 504 = .ok (.iload_n 3, 1) := by decide +kernel
theorem d_Law_law_505 : decode c_Law_law 505 = .ok (.iconst 2, 1) := by decide +kernel
theorem d_Law_law_506 : decode c_Law_law 506 = .ok (.iadd, 1) := by decide +kernel
theorem d_Law_law_507 : decode c_Law_law 507 = .ok (.iaload, 1) := by decide +kernel
theorem d_Law_law_508 : decode c_Law_law 508 = .ok (.aload_n 0, 1) := by decide +kernel
theorem d_Law_law_509 : decode c_Law_law 509 = .ok (.iload_n 3, 1) := by decide +kernel
theorem d_Law_law_510 : decode c_Law_law 510 = .ok (.iconst 3, 1) := by decide +kernel
theorem d_Law_law_511 : decode c_Law_law 511 = .ok (.iadd, 1) := by decide +kernel
theorem d_Law_law_512 : decode c_Law_law 512 = .ok (.iaload, 1) := by decide +kernel
theorem d_Law_law_513 : decode c_Law_law 513 = .ok (.aload_n 0, 1) := by decide +kernel
theorem d_Law_law_514 : decode c_Law_law 514 = .ok (.iload_n 3, 1) := by decide +kernel
theorem d_Law_law_515 : decode c_Law_law 515 = .ok (.iconst 4, 1) := by decide +kernel
theorem d_Law_law_516 : decode c_Law_law 516 = .ok (.iadd, 1) := by decide +kernel
theorem d_Law_law_517 : decode c_Law_law 517 = .ok (.iaload, 1) := by decide +kernel
theorem d_Law_law_518 : decode c_Law_law 518 = .ok (.invokevirtual 66, 3) := by decide +kernel
theorem d_Law_law_521 : decode c_Law_law 521 = .ok (.if_icmp .eq 143, 3) := by decide +kernel
theorem d_Law_law_524 : decode c_Law_law 524 = .ok (.iconst 0, 1) := by decide +kernel
theorem d_Law_law_525 : decode c_Law_law 525 = .ok (.ireturn, 1) := by decide +kernel
theorem d_Law_law_526 : decode c_Law_law 526 = .ok (.aload_n 1, 1) := by decide +kernel
theorem d_Law_law_527 : decode c_Law_law 527 = .ok (.invokevirtual 67, 3) := by decide +kernel
theorem d_Law_law_530 : decode c_Law_law 530 = .ok (.aload_n 2, 1) := by decide +kernel
theorem d_Law_law_531 : decode c_Law_law 531 = .ok (.invokevirtual 70, 3) := by decide +kernel
theorem d_Law_law_534 : decode c_Law_law 534 = .ok (.if_icmp .eq 130, 3) := by decide +kernel
theorem d_Law_law_537 : decode c_Law_law 537 = .ok (.iconst 0, 1) := by decide +kernel
theorem d_Law_law_538 : decode c_Law_law 538 = .ok (.ireturn, 1) := by decide +kernel
theorem d_Law_law_539 : decode c_Law_law 539 = .ok (.aload_n 1, 1) := by decide +kernel
theorem d_Law_law_540 : decode c_Law_law 540 = .ok (.aload_n 0, 1) := by decide +kernel
theorem d_Law_law_541 : decode c_Law_law 541 = .ok (.iload_n 3, 1) := by decide +kernel
theorem d_Law_law_542 : decode c_Law_law 542 = .ok (.iconst 1, 1) := by decide +kernel
theorem d_Law_law_543 : decode c_Law_law 543 = .ok (.iadd, 1) := by decide +kernel
theorem d_Law_law_544 : decode c_Law_law 544 = .ok (.iaload, 1) := by decide +kernel
theorem d_Law_law_545 : decode c_Law_law 545 = .ok (.aload_n 0, 1) := by decide +kernel
theorem d_Law_law_546 : decode c_Law_law 546 = .ok (.iload_n 3, 1) := by decide +kernel
theorem d_Law_law_547 : decode c_Law_law 547 = .ok (.iconst 2, 1) := by decide +kernel
theorem d_Law_law_548 : decode c_Law_law 548 = .ok (.iadd, 1) := by decide +kernel
theorem d_Law_law_549 : decode c_Law_law 549 = .ok (.iaload, 1) := by decide +kernel
theorem d_Law_law_550 : decode c_Law_law 550 = .ok (.invokevirtual 71, 3) := by decide +kernel
theorem d_Law_law_553 : decode c_Law_law 553 = .ok (.aload_n 2, 1) := by decide +kernel
theorem d_Law_law_554 : decode c_Law_law 554 = .ok (.aload_n 0, 1) := by decide +kernel
theorem d_Law_law_555 : decode c_Law_law 555 = .ok (.iload_n 3, 1) := by decide +kernel
theorem d_Law_law_556 : decode c_Law_law 556 = .ok (.iconst 1, 1) := by decide +kernel
theorem d_Law_law_557 : decode c_Law_law 557 = .ok (.iadd, 1) := by decide +kernel
theorem d_Law_law_558 : decode c_Law_law 558 = .ok (.iaload, 1) := by decide +kernel
theorem d_Law_law_559 : decode c_Law_law 559 = .ok (.aload_n 0, 1) := by decide +kernel
theorem d_Law_law_560 : decode c_Law_law 560 = .ok (.iload_n 3, 1) := by decide +kernel
theorem d_Law_law_561 : decode c_Law_law 561 = .ok (.iconst 2, 1) := by decide +kernel
theorem d_Law_law_562 : decode c_Law_law 562 = .ok (.iadd, 1) := by decide +kernel
theorem d_Law_law_563 : decode c_Law_law 563 = .ok (.iaload, 1) := by decide +kernel
theorem d_Law_law_564 : decode c_Law_law 564 = .ok (.invokevirtual 74, 3) := by decide +kernel
theorem d_Law_law_567 : decode c_Law_law 567 = .ok (.if_icmp .eq 97, 3) := by decide +kernel
theorem d_Law_law_570 : decode c_Law_law 570 = .ok (.iconst 0, 1) := by decide +kernel
theorem d_Law_law_571 : decode c_Law_law 571 = .ok (.ireturn, 1) := by decide +kernel
theorem d_Law_law_572 : decode c_Law_law 572 = .ok (.aload_n 1, 1) := by decide +kernel
theorem d_Law_law_573 : decode c_Law_law 573 = .ok (.aload_n 0, 1) := by decide +kernel
theorem d_Law_law_574 : decode c_Law_law 574 = .ok (.iload_n 3, 1) := by decide +kernel
theorem d_Law_law_575 : decode c_Law_law 575 = .ok (.iconst 1, 1) := by decide +kernel
theorem d_Law_law_576 : decode c_Law_law 576 = .ok (.iadd, 1) := by decide +kernel
theorem d_Law_law_577 : decode c_Law_law 577 = .ok (.iaload, 1) := by decide +kernel
theorem d_Law_law_578 : decode c_Law_law 578 = .ok (.invokevirtual 75, 3) := by decide +kernel
theorem d_Law_law_581 : decode c_Law_law 581 = .ok (.aload_n 2, 1) := by decide +kernel
theorem d_Law_law_582 : decode c_Law_law 582 = .ok (.aload_n 0, 1) := by decide +kernel
theorem d_Law_law_583 : decode c_Law_law 583 = .ok (.iload_n 3, 1) := by decide +kernel
theorem d_Law_law_584 : decode c_Law_law 584 = .ok (.iconst 1, 1) := by decide +kernel
theorem d_Law_law_585 : decode c_Law_law 585 = .ok (.iadd, 1) := by decide +kernel
theorem d_Law_law_586 : decode c_Law_law 586 = .ok (.iaload, 1) := by decide +kernel
theorem d_Law_law_587 : decode c_Law_law 587 = .ok (.invokevirtual 78, 3) := by decide +kernel
theorem d_Law_law_590 : decode c_Law_law 590 = .ok (.if_icmp .eq 74, 3) := by decide +kernel
theorem d_Law_law_593 : decode c_Law_law 593 = .ok (.iconst 0, 1) := by decide +kernel
theorem d_Law_law_594 : decode c_Law_law 594 = .ok (.ireturn, 1) := by decide +kernel
theorem d_Law_law_595 : decode c_Law_law 595 = .ok (.aload_n 1, 1) := by decide +kernel
theorem d_Law_law_596 : decode c_Law_law 596 = .ok (.aload_n 0, 1) := by decide +kernel
theorem d_Law_law_597 : decode c_Law_law 597 = .ok (.iload_n 3, 1) := by decide +kernel
theorem d_Law_law_598 : decode c_Law_law 598 = .ok (.iconst 1, 1) := by decide +kernel
theorem d_Law_law_599 : decode c_Law_law 599 = .ok (.iadd, 1) := by decide +kernel
theorem d_Law_law_600 : decode c_Law_law 600 = .ok (.iaload, 1) := by decide +kernel
theorem d_Law_law_601 : decode c_Law_law 601 = .ok (.invokevirtual 79, 3) := by decide +kernel
theorem d_Law_law_604 : decode c_Law_law 604 = .ok (.aload_n 2, 1) := by decide +kernel
theorem d_Law_law_605 : decode c_Law_law 605 = .ok (.aload_n 0, 1) := by decide +kernel
theorem d_Law_law_606 : decode c_Law_law 606 = .ok (.iload_n 3, 1) := by decide +kernel
theorem d_Law_law_607 : decode c_Law_law 607 = .ok (.iconst 1, 1) := by decide +kernel
theorem d_Law_law_608 : decode c_Law_law 608 = .ok (.iadd, 1) := by decide +kernel
theorem d_Law_law_609 : decode c_Law_law 609 = .ok (.iaload, 1) := by decide +kernel
theorem d_Law_law_610 : decode c_Law_law 610 = .ok (.invokevirtual 82, 3) := by decide +kernel
theorem d_Law_law_613 : decode c_Law_law 613 = .ok (.if_icmp .eq 51, 3) := by decide +kernel
theorem d_Law_law_616 : decode c_Law_law 616 = .ok (.iconst 0, 1) := by decide +kernel
theorem d_Law_law_617 : decode c_Law_law 617 = .ok (.ireturn, 1) := by decide +kernel
theorem d_Law_law_618 : decode c_Law_law 618 = .ok (.aload_n 1, 1) := by decide +kernel
theorem d_Law_law_619 : decode c_Law_law 619 = .ok (.aload_n 0, 1) := by decide +kernel
theorem d_Law_law_620 : decode c_Law_law 620 = .ok (.iload_n 3, 1) := by decide +kernel
theorem d_Law_law_621 : decode c_Law_law 621 = .ok (.iconst 1, 1) := by decide +kernel
theorem d_Law_law_622 : decode c_Law_law 622 = .ok (.iadd, 1) := by decide +kernel
theorem d_Law_law_623 : decode c_Law_law 623 = .ok (.iaload, 1) := by decide +kernel
theorem d_Law_law_624 : decode c_Law_law 624 = .ok (.aload_n 0, 1) := by decide +kernel
theorem d_Law_law_625 : decode c_Law_law 625 = .ok (.iload_n 3, 1) := by decide +kernel
theorem d_Law_law_626 : decode c_Law_law 626 = .ok (.iconst 2, 1) := by decide +kernel
theorem d_Law_law_627 : decode c_Law_law 627 = .ok (.iadd, 1) := by decide +kernel
theorem d_Law_law_628 : decode c_Law_law 628 = .ok (.iaload, 1) := by decide +kernel
theorem d_Law_law_629 : decode c_Law_law 629 = .ok (.invokevirtual 83, 3) := by decide +kernel
theorem d_Law_law_632 : decode c_Law_law 632 = .ok (.aload_n 2, 1) := by decide +kernel
theorem d_Law_law_633 : decode c_Law_law 633 = .ok (.aload_n 0, 1) := by decide +kernel
theorem d_Law_law_634 : decode c_Law_law 634 = .ok (.iload_n 3, 1) := by decide +kernel
theorem d_Law_law_635 : decode c_Law_law 635 = .ok (.iconst 1, 1) := by decide +kernel
theorem d_Law_law_636 : decode c_Law_law 636 = .ok (.iadd, 1) := by decide +kernel
theorem d_Law_law_637 : decode c_Law_law 637 = .ok (.iaload, 1) := by decide +kernel
theorem d_Law_law_638 : decode c_Law_law 638 = .ok (.aload_n 0, 1) := by decide +kernel
theorem d_Law_law_639 : decode c_Law_law 639 = .ok (.iload_n 3, 1) := by decide +kernel
theorem d_Law_law_640 : decode c_Law_law 640 = .ok (.iconst 2, 1) := by decide +kernel
theorem d_Law_law_641 : decode c_Law_law 641 = .ok (.iadd, 1) := by decide +kernel
theorem d_Law_law_642 : decode c_Law_law 642 = .ok (.iaload, 1) := by decide +kernel
theorem d_Law_law_643 : decode c_Law_law 643 = .ok (.invokevirtual 86, 3) := by decide +kernel
theorem d_Law_law_646 : decode c_Law_law 646 = .ok (.if_icmp .eq 18, 3) := by decide +kernel
theorem d_Law_law_649 : decode c_Law_law 649 = .ok (.iconst 0, 1) := by decide +kernel
theorem d_Law_law_650 : decode c_Law_law 650 = .ok (.ireturn, 1) := by decide +kernel
theorem d_Law_law_651 : decode c_Law_law 651 = .ok (.aload_n 1, 1) := by decide +kernel
theorem d_Law_law_652 : decode c_Law_law 652 = .ok (.invokevirtual 87, 3) := by decide +kernel
theorem d_Law_law_655 : decode c_Law_law 655 = .ok (.aload_n 2, 1) := by decide +kernel
theorem d_Law_law_656 : decode c_Law_law 656 = .ok (.invokevirtual 90, 3) := by decide +kernel
theorem d_Law_law_659 : decode c_Law_law 659 = .ok (.if_icmp .eq 5, 3) := by decide +kernel
theorem d_Law_law_662 : decode c_Law_law 662 = .ok (.iconst 0, 1) := by decide +kernel
theorem d_Law_law_663 : decode c_Law_law 663 = .ok (.ireturn, 1) := by decide +kernel
theorem d_Law_law_664 : decode c_Law_law 664 = .ok (.iinc 3 6, 3) := by decide +kernel
theorem d_Law_law_667 : decode c_Law_law 667 = .ok (.goto (-649), 3) := by decide +kernel
theorem d_Law_law_670 : decode c_Law_law 670 = .ok (.iconst 1, 1) := by decide +kernel
theorem d_Law_law_671 : decode c_Law_law 671 = .ok (.ireturn, 1) := by decide +kernel
