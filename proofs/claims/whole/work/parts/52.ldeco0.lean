theorem d_W_law_0 : decode b_W_law 0 = .ok (.new 8, 3) := by decide +kernel
theorem d_W_law_3 : decode b_W_law 3 = .ok (.dup, 1) := by decide +kernel
theorem d_W_law_4 : decode b_W_law 4 = .ok (.invokespecial 80, 3) := by decide +kernel
theorem d_W_law_7 : decode b_W_law 7 = .ok (.astore_n 1, 1) := by decide +kernel
theorem d_W_law_8 : decode b_W_law 8 = .ok (.new 81, 3) := by decide +kernel
theorem d_W_law_11 : decode b_W_law 11 = .ok (.dup, 1) := by decide +kernel
theorem d_W_law_12 : decode b_W_law 12 = .ok (.invokespecial 83, 3) := by decide +kernel
theorem d_W_law_15 : decode b_W_law 15 = .ok (.astore_n 2, 1) := by decide +kernel
theorem d_W_law_16 : decode b_W_law 16 = .ok (.iconst 1, 1) := by decide +kernel
theorem d_W_law_17 : decode b_W_law 17 = .ok (.newarray .long, 2) := by decide +kernel
theorem d_W_law_19 : decode b_W_law 19 = .ok (.astore_n 3, 1) := by decide +kernel
theorem d_W_law_20 : decode b_W_law 20 = .ok (.iconst 0, 1) := by decide +kernel
theorem d_W_law_21 : decode b_W_law 21 = .ok (.istore 4, 2) := by decide +kernel
theorem d_W_law_23 : decode b_W_law 23 = .ok (.iload 4, 2) := by decide +kernel
theorem d_W_law_25 : decode b_W_law 25 = .ok (.aload_n 0, 1) := by decide +kernel
theorem d_W_law_26 : decode b_W_law 26 = .ok (.arraylength, 1) := by decide +kernel
theorem d_W_law_27 : decode b_W_law 27 = .ok (.bipush 6, 2) := by decide +kernel
theorem d_W_law_29 : decode b_W_law 29 = .ok (.isub, 1) := by decide +kernel
theorem d_W_law_30 : decode b_W_law 30 = .ok (.if_icmp .gt 1461, 3) := by decide +kernel
theorem d_W_law_33 : decode b_W_law 33 = .ok (.aload_n 0, 1) := by decide +kernel
theorem d_W_law_34 : decode b_W_law 34 = .ok (.iload 4, 2) := by decide +kernel
theorem d_W_law_36 : decode b_W_law 36 = .ok (.iaload, 1) := by decide +kernel
theorem d_W_law_37 : decode b_W_law 37 = .ok (.bipush 31, 2) := by decide +kernel
theorem d_W_law_39 : decode b_W_law 39 = .ok (.iand, 1) := by decide +kernel
theorem d_W_law_40 : decode b_W_law 40 = .ok (.tableswitch 1445 0 19 #[96, 176, 213, 257, 317, 404, 429, 521, 577, 657, 737, 773, 877, 957, 1049, 1129, 1185, 1241, 1297, 1377], 96) := by decide +kernel
theorem d_W_law_136 : decode b_W_law 136 = .ok (.aload_n 1, 1) := by decide +kernel
theorem d_W_law_137 : decode b_W_law 137 = .ok (.aload_n 0, 1) := by decide +kernel
theorem d_W_law_138 : decode b_W_law 138 = .ok (.iload 4, 2) := by decide +kernel
theorem d_W_law_140 : decode b_W_law 140 = .ok (.iconst 1, 1) := by decide +kernel
theorem d_W_law_141 : decode b_W_law 141 = .ok (.iadd, 1) := by decide +kernel
theorem d_W_law_142 : decode b_W_law 142 = .ok (.iaload, 1) := by decide +kernel
theorem d_W_law_143 : decode b_W_law 143 = .ok (.aload_n 0, 1) := by decide +kernel
theorem d_W_law_144 : decode b_W_law 144 = .ok (.iload 4, 2) := by decide +kernel
theorem d_W_law_146 : decode b_W_law 146 = .ok (.iconst 2, 1) := by decide +kernel
theorem d_W_law_147 : decode b_W_law 147 = .ok (.iadd, 1) := by decide +kernel
theorem d_W_law_148 : decode b_W_law 148 = .ok (.iaload, 1) := by decide +kernel
theorem d_W_law_149 : decode b_W_law 149 = .ok (.aload_n 0, 1) := by decide +kernel
theorem d_W_law_150 : decode b_W_law 150 = .ok (.iload 4, 2) := by decide +kernel
theorem d_W_law_152 : decode b_W_law 152 = .ok (.iconst 3, 1) := by decide +kernel
theorem d_W_law_153 : decode b_W_law 153 = .ok (.iadd, 1) := by decide +kernel
theorem d_W_law_154 : decode b_W_law 154 = .ok (.iaload, 1) := by decide +kernel
theorem d_W_law_155 : decode b_W_law 155 = .ok (.aload_n 3, 1) := by decide +kernel
theorem d_W_law_156 : decode b_W_law 156 = .ok (.invokestatic 84, 3) := by decide +kernel
theorem d_W_law_159 : decode b_W_law 159 = .ok (.istore 5, 2) := by decide +kernel
theorem d_W_law_161 : decode b_W_law 161 = .ok (.aload_n 2, 1) := by decide +kernel
theorem d_W_law_162 : decode b_W_law 162 = .ok (.aload_n 0, 1) := by decide +kernel
theorem d_W_law_163 : decode b_W_law 163 = .ok (.iload 4, 2) := by decide +kernel
theorem d_W_law_165 : decode b_W_law 165 = .ok (.iconst 1, 1) := by decide +kernel
theorem d_W_law_166 : decode b_W_law 166 = .ok (.iadd, 1) := by decide +kernel
theorem d_W_law_167 : decode b_W_law 167 = .ok (.iaload, 1) := by decide +kernel
theorem d_W_law_168 : decode b_W_law 168 = .ok (.aload_n 0, 1) := by decide +kernel
theorem d_W_law_169 : decode b_W_law 169 = .ok (.iload 4, 2) := by decide +kernel
theorem d_W_law_171 : decode b_W_law 171 = .ok (.iconst 2, 1) := by decide +kernel
theorem d_W_law_172 : decode b_W_law 172 = .ok (.iadd, 1) := by decide +kernel
theorem d_W_law_173 : decode b_W_law 173 = .ok (.iaload, 1) := by decide +kernel
theorem d_W_law_174 : decode b_W_law 174 = .ok (.aload_n 0, 1) := by decide +kernel
theorem d_W_law_175 : decode b_W_law 175 = .ok (.iload 4, 2) := by decide +kernel
theorem d_W_law_177 : decode b_W_law 177 = .ok (.iconst 3, 1) := by decide +kernel
theorem d_W_law_178 : decode b_W_law 178 = .ok (.iadd, 1) := by decide +kernel
theorem d_W_law_179 : decode b_W_law 179 = .ok (.iaload, 1) := by decide +kernel
theorem d_W_law_180 : decode b_W_law 180 = .ok (.invokevirtual 89, 3) := by decide +kernel
theorem d_W_law_183 : decode b_W_law 183 = .ok (.istore 6, 2) := by decide +kernel
theorem d_W_law_185 : decode b_W_law 185 = .ok (.aload_n 2, 1) := by decide +kernel
theorem d_W_law_186 : decode b_W_law 186 = .ok (.invokevirtual 90, 3) := by decide +kernel
theorem d_W_law_189 : decode b_W_law 189 = .ok (.iload 5, 2) := by decide +kernel
theorem d_W_law_191 : decode b_W_law 191 = .ok (.if_icmp .eq 5, 3) := by decide +kernel
theorem d_W_law_194 : decode b_W_law 194 = .ok (.iconst 0, 1) := by decide +kernel
theorem d_W_law_195 : decode b_W_law 195 = .ok (.ireturn, 1) := by decide +kernel
theorem d_W_law_196 : decode b_W_law 196 = .ok (.iload 5, 2) := by decide +kernel
theorem d_W_law_198 : decode b_W_law 198 = .ok (.ifCond .ne 15, 3) := by decide +kernel
theorem d_W_law_201 : decode b_W_law 201 = .ok (.aload_n 3, 1) := by decide +kernel
theorem d_W_law_202 : decode b_W_law 202 = .ok (.iconst 0, 1) := by decide +kernel
theorem d_W_law_203 : decode b_W_law 203 = .ok (.laload, 1) := by decide +kernel
theorem d_W_law_204 : decode b_W_law 204 = .ok (.iload 6, 2) := by decide +kernel
theorem d_W_law_206 : decode b_W_law 206 = .ok (.i2l, 1) := by decide +kernel
theorem d_W_law_207 : decode b_W_law 207 = .ok (.lcmp, 1) := by decide +kernel
theorem d_W_law_208 : decode b_W_law 208 = .ok (.ifCond .eq 5, 3) := by decide +kernel
theorem d_W_law_211 : decode b_W_law 211 = .ok (.iconst 0, 1) := by decide +kernel
theorem d_W_law_212 : decode b_W_law 212 = .ok (.ireturn, 1) := by decide +kernel
theorem d_W_law_213 : decode b_W_law 213 = .ok (.goto 1272, 3) := by decide +kernel
theorem d_W_law_216 : decode b_W_law 216 = .ok (.aload_n 1, 1) := by decide +kernel
theorem d_W_law_217 : decode b_W_law 217 = .ok (.aload_n 0, 1) := by decide +kernel
theorem d_W_law_218 : decode b_W_law 218 = .ok (.iload 4, 2) := by decide +kernel
theorem d_W_law_220 : decode b_W_law 220 = .ok (.iconst 1, 1) := by decide +kernel
theorem d_W_law_221 : decode b_W_law 221 = .ok (.iadd, 1) := by decide +kernel
theorem d_W_law_222 : decode b_W_law 222 = .ok (.iaload, 1) := by decide +kernel
theorem d_W_law_223 : decode b_W_law 223 = .ok (.aload_n 0, 1) := by decide +kernel
theorem d_W_law_224 : decode b_W_law 224 = .ok (.iload 4, 2) := by decide +kernel
theorem d_W_law_226 : decode b_W_law 226 = .ok (.iconst 2, 1) := by decide +kernel
theorem d_W_law_227 : decode b_W_law 227 = .ok (.iadd, 1) := by decide +kernel
theorem d_W_law_228 : decode b_W_law 228 = .ok (.iaload, 1) := by decide +kernel
theorem d_W_law_229 : decode b_W_law 229 = .ok (.invokevirtual 93, 3) := by decide +kernel
theorem d_W_law_232 : decode b_W_law 232 = .ok (.aload_n 2, 1) := by decide +kernel
theorem d_W_law_233 : decode b_W_law 233 = .ok (.aload_n 0, 1) := by decide +kernel
theorem d_W_law_234 : decode b_W_law 234 = .ok (.iload 4, 2) := by decide +kernel
theorem d_W_law_236 : decode b_W_law 236 = .ok (.iconst 1, 1) := by decide +kernel
theorem d_W_law_237 : decode b_W_law 237 = .ok (.iadd, 1) := by decide +kernel
theorem d_W_law_238 : decode b_W_law 238 = .ok (.iaload, 1) := by decide +kernel
theorem d_W_law_239 : decode b_W_law 239 = .ok (.aload_n 0, 1) := by decide +kernel
theorem d_W_law_240 : decode b_W_law 240 = .ok (.iload 4, 2) := by decide +kernel
theorem d_W_law_242 : decode b_W_law 242 = .ok (.iconst 2, 1) := by decide +kernel
theorem d_W_law_243 : decode b_W_law 243 = .ok (.iadd, 1) := by decide +kernel
theorem d_W_law_244 : decode b_W_law 244 = .ok (.iaload, 1) := by decide +kernel
theorem d_W_law_245 : decode b_W_law 245 = .ok (.invokevirtual 97, 3) := by decide +kernel
theorem d_W_law_248 : decode b_W_law 248 = .ok (.if_icmp .eq 1237, 3) := by decide +kernel
theorem d_W_law_251 : decode b_W_law 251 = .ok (.iconst 0, 1) := by decide +kernel
theorem d_W_law_252 : decode b_W_law 252 = .ok (.ireturn, 1) := by decide +kernel
theorem d_W_law_253 : decode b_W_law 253 = .ok (.aload_n 1, 1) := by decide +kernel
theorem d_W_law_254 : decode b_W_law 254 = .ok (.aload_n 3, 1) := by decide +kernel
theorem d_W_law_255 : decode b_W_law 255 = .ok (.invokestatic 98, 3) := by decide +kernel
theorem d_W_law_258 : decode b_W_law 258 = .ok (.istore 5, 2) := by decide +kernel
theorem d_W_law_260 : decode b_W_law 260 = .ok (.aload_n 2, 1) := by decide +kernel
theorem d_W_law_261 : decode b_W_law 261 = .ok (.invokevirtual 101, 3) := by decide +kernel
theorem d_W_law_264 : decode b_W_law 264 = .ok (.istore 6, 2) := by decide +kernel
theorem d_W_law_266 : decode b_W_law 266 = .ok (.aload_n 2, 1) := by decide +kernel
theorem d_W_law_267 : decode b_W_law 267 = .ok (.invokevirtual 90, 3) := by decide +kernel
theorem d_W_law_270 : decode b_W_law 270 = .ok (.iload 5, 2) := by decide +kernel
theorem d_W_law_272 : decode b_W_law 272 = .ok (.if_icmp .eq 5, 3) := by decide +kernel
theorem d_W_law_275 : decode b_W_law 275 = .ok (.iconst 0, 1) := by decide +kernel
theorem d_W_law_276 : decode b_W_law 276 = .ok (.ireturn, 1) := by decide +kernel
theorem d_W_law_277 : decode b_W_law 277 = .ok (.iload 5, 2) := by decide +kernel
theorem d_W_law_279 : decode b_W_law 279 = .ok (.ifCond .ne 15, 3) := by decide +kernel
theorem d_W_law_282 : decode b_W_law 282 = .ok (.aload_n 3, 1) := by decide +kernel
theorem d_W_law_283 : decode b_W_law 283 = .ok (.iconst 0, 1) := by decide +kernel
theorem d_W_law_284 : decode b_W_law 284 = .ok (.laload, 1) := by decide +kernel
theorem d_W_law_285 : decode b_W_law 285 = .ok (.iload 6, 2) := by decide +kernel
theorem d_W_law_287 : decode b_W_law 287 = .ok (.i2l, 1) := by decide +kernel
theorem d_W_law_288 : decode b_W_law 288 = .ok (.lcmp, 1) := by decide +kernel
theorem d_W_law_289 : decode b_W_law 289 = .ok (.ifCond .eq 5, 3) := by decide +kernel
theorem d_W_law_292 : decode b_W_law 292 = .ok (.iconst 0, 1) := by decide +kernel
theorem d_W_law_293 : decode b_W_law 293 = .ok (.ireturn, 1) := by decide +kernel
theorem d_W_law_294 : decode b_W_law 294 = .ok (.goto 1191, 3) := by decide +kernel
theorem d_W_law_297 : decode b_W_law 297 = .ok (.aload_n 1, 1) := by decide +kernel
theorem d_W_law_298 : decode b_W_law 298 = .ok (.aload_n 0, 1) := by decide +kernel
theorem d_W_law_299 : decode b_W_law 299 = .ok (.iload 4, 2) := by decide +kernel
theorem d_W_law_301 : decode b_W_law 301 = .ok (.iconst 1, 1) := by decide +kernel
theorem d_W_law_302 : decode b_W_law 302 = .ok (.iadd, 1) := by decide +kernel
theorem d_W_law_303 : decode b_W_law 303 = .ok (.iaload, 1) := by decide +kernel
theorem d_W_law_304 : decode b_W_law 304 = .ok (.aload_n 0, 1) := by decide +kernel
theorem d_W_law_305 : decode b_W_law 305 = .ok (.iload 4, 2) := by decide +kernel
theorem d_W_law_307 : decode b_W_law 307 = .ok (.iconst 2, 1) := by decide +kernel
theorem d_W_law_308 : decode b_W_law 308 = .ok (.iadd, 1) := by decide +kernel
theorem d_W_law_309 : decode b_W_law 309 = .ok (.iaload, 1) := by decide +kernel
theorem d_W_law_310 : decode b_W_law 310 = .ok (.aload_n 0, 1) := by decide +kernel
theorem d_W_law_311 : decode b_W_law 311 = .ok (.iload 4, 2) := by decide +kernel
theorem d_W_law_313 : decode b_W_law 313 = .ok (.iconst 3, 1) := by decide +kernel
theorem d_W_law_314 : decode b_W_law 314 = .ok (.iadd, 1) := by decide +kernel
theorem d_W_law_315 : decode b_W_law 315 = .ok (.iaload, 1) := by decide +kernel
theorem d_W_law_316 : decode b_W_law 316 = .ok (.invokestatic 102, 3) := by decide +kernel
theorem d_W_law_319 : decode b_W_law 319 = .ok (.istore 5, 2) := by decide +kernel
