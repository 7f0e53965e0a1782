theorem gL_law_0 : dq NM 0 (.new 7) 3 = true ∧ dq NM 3 (.dup) 1 = true ∧ dq NM 4 (.invokespecial 9) 3 = true ∧ dq NM 7 (.astore_n 1) 1 = true ∧ dq NM 8 (.new 10) 3 = true ∧ dq NM 11 (.dup) 1 = true ∧ dq NM 12 (.invokespecial 12) 3 = true ∧ dq NM 15 (.astore_n 2) 1 = true ∧ dq NM 16 (.iconst 0) 1 = true ∧ dq NM 17 (.istore_n 3) 1 = true ∧ dq NM 18 (.iload_n 3) 1 = true ∧ dq NM 19 (.aload_n 0) 1 = true ∧ dq NM 20 (.arraylength) 1 = true ∧ dq NM 21 (.bipush 6) 2 = true ∧ dq NM 23 (.isub) 1 = true ∧ dq NM 24 (.if_icmp .gt 1494) 3 = true := by decide +kernel
theorem dL_law_0 : decode (mB NM) 0 = .ok (.new 7, 3) := dqo gL_law_0.1
theorem dL_law_3 : decode (mB NM) 3 = .ok (.dup, 1) := dqo gL_law_0.2.1
theorem dL_law_4 : decode (mB NM) 4 = .ok (.invokespecial 9, 3) := dqo gL_law_0.2.2.1
theorem dL_law_7 : decode (mB NM) 7 = .ok (.astore_n 1, 1) := dqo gL_law_0.2.2.2.1
theorem dL_law_8 : decode (mB NM) 8 = .ok (.new 10, 3) := dqo gL_law_0.2.2.2.2.1
theorem dL_law_11 : decode (mB NM) 11 = .ok (.dup, 1) := dqo gL_law_0.2.2.2.2.2.1
theorem dL_law_12 : decode (mB NM) 12 = .ok (.invokespecial 12, 3) := dqo gL_law_0.2.2.2.2.2.2.1
theorem dL_law_15 : decode (mB NM) 15 = .ok (.astore_n 2, 1) := dqo gL_law_0.2.2.2.2.2.2.2.1
theorem dL_law_16 : decode (mB NM) 16 = .ok (.iconst 0, 1) := dqo gL_law_0.2.2.2.2.2.2.2.2.1
theorem dL_law_17 : decode (mB NM) 17 = .ok (.istore_n 3, 1) := dqo gL_law_0.2.2.2.2.2.2.2.2.2.1
theorem dL_law_18 : decode (mB NM) 18 = .ok (.iload_n 3, 1) := dqo gL_law_0.2.2.2.2.2.2.2.2.2.2.1
theorem dL_law_19 : decode (mB NM) 19 = .ok (.aload_n 0, 1) := dqo gL_law_0.2.2.2.2.2.2.2.2.2.2.2.1
theorem dL_law_20 : decode (mB NM) 20 = .ok (.arraylength, 1) := dqo gL_law_0.2.2.2.2.2.2.2.2.2.2.2.2.1
theorem dL_law_21 : decode (mB NM) 21 = .ok (.bipush 6, 2) := dqo gL_law_0.2.2.2.2.2.2.2.2.2.2.2.2.2.1
theorem dL_law_23 : decode (mB NM) 23 = .ok (.isub, 1) := dqo gL_law_0.2.2.2.2.2.2.2.2.2.2.2.2.2.2.1
theorem dL_law_24 : decode (mB NM) 24 = .ok (.if_icmp .gt 1494, 3) := dqo gL_law_0.2.2.2.2.2.2.2.2.2.2.2.2.2.2.2
theorem gL_law_27 : dq NM 27 (.aload_n 0) 1 = true ∧ dq NM 28 (.iload_n 3) 1 = true ∧ dq NM 29 (.iaload) 1 = true ∧ dq NM 30 (.bipush 63) 2 = true ∧ dq NM 32 (.iand) 1 = true ∧ dq NM 33 (.tableswitch 1479 0 41 #[183, 206, 239, 282, 325, 358, 381, 394, 417, 460, 503, 546, 579, 612, 625, 638, 661, 704, 737, 780, 813, 846, 859, 902, 945, 978, 1001, 1014, 1037, 1050, 1063, 1076, 1089, 1112, 1155, 1178, 1211, 1254, 1327, 1360, 1423, 1456]) 183 = true ∧ dq NM 216 (.aload_n 1) 1 = true ∧ dq NM 217 (.aload_n 0) 1 = true ∧ dq NM 218 (.iload_n 3) 1 = true ∧ dq NM 219 (.iconst 1) 1 = true ∧ dq NM 220 (.iadd) 1 = true ∧ dq NM 221 (.iaload) 1 = true ∧ dq NM 222 (.invokevirtual 13) 3 = true ∧ dq NM 225 (.pop) 1 = true ∧ dq NM 226 (.aload_n 2) 1 = true ∧ dq NM 227 (.aload_n 0) 1 = true := by decide +kernel
theorem dL_law_27 : decode (mB NM) 27 = .ok (.aload_n 0, 1) := dqo gL_law_27.1
theorem dL_law_28 : decode (mB NM) 28 = .ok (.iload_n 3, 1) := dqo gL_law_27.2.1
theorem dL_law_29 : decode (mB NM) 29 = .ok (.iaload, 1) := dqo gL_law_27.2.2.1
theorem dL_law_30 : decode (mB NM) 30 = .ok (.bipush 63, 2) := dqo gL_law_27.2.2.2.1
theorem dL_law_32 : decode (mB NM) 32 = .ok (.iand, 1) := dqo gL_law_27.2.2.2.2.1
theorem dL_law_33 : decode (mB NM) 33 = .ok (.tableswitch 1479 0 41 #[183, 206, 239, 282, 325, 358, 381, 394, 417, 460, 503, 546, 579, 612, 625, 638, 661, 704, 737, 780, 813, 846, 859, 902, 945, 978, 1001, 1014, 1037, 1050, 1063, 1076, 1089, 1112, 1155, 1178, 1211, 1254, 1327, 1360, 1423, 1456], 183) := dqo gL_law_27.2.2.2.2.2.1
theorem dL_law_216 : decode (mB NM) 216 = .ok (.aload_n 1, 1) := dqo gL_law_27.2.2.2.2.2.2.1
theorem dL_law_217 : decode (mB NM) 217 = .ok (.aload_n 0, 1) := dqo gL_law_27.2.2.2.2.2.2.2.1
theorem dL_law_218 : decode (mB NM) 218 = .ok (.iload_n 3, 1) := dqo gL_law_27.2.2.2.2.2.2.2.2.1
theorem dL_law_219 : decode (mB NM) 219 = .ok (.iconst 1, 1) := dqo gL_law_27.2.2.2.2.2.2.2.2.2.1
theorem dL_law_220 : decode (mB NM) 220 = .ok (.iadd, 1) := dqo gL_law_27.2.2.2.2.2.2.2.2.2.2.1
theorem dL_law_221 : decode (mB NM) 221 = .ok (.iaload, 1) := dqo gL_law_27.2.2.2.2.2.2.2.2.2.2.2.1
theorem dL_law_222 : decode (mB NM) 222 = .ok (.invokevirtual 13, 3) := dqo gL_law_27.2.2.2.2.2.2.2.2.2.2.2.2.1
theorem dL_law_225 : decode (mB NM) 225 = .ok (.pop, 1) := dqo gL_law_27.2.2.2.2.2.2.2.2.2.2.2.2.2.1
theorem dL_law_226 : decode (mB NM) 226 = .ok (.aload_n 2, 1) := dqo gL_law_27.2.2.2.2.2.2.2.2.2.2.2.2.2.2.1
theorem dL_law_227 : decode (mB NM) 227 = .ok (.aload_n 0, 1) := dqo gL_law_27.2.2.2.2.2.2.2.2.2.2.2.2.2.2.2
theorem gL_law_228 : dq NM 228 (.iload_n 3) 1 = true ∧ dq NM 229 (.iconst 1) 1 = true ∧ dq NM 230 (.iadd) 1 = true ∧ dq NM 231 (.iaload) 1 = true ∧ dq NM 232 (.invokevirtual 17) 3 = true ∧ dq NM 235 (.pop) 1 = true ∧ dq NM 236 (.goto 1276) 3 = true ∧ dq NM 239 (.aload_n 1) 1 = true ∧ dq NM 240 (.aload_n 0) 1 = true ∧ dq NM 241 (.iload_n 3) 1 = true ∧ dq NM 242 (.iconst 1) 1 = true ∧ dq NM 243 (.iadd) 1 = true ∧ dq NM 244 (.iaload) 1 = true ∧ dq NM 245 (.aload_n 0) 1 = true ∧ dq NM 246 (.iload_n 3) 1 = true ∧ dq NM 247 (.iconst 2) 1 = true := by decide +kernel
theorem dL_law_228 : decode (mB NM) 228 = .ok (.iload_n 3, 1) := dqo gL_law_228.1
theorem dL_law_229 : decode (mB NM) 229 = .ok (.iconst 1, 1) := dqo gL_law_228.2.1
theorem dL_law_230 : decode (mB NM) 230 = .ok (.iadd, 1) := dqo gL_law_228.2.2.1
theorem dL_law_231 : decode (mB NM) 231 = .ok (.iaload, 1) := dqo gL_law_228.2.2.2.1
theorem dL_law_232 : decode (mB NM) 232 = .ok (.invokevirtual 17, 3) := dqo gL_law_228.2.2.2.2.1
theorem dL_law_235 : decode (mB NM) 235 = .ok (.pop, 1) := dqo gL_law_228.2.2.2.2.2.1
theorem dL_law_236 : decode (mB NM) 236 = .ok (.goto 1276, 3) := dqo gL_law_228.2.2.2.2.2.2.1
theorem dL_law_239 : decode (mB NM) 239 = .ok (.aload_n 1, 1) := dqo gL_law_228.2.2.2.2.2.2.2.1
theorem dL_law_240 : decode (mB NM) 240 = .ok (.aload_n 0, 1) := dqo gL_law_228.2.2.2.2.2.2.2.2.1
theorem dL_law_241 : decode (mB NM) 241 = .ok (.iload_n 3, 1) := dqo gL_law_228.2.2.2.2.2.2.2.2.2.1
theorem dL_law_242 : decode (mB NM) 242 = .ok (.iconst 1, 1) := dqo gL_law_228.2.2.2.2.2.2.2.2.2.2.1
theorem dL_law_243 : decode (mB NM) 243 = .ok (.iadd, 1) := dqo gL_law_228.2.2.2.2.2.2.2.2.2.2.2.1
theorem dL_law_244 : decode (mB NM) 244 = .ok (.iaload, 1) := dqo gL_law_228.2.2.2.2.2.2.2.2.2.2.2.2.1
theorem dL_law_245 : decode (mB NM) 245 = .ok (.aload_n 0, 1) := dqo gL_law_228.2.2.2.2.2.2.2.2.2.2.2.2.2.1
theorem dL_law_246 : decode (mB NM) 246 = .ok (.iload_n 3, 1) := dqo gL_law_228.2.2.2.2.2.2.2.2.2.2.2.2.2.2.1
theorem dL_law_247 : decode (mB NM) 247 = .ok (.iconst 2, 1) := dqo gL_law_228.2.2.2.2.2.2.2.2.2.2.2.2.2.2.2
theorem gL_law_248 : dq NM 248 (.iadd) 1 = true ∧ dq NM 249 (.iaload) 1 = true ∧ dq NM 250 (.invokevirtual 18) 3 = true ∧ dq NM 253 (.pop) 1 = true ∧ dq NM 254 (.aload_n 2) 1 = true ∧ dq NM 255 (.aload_n 0) 1 = true ∧ dq NM 256 (.iload_n 3) 1 = true ∧ dq NM 257 (.iconst 1) 1 = true ∧ dq NM 258 (.iadd) 1 = true ∧ dq NM 259 (.iaload) 1 = true ∧ dq NM 260 (.aload_n 0) 1 = true ∧ dq NM 261 (.iload_n 3) 1 = true ∧ dq NM 262 (.iconst 2) 1 = true ∧ dq NM 263 (.iadd) 1 = true ∧ dq NM 264 (.iaload) 1 = true ∧ dq NM 265 (.invokevirtual 22) 3 = true := by decide +kernel
theorem dL_law_248 : decode (mB NM) 248 = .ok (.iadd, 1) := dqo gL_law_248.1
theorem dL_law_249 : decode (mB NM) 249 = .ok (.iaload, 1) := dqo gL_law_248.2.1
theorem dL_law_250 : decode (mB NM) 250 = .ok (.invokevirtual 18, 3) := dqo gL_law_248.2.2.1
theorem dL_law_253 : decode (mB NM) 253 = .ok (.pop, 1) := dqo gL_law_248.2.2.2.1
theorem dL_law_254 : decode (mB NM) 254 = .ok (.aload_n 2, 1) := dqo gL_law_248.2.2.2.2.1
theorem dL_law_255 : decode (mB NM) 255 = .ok (.aload_n 0, 1) := dqo gL_law_248.2.2.2.2.2.1
theorem dL_law_256 : decode (mB NM) 256 = .ok (.iload_n 3, 1) := dqo gL_law_248.2.2.2.2.2.2.1
theorem dL_law_257 : decode (mB NM) 257 = .ok (.iconst 1, 1) := dqo gL_law_248.2.2.2.2.2.2.2.1
theorem dL_law_258 : decode (mB NM) 258 = .ok (.iadd, 1) := dqo gL_law_248.2.2.2.2.2.2.2.2.1
theorem dL_law_259 : decode (mB NM) 259 = .ok (.iaload, 1) := dqo gL_law_248.2.2.2.2.2.2.2.2.2.1
theorem dL_law_260 : decode (mB NM) 260 = .ok (.aload_n 0, 1) := dqo gL_law_248.2.2.2.2.2.2.2.2.2.2.1
theorem dL_law_261 : decode (mB NM) 261 = .ok (.iload_n 3, 1) := dqo gL_law_248.2.2.2.2.2.2.2.2.2.2.2.1
theorem dL_law_262 : decode (mB NM) 262 = .ok (.iconst 2, 1) := dqo gL_law_248.2.2.2.2.2.2.2.2.2.2.2.2.1
theorem dL_law_263 : decode (mB NM) 263 = .ok (.iadd, 1) := dqo gL_law_248.2.2.2.2.2.2.2.2.2.2.2.2.2.1
theorem dL_law_264 : decode (mB NM) 264 = .ok (.iaload, 1) := dqo gL_law_248.2.2.2.2.2.2.2.2.2.2.2.2.2.2.1
theorem dL_law_265 : decode (mB NM) 265 = .ok (.invokevirtual 22, 3) := dqo gL_law_248.2.2.2.2.2.2.2.2.2.2.2.2.2.2.2
theorem gL_law_268 : dq NM 268 (.pop) 1 = true ∧ dq NM 269 (.goto 1243) 3 = true ∧ dq NM 272 (.aload_n 1) 1 = true ∧ dq NM 273 (.aload_n 0) 1 = true ∧ dq NM 274 (.iload_n 3) 1 = true ∧ dq NM 275 (.iconst 1) 1 = true ∧ dq NM 276 (.iadd) 1 = true ∧ dq NM 277 (.iaload) 1 = true ∧ dq NM 278 (.aload_n 0) 1 = true ∧ dq NM 279 (.iload_n 3) 1 = true ∧ dq NM 280 (.iconst 2) 1 = true ∧ dq NM 281 (.iadd) 1 = true ∧ dq NM 282 (.iaload) 1 = true ∧ dq NM 283 (.aload_n 0) 1 = true ∧ dq NM 284 (.iload_n 3) 1 = true ∧ dq NM 285 (.iconst 3) 1 = true := by decide +kernel
theorem dL_law_268 : decode (mB NM) 268 = .ok (.pop, 1) := dqo gL_law_268.1
theorem dL_law_269 : decode (mB NM) 269 = .ok (.goto 1243, 3) := dqo gL_law_268.2.1
theorem dL_law_272 : decode (mB NM) 272 = .ok (.aload_n 1, 1) := dqo gL_law_268.2.2.1
theorem dL_law_273 : decode (mB NM) 273 = .ok (.aload_n 0, 1) := dqo gL_law_268.2.2.2.1
theorem dL_law_274 : decode (mB NM) 274 = .ok (.iload_n 3, 1) := dqo gL_law_268.2.2.2.2.1
theorem dL_law_275 : decode (mB NM) 275 = .ok (.iconst 1, 1) := dqo gL_law_268.2.2.2.2.2.1
theorem dL_law_276 : decode (mB NM) 276 = .ok (.iadd, 1) := dqo gL_law_268.2.2.2.2.2.2.1
theorem dL_law_277 : decode (mB NM) 277 = .ok (.iaload, 1) := dqo gL_law_268.2.2.2.2.2.2.2.1
theorem dL_law_278 : decode (mB NM) 278 = .ok (.aload_n 0, 1) := dqo gL_law_268.2.2.2.2.2.2.2.2.1
theorem dL_law_279 : decode (mB NM) 279 = .ok (.iload_n 3, 1) := dqo gL_law_268.2.2.2.2.2.2.2.2.2.1
theorem dL_law_280 : decode (mB NM) 280 = .ok (.iconst 2, 1) := dqo gL_law_268.2.2.2.2.2.2.2.2.2.2.1
theorem dL_law_281 : decode (mB NM) 281 = .ok (.iadd, 1) := dqo gL_law_268.2.2.2.2.2.2.2.2.2.2.2.1
theorem dL_law_282 : decode (mB NM) 282 = .ok (.iaload, 1) := dqo gL_law_268.2.2.2.2.2.2.2.2.2.2.2.2.1
theorem dL_law_283 : decode (mB NM) 283 = .ok (.aload_n 0, 1) := dqo gL_law_268.2.2.2.2.2.2.2.2.2.2.2.2.2.1
theorem dL_law_284 : decode (mB NM) 284 = .ok (.iload_n 3, 1) := dqo gL_law_268.2.2.2.2.2.2.2.2.2.2.2.2.2.2.1
theorem dL_law_285 : decode (mB NM) 285 = .ok (.iconst 3, 1) := dqo gL_law_268.2.2.2.2.2.2.2.2.2.2.2.2.2.2.2
theorem gL_law_286 : dq NM 286 (.iadd) 1 = true ∧ dq NM 287 (.iaload) 1 = true ∧ dq NM 288 (.invokevirtual 23) 3 = true ∧ dq NM 291 (.pop) 1 = true ∧ dq NM 292 (.aload_n 2) 1 = true ∧ dq NM 293 (.aload_n 0) 1 = true ∧ dq NM 294 (.iload_n 3) 1 = true ∧ dq NM 295 (.iconst 1) 1 = true ∧ dq NM 296 (.iadd) 1 = true ∧ dq NM 297 (.iaload) 1 = true ∧ dq NM 298 (.aload_n 0) 1 = true ∧ dq NM 299 (.iload_n 3) 1 = true ∧ dq NM 300 (.iconst 2) 1 = true ∧ dq NM 301 (.iadd) 1 = true ∧ dq NM 302 (.iaload) 1 = true ∧ dq NM 303 (.aload_n 0) 1 = true := by decide +kernel
theorem dL_law_286 : decode (mB NM) 286 = .ok (.iadd, 1) := dqo gL_law_286.1
theorem dL_law_287 : decode (mB NM) 287 = .ok (.iaload, 1) := dqo gL_law_286.2.1
theorem dL_law_288 : decode (mB NM) 288 = .ok (.invokevirtual 23, 3) := dqo gL_law_286.2.2.1
theorem dL_law_291 : decode (mB NM) 291 = .ok (.pop, 1) := dqo gL_law_286.2.2.2.1
theorem dL_law_292 : decode (mB NM) 292 = .ok (.aload_n 2, 1) := dqo gL_law_286.2.2.2.2.1
theorem dL_law_293 : decode (mB NM) 293 = .ok (.aload_n 0, 1) := dqo gL_law_286.2.2.2.2.2.1
theorem dL_law_294 : decode (mB NM) 294 = .ok (.iload_n 3, 1) := dqo gL_law_286.2.2.2.2.2.2.1
theorem dL_law_295 : decode (mB NM) 295 = .ok (.iconst 1, 1) := dqo gL_law_286.2.2.2.2.2.2.2.1
theorem dL_law_296 : decode (mB NM) 296 = .ok (.iadd, 1) := dqo gL_law_286.2.2.2.2.2.2.2.2.1
theorem dL_law_297 : decode (mB NM) 297 = .ok (.iaload, 1) := dqo gL_law_286.2.2.2.2.2.2.2.2.2.1
theorem dL_law_298 : decode (mB NM) 298 = .ok (.aload_n 0, 1) := dqo gL_law_286.2.2.2.2.2.2.2.2.2.2.1
theorem dL_law_299 : decode (mB NM) 299 = .ok (.iload_n 3, 1) := dqo gL_law_286.2.2.2.2.2.2.2.2.2.2.2.1
theorem dL_law_300 : decode (mB NM) 300 = .ok (.iconst 2, 1) := dqo gL_law_286.2.2.2.2.2.2.2.2.2.2.2.2.1
theorem dL_law_301 : decode (mB NM) 301 = .ok (.iadd, 1) := dqo gL_law_286.2.2.2.2.2.2.2.2.2.2.2.2.2.1
theorem dL_law_302 : decode (mB NM) 302 = .ok (.iaload, 1) := dqo gL_law_286.2.2.2.2.2.2.2.2.2.2.2.2.2.2.1
theorem dL_law_303 : decode (mB NM) 303 = .ok (.aload_n 0, 1) := dqo gL_law_286.2.2.2.2.2.2.2.2.2.2.2.2.2.2.2
theorem gL_law_304 : dq NM 304 (.iload_n 3) 1 = true ∧ dq NM 305 (.iconst 3) 1 = true ∧ dq NM 306 (.iadd) 1 = true ∧ dq NM 307 (.iaload) 1 = true ∧ dq NM 308 (.invokevirtual 27) 3 = true ∧ dq NM 311 (.pop) 1 = true ∧ dq NM 312 (.goto 1200) 3 = true ∧ dq NM 315 (.aload_n 1) 1 = true ∧ dq NM 316 (.aload_n 0) 1 = true ∧ dq NM 317 (.iload_n 3) 1 = true ∧ dq NM 318 (.iconst 1) 1 = true ∧ dq NM 319 (.iadd) 1 = true ∧ dq NM 320 (.iaload) 1 = true ∧ dq NM 321 (.aload_n 0) 1 = true ∧ dq NM 322 (.iload_n 3) 1 = true ∧ dq NM 323 (.iconst 2) 1 = true := by decide +kernel
theorem dL_law_304 : decode (mB NM) 304 = .ok (.iload_n 3, 1) := dqo gL_law_304.1
theorem dL_law_305 : decode (mB NM) 305 = .ok (.iconst 3, 1) := dqo gL_law_304.2.1
theorem dL_law_306 : decode (mB NM) 306 = .ok (.iadd, 1) := dqo gL_law_304.2.2.1
theorem dL_law_307 : decode (mB NM) 307 = .ok (.iaload, 1) := dqo gL_law_304.2.2.2.1
theorem dL_law_308 : decode (mB NM) 308 = .ok (.invokevirtual 27, 3) := dqo gL_law_304.2.2.2.2.1
theorem dL_law_311 : decode (mB NM) 311 = .ok (.pop, 1) := dqo gL_law_304.2.2.2.2.2.1
theorem dL_law_312 : decode (mB NM) 312 = .ok (.goto 1200, 3) := dqo gL_law_304.2.2.2.2.2.2.1
theorem dL_law_315 : decode (mB NM) 315 = .ok (.aload_n 1, 1) := dqo gL_law_304.2.2.2.2.2.2.2.1
theorem dL_law_316 : decode (mB NM) 316 = .ok (.aload_n 0, 1) := dqo gL_law_304.2.2.2.2.2.2.2.2.1
theorem dL_law_317 : decode (mB NM) 317 = .ok (.iload_n 3, 1) := dqo gL_law_304.2.2.2.2.2.2.2.2.2.1
theorem dL_law_318 : decode (mB NM) 318 = .ok (.iconst 1, 1) := dqo gL_law_304.2.2.2.2.2.2.2.2.2.2.1
theorem dL_law_319 : decode (mB NM) 319 = .ok (.iadd, 1) := dqo gL_law_304.2.2.2.2.2.2.2.2.2.2.2.1
theorem dL_law_320 : decode (mB NM) 320 = .ok (.iaload, 1) := dqo gL_law_304.2.2.2.2.2.2.2.2.2.2.2.2.1
theorem dL_law_321 : decode (mB NM) 321 = .ok (.aload_n 0, 1) := dqo gL_law_304.2.2.2.2.2.2.2.2.2.2.2.2.2.1
theorem dL_law_322 : decode (mB NM) 322 = .ok (.iload_n 3, 1) := dqo gL_law_304.2.2.2.2.2.2.2.2.2.2.2.2.2.2.1
theorem dL_law_323 : decode (mB NM) 323 = .ok (.iconst 2, 1) := dqo gL_law_304.2.2.2.2.2.2.2.2.2.2.2.2.2.2.2
theorem gL_law_324 : dq NM 324 (.iadd) 1 = true ∧ dq NM 325 (.iaload) 1 = true ∧ dq NM 326 (.aload_n 0) 1 = true ∧ dq NM 327 (.iload_n 3) 1 = true ∧ dq NM 328 (.iconst 3) 1 = true ∧ dq NM 329 (.iadd) 1 = true ∧ dq NM 330 (.iaload) 1 = true ∧ dq NM 331 (.invokevirtual 28) 3 = true ∧ dq NM 334 (.pop) 1 = true ∧ dq NM 335 (.aload_n 2) 1 = true ∧ dq NM 336 (.aload_n 0) 1 = true ∧ dq NM 337 (.iload_n 3) 1 = true ∧ dq NM 338 (.iconst 1) 1 = true ∧ dq NM 339 (.iadd) 1 = true ∧ dq NM 340 (.iaload) 1 = true ∧ dq NM 341 (.aload_n 0) 1 = true := by decide +kernel
theorem dL_law_324 : decode (mB NM) 324 = .ok (.iadd, 1) := dqo gL_law_324.1
theorem dL_law_325 : decode (mB NM) 325 = .ok (.iaload, 1) := dqo gL_law_324.2.1
theorem dL_law_326 : decode (mB NM) 326 = .ok (.aload_n 0, 1) := dqo gL_law_324.2.2.1
theorem dL_law_327 : decode (mB NM) 327 = .ok (.iload_n 3, 1) := dqo gL_law_324.2.2.2.1
theorem dL_law_328 : decode (mB NM) 328 = .ok (.iconst 3, 1) := dqo gL_law_324.2.2.2.2.1
theorem dL_law_329 : decode (mB NM) 329 = .ok (.iadd, 1) := dqo gL_law_324.2.2.2.2.2.1
theorem dL_law_330 : decode (mB NM) 330 = .ok (.iaload, 1) := dqo gL_law_324.2.2.2.2.2.2.1
theorem dL_law_331 : decode (mB NM) 331 = .ok (.invokevirtual 28, 3) := dqo gL_law_324.2.2.2.2.2.2.2.1
theorem dL_law_334 : decode (mB NM) 334 = .ok (.pop, 1) := dqo gL_law_324.2.2.2.2.2.2.2.2.1
theorem dL_law_335 : decode (mB NM) 335 = .ok (.aload_n 2, 1) := dqo gL_law_324.2.2.2.2.2.2.2.2.2.1
theorem dL_law_336 : decode (mB NM) 336 = .ok (.aload_n 0, 1) := dqo gL_law_324.2.2.2.2.2.2.2.2.2.2.1
theorem dL_law_337 : decode (mB NM) 337 = .ok (.iload_n 3, 1) := dqo gL_law_324.2.2.2.2.2.2.2.2.2.2.2.1
theorem dL_law_338 : decode (mB NM) 338 = .ok (.iconst 1, 1) := dqo gL_law_324.2.2.2.2.2.2.2.2.2.2.2.2.1
theorem dL_law_339 : decode (mB NM) 339 = .ok (.iadd, 1) := dqo gL_law_324.2.2.2.2.2.2.2.2.2.2.2.2.2.1
theorem dL_law_340 : decode (mB NM) 340 = .ok (.iaload, 1) := dqo gL_law_324.2.2.2.2.2.2.2.2.2.2.2.2.2.2.1
theorem dL_law_341 : decode (mB NM) 341 = .ok (.aload_n 0, 1) := dqo gL_law_324.2.2.2.2.2.2.2.2.2.2.2.2.2.2.2
theorem gL_law_342 : dq NM 342 (.iload_n 3) 1 = true ∧ dq NM 343 (.iconst 2) 1 = true ∧ dq NM 344 (.iadd) 1 = true ∧ dq NM 345 (.iaload) 1 = true ∧ dq NM 346 (.aload_n 0) 1 = true ∧ dq NM 347 (.iload_n 3) 1 = true ∧ dq NM 348 (.iconst 3) 1 = true ∧ dq NM 349 (.iadd) 1 = true ∧ dq NM 350 (.iaload) 1 = true ∧ dq NM 351 (.invokevirtual 31) 3 = true ∧ dq NM 354 (.pop) 1 = true ∧ dq NM 355 (.goto 1157) 3 = true ∧ dq NM 358 (.aload_n 1) 1 = true ∧ dq NM 359 (.aload_n 0) 1 = true ∧ dq NM 360 (.iload_n 3) 1 = true ∧ dq NM 361 (.iconst 1) 1 = true := by decide +kernel
theorem dL_law_342 : decode (mB NM) 342 = .ok (.iload_n 3, 1) := dqo gL_law_342.1
theorem dL_law_343 : decode (mB NM) 343 = .ok (.iconst 2, 1) := dqo gL_law_342.2.1
theorem dL_law_344 : decode (mB NM) 344 = .ok (.iadd, 1) := dqo gL_law_342.2.2.1
theorem dL_law_345 : decode (mB NM) 345 = .ok (.iaload, 1) := dqo gL_law_342.2.2.2.1
theorem dL_law_346 : decode (mB NM) 346 = .ok (.aload_n 0, 1) := dqo gL_law_342.2.2.2.2.1
theorem dL_law_347 : decode (mB NM) 347 = .ok (.iload_n 3, 1) := dqo gL_law_342.2.2.2.2.2.1
theorem dL_law_348 : decode (mB NM) 348 = .ok (.iconst 3, 1) := dqo gL_law_342.2.2.2.2.2.2.1
theorem dL_law_349 : decode (mB NM) 349 = .ok (.iadd, 1) := dqo gL_law_342.2.2.2.2.2.2.2.1
theorem dL_law_350 : decode (mB NM) 350 = .ok (.iaload, 1) := dqo gL_law_342.2.2.2.2.2.2.2.2.1
theorem dL_law_351 : decode (mB NM) 351 = .ok (.invokevirtual 31, 3) := dqo gL_law_342.2.2.2.2.2.2.2.2.2.1
theorem dL_law_354 : decode (mB NM) 354 = .ok (.pop, 1) := dqo gL_law_342.2.2.2.2.2.2.2.2.2.2.1
theorem dL_law_355 : decode (mB NM) 355 = .ok (.goto 1157, 3) := dqo gL_law_342.2.2.2.2.2.2.2.2.2.2.2.1
theorem dL_law_358 : decode (mB NM) 358 = .ok (.aload_n 1, 1) := dqo gL_law_342.2.2.2.2.2.2.2.2.2.2.2.2.1
theorem dL_law_359 : decode (mB NM) 359 = .ok (.aload_n 0, 1) := dqo gL_law_342.2.2.2.2.2.2.2.2.2.2.2.2.2.1
theorem dL_law_360 : decode (mB NM) 360 = .ok (.iload_n 3, 1) := dqo gL_law_342.2.2.2.2.2.2.2.2.2.2.2.2.2.2.1
theorem dL_law_361 : decode (mB NM) 361 = .ok (.iconst 1, 1) := dqo gL_law_342.2.2.2.2.2.2.2.2.2.2.2.2.2.2.2
theorem gL_law_362 : dq NM 362 (.iadd) 1 = true ∧ dq NM 363 (.iaload) 1 = true ∧ dq NM 364 (.aload_n 0) 1 = true ∧ dq NM 365 (.iload_n 3) 1 = true ∧ dq NM 366 (.iconst 2) 1 = true ∧ dq NM 367 (.iadd) 1 = true ∧ dq NM 368 (.iaload) 1 = true ∧ dq NM 369 (.invokevirtual 32) 3 = true ∧ dq NM 372 (.pop) 1 = true ∧ dq NM 373 (.aload_n 2) 1 = true ∧ dq NM 374 (.aload_n 0) 1 = true ∧ dq NM 375 (.iload_n 3) 1 = true ∧ dq NM 376 (.iconst 1) 1 = true ∧ dq NM 377 (.iadd) 1 = true ∧ dq NM 378 (.iaload) 1 = true ∧ dq NM 379 (.aload_n 0) 1 = true := by decide +kernel
theorem dL_law_362 : decode (mB NM) 362 = .ok (.iadd, 1) := dqo gL_law_362.1
theorem dL_law_363 : decode (mB NM) 363 = .ok (.iaload, 1) := dqo gL_law_362.2.1
theorem dL_law_364 : decode (mB NM) 364 = .ok (.aload_n 0, 1) := dqo gL_law_362.2.2.1
theorem dL_law_365 : decode (mB NM) 365 = .ok (.iload_n 3, 1) := dqo gL_law_362.2.2.2.1
theorem dL_law_366 : decode (mB NM) 366 = .ok (.iconst 2, 1) := dqo gL_law_362.2.2.2.2.1
theorem dL_law_367 : decode (mB NM) 367 = .ok (.iadd, 1) := dqo gL_law_362.2.2.2.2.2.1
theorem dL_law_368 : decode (mB NM) 368 = .ok (.iaload, 1) := dqo gL_law_362.2.2.2.2.2.2.1
theorem dL_law_369 : decode (mB NM) 369 = .ok (.invokevirtual 32, 3) := dqo gL_law_362.2.2.2.2.2.2.2.1
theorem dL_law_372 : decode (mB NM) 372 = .ok (.pop, 1) := dqo gL_law_362.2.2.2.2.2.2.2.2.1
theorem dL_law_373 : decode (mB NM) 373 = .ok (.aload_n 2, 1) := dqo gL_law_362.2.2.2.2.2.2.2.2.2.1
theorem dL_law_374 : decode (mB NM) 374 = .ok (.aload_n 0, 1) := dqo gL_law_362.2.2.2.2.2.2.2.2.2.2.1
theorem dL_law_375 : decode (mB NM) 375 = .ok (.iload_n 3, 1) := dqo gL_law_362.2.2.2.2.2.2.2.2.2.2.2.1
theorem dL_law_376 : decode (mB NM) 376 = .ok (.iconst 1, 1) := dqo gL_law_362.2.2.2.2.2.2.2.2.2.2.2.2.1
theorem dL_law_377 : decode (mB NM) 377 = .ok (.iadd, 1) := dqo gL_law_362.2.2.2.2.2.2.2.2.2.2.2.2.2.1
theorem dL_law_378 : decode (mB NM) 378 = .ok (.iaload, 1) := dqo gL_law_362.2.2.2.2.2.2.2.2.2.2.2.2.2.2.1
theorem dL_law_379 : decode (mB NM) 379 = .ok (.aload_n 0, 1) := dqo gL_law_362.2.2.2.2.2.2.2.2.2.2.2.2.2.2.2
theorem gL_law_380 : dq NM 380 (.iload_n 3) 1 = true ∧ dq NM 381 (.iconst 2) 1 = true ∧ dq NM 382 (.iadd) 1 = true ∧ dq NM 383 (.iaload) 1 = true ∧ dq NM 384 (.invokevirtual 35) 3 = true ∧ dq NM 387 (.pop) 1 = true ∧ dq NM 388 (.goto 1124) 3 = true ∧ dq NM 391 (.aload_n 1) 1 = true ∧ dq NM 392 (.aload_n 0) 1 = true ∧ dq NM 393 (.iload_n 3) 1 = true ∧ dq NM 394 (.iconst 1) 1 = true ∧ dq NM 395 (.iadd) 1 = true ∧ dq NM 396 (.iaload) 1 = true ∧ dq NM 397 (.invokevirtual 36) 3 = true ∧ dq NM 400 (.pop) 1 = true ∧ dq NM 401 (.aload_n 2) 1 = true := by decide +kernel
theorem dL_law_380 : decode (mB NM) 380 = .ok (.iload_n 3, 1) := dqo gL_law_380.1
theorem dL_law_381 : decode (mB NM) 381 = .ok (.iconst 2, 1) := dqo gL_law_380.2.1
theorem dL_law_382 : decode (mB NM) 382 = .ok (.iadd, 1) := dqo gL_law_380.2.2.1
theorem dL_law_383 : decode (mB NM) 383 = .ok (.iaload, 1) := dqo gL_law_380.2.2.2.1
theorem dL_law_384 : decode (mB NM) 384 = .ok (.invokevirtual 35, 3) := dqo gL_law_380.2.2.2.2.1
theorem dL_law_387 : decode (mB NM) 387 = .ok (.pop, 1) := dqo gL_law_380.2.2.2.2.2.1
theorem dL_law_388 : decode (mB NM) 388 = .ok (.goto 1124, 3) := dqo gL_law_380.2.2.2.2.2.2.1
theorem dL_law_391 : decode (mB NM) 391 = .ok (.aload_n 1, 1) := dqo gL_law_380.2.2.2.2.2.2.2.1
theorem dL_law_392 : decode (mB NM) 392 = .ok (.aload_n 0, 1) := dqo gL_law_380.2.2.2.2.2.2.2.2.1
theorem dL_law_393 : decode (mB NM) 393 = .ok (.iload_n 3, 1) := dqo gL_law_380.2.2.2.2.2.2.2.2.2.1
theorem dL_law_394 : decode (mB NM) 394 = .ok (.iconst 1, 1) := dqo gL_law_380.2.2.2.2.2.2.2.2.2.2.1
theorem dL_law_395 : decode (mB NM) 395 = .ok (.iadd, 1) := dqo gL_law_380.2.2.2.2.2.2.2.2.2.2.2.1
theorem dL_law_396 : decode (mB NM) 396 = .ok (.iaload, 1) := dqo gL_law_380.2.2.2.2.2.2.2.2.2.2.2.2.1
theorem dL_law_397 : decode (mB NM) 397 = .ok (.invokevirtual 36, 3) := dqo gL_law_380.2.2.2.2.2.2.2.2.2.2.2.2.2.1
theorem dL_law_400 : decode (mB NM) 400 = .ok (.pop, 1) := dqo gL_law_380.2.2.2.2.2.2.2.2.2.2.2.2.2.2.1
theorem dL_law_401 : decode (mB NM) 401 = .ok (.aload_n 2, 1) := dqo gL_law_380.2.2.2.2.2.2.2.2.2.2.2.2.2.2.2
theorem gL_law_402 : dq NM 402 (.aload_n 0) 1 = true ∧ dq NM 403 (.iload_n 3) 1 = true ∧ dq NM 404 (.iconst 1) 1 = true ∧ dq NM 405 (.iadd) 1 = true ∧ dq NM 406 (.iaload) 1 = true ∧ dq NM 407 (.invokevirtual 39) 3 = true ∧ dq NM 410 (.pop) 1 = true ∧ dq NM 411 (.goto 1101) 3 = true ∧ dq NM 414 (.aload_n 1) 1 = true ∧ dq NM 415 (.invokevirtual 40) 3 = true ∧ dq NM 418 (.pop) 1 = true ∧ dq NM 419 (.aload_n 2) 1 = true ∧ dq NM 420 (.invokevirtual 44) 3 = true ∧ dq NM 423 (.pop) 1 = true ∧ dq NM 424 (.goto 1088) 3 = true ∧ dq NM 427 (.aload_n 1) 1 = true := by decide +kernel
theorem dL_law_402 : decode (mB NM) 402 = .ok (.aload_n 0, 1) := dqo gL_law_402.1
theorem dL_law_403 : decode (mB NM) 403 = .ok (.iload_n 3, 1) := dqo gL_law_402.2.1
theorem dL_law_404 : decode (mB NM) 404 = .ok (.iconst 1, 1) := dqo gL_law_402.2.2.1
theorem dL_law_405 : decode (mB NM) 405 = .ok (.iadd, 1) := dqo gL_law_402.2.2.2.1
theorem dL_law_406 : decode (mB NM) 406 = .ok (.iaload, 1) := dqo gL_law_402.2.2.2.2.1
theorem dL_law_407 : decode (mB NM) 407 = .ok (.invokevirtual 39, 3) := dqo gL_law_402.2.2.2.2.2.1
theorem dL_law_410 : decode (mB NM) 410 = .ok (.pop, 1) := dqo gL_law_402.2.2.2.2.2.2.1
theorem dL_law_411 : decode (mB NM) 411 = .ok (.goto 1101, 3) := dqo gL_law_402.2.2.2.2.2.2.2.1
theorem dL_law_414 : decode (mB NM) 414 = .ok (.aload_n 1, 1) := dqo gL_law_402.2.2.2.2.2.2.2.2.1
theorem dL_law_415 : decode (mB NM) 415 = .ok (.invokevirtual 40, 3) := dqo gL_law_402.2.2.2.2.2.2.2.2.2.1
theorem dL_law_418 : decode (mB NM) 418 = .ok (.pop, 1) := dqo gL_law_402.2.2.2.2.2.2.2.2.2.2.1
theorem dL_law_419 : decode (mB NM) 419 = .ok (.aload_n 2, 1) := dqo gL_law_402.2.2.2.2.2.2.2.2.2.2.2.1
theorem dL_law_420 : decode (mB NM) 420 = .ok (.invokevirtual 44, 3) := dqo gL_law_402.2.2.2.2.2.2.2.2.2.2.2.2.1
theorem dL_law_423 : decode (mB NM) 423 = .ok (.pop, 1) := dqo gL_law_402.2.2.2.2.2.2.2.2.2.2.2.2.2.1
theorem dL_law_424 : decode (mB NM) 424 = .ok (.goto 1088, 3) := dqo gL_law_402.2.2.2.2.2.2.2.2.2.2.2.2.2.2.1
theorem dL_law_427 : decode (mB NM) 427 = .ok (.aload_n 1, 1) := dqo gL_law_402.2.2.2.2.2.2.2.2.2.2.2.2.2.2.2
theorem gL_law_428 : dq NM 428 (.aload_n 0) 1 = true ∧ dq NM 429 (.iload_n 3) 1 = true ∧ dq NM 430 (.iconst 1) 1 = true ∧ dq NM 431 (.iadd) 1 = true ∧ dq NM 432 (.iaload) 1 = true ∧ dq NM 433 (.invokevirtual 45) 3 = true ∧ dq NM 436 (.pop) 1 = true ∧ dq NM 437 (.aload_n 2) 1 = true ∧ dq NM 438 (.aload_n 0) 1 = true ∧ dq NM 439 (.iload_n 3) 1 = true ∧ dq NM 440 (.iconst 1) 1 = true ∧ dq NM 441 (.iadd) 1 = true ∧ dq NM 442 (.iaload) 1 = true ∧ dq NM 443 (.invokevirtual 48) 3 = true ∧ dq NM 446 (.pop) 1 = true ∧ dq NM 447 (.goto 1065) 3 = true := by decide +kernel
theorem dL_law_428 : decode (mB NM) 428 = .ok (.aload_n 0, 1) := dqo gL_law_428.1
theorem dL_law_429 : decode (mB NM) 429 = .ok (.iload_n 3, 1) := dqo gL_law_428.2.1
theorem dL_law_430 : decode (mB NM) 430 = .ok (.iconst 1, 1) := dqo gL_law_428.2.2.1
theorem dL_law_431 : decode (mB NM) 431 = .ok (.iadd, 1) := dqo gL_law_428.2.2.2.1
theorem dL_law_432 : decode (mB NM) 432 = .ok (.iaload, 1) := dqo gL_law_428.2.2.2.2.1
theorem dL_law_433 : decode (mB NM) 433 = .ok (.invokevirtual 45, 3) := dqo gL_law_428.2.2.2.2.2.1
theorem dL_law_436 : decode (mB NM) 436 = .ok (.pop, 1) := dqo gL_law_428.2.2.2.2.2.2.1
theorem dL_law_437 : decode (mB NM) 437 = .ok (.aload_n 2, 1) := dqo gL_law_428.2.2.2.2.2.2.2.1
theorem dL_law_438 : decode (mB NM) 438 = .ok (.aload_n 0, 1) := dqo gL_law_428.2.2.2.2.2.2.2.2.1
theorem dL_law_439 : decode (mB NM) 439 = .ok (.iload_n 3, 1) := dqo gL_law_428.2.2.2.2.2.2.2.2.2.1
theorem dL_law_440 : decode (mB NM) 440 = .ok (.iconst 1, 1) := dqo gL_law_428.2.2.2.2.2.2.2.2.2.2.1
theorem dL_law_441 : decode (mB NM) 441 = .ok (.iadd, 1) := dqo gL_law_428.2.2.2.2.2.2.2.2.2.2.2.1
theorem dL_law_442 : decode (mB NM) 442 = .ok (.iaload, 1) := dqo gL_law_428.2.2.2.2.2.2.2.2.2.2.2.2.1
theorem dL_law_443 : decode (mB NM) 443 = .ok (.invokevirtual 48, 3) := dqo gL_law_428.2.2.2.2.2.2.2.2.2.2.2.2.2.1
theorem dL_law_446 : decode (mB NM) 446 = .ok (.pop, 1) := dqo gL_law_428.2.2.2.2.2.2.2.2.2.2.2.2.2.2.1
theorem dL_law_447 : decode (mB NM) 447 = .ok (.goto 1065, 3) := dqo gL_law_428.2.2.2.2.2.2.2.2.2.2.2.2.2.2.2
theorem gL_law_450 : dq NM 450 (.aload_n 1) 1 = true ∧ dq NM 451 (.aload_n 0) 1 = true ∧ dq NM 452 (.iload_n 3) 1 = true ∧ dq NM 453 (.iconst 1) 1 = true ∧ dq NM 454 (.iadd) 1 = true ∧ dq NM 455 (.iaload) 1 = true ∧ dq NM 456 (.aload_n 0) 1 = true ∧ dq NM 457 (.iload_n 3) 1 = true ∧ dq NM 458 (.iconst 2) 1 = true ∧ dq NM 459 (.iadd) 1 = true ∧ dq NM 460 (.iaload) 1 = true ∧ dq NM 461 (.aload_n 0) 1 = true ∧ dq NM 462 (.iload_n 3) 1 = true ∧ dq NM 463 (.iconst 3) 1 = true ∧ dq NM 464 (.iadd) 1 = true ∧ dq NM 465 (.iaload) 1 = true := by decide +kernel
theorem dL_law_450 : decode (mB NM) 450 = .ok (.aload_n 1, 1) := dqo gL_law_450.1
theorem dL_law_451 : decode (mB NM) 451 = .ok (.aload_n 0, 1) := dqo gL_law_450.2.1
theorem dL_law_452 : decode (mB NM) 452 = .ok (.iload_n 3, 1) := dqo gL_law_450.2.2.1
theorem dL_law_453 : decode (mB NM) 453 = .ok (.iconst 1, 1) := dqo gL_law_450.2.2.2.1
theorem dL_law_454 : decode (mB NM) 454 = .ok (.iadd, 1) := dqo gL_law_450.2.2.2.2.1
theorem dL_law_455 : decode (mB NM) 455 = .ok (.iaload, 1) := dqo gL_law_450.2.2.2.2.2.1
theorem dL_law_456 : decode (mB NM) 456 = .ok (.aload_n 0, 1) := dqo gL_law_450.2.2.2.2.2.2.1
theorem dL_law_457 : decode (mB NM) 457 = .ok (.iload_n 3, 1) := dqo gL_law_450.2.2.2.2.2.2.2.1
theorem dL_law_458 : decode (mB NM) 458 = .ok (.iconst 2, 1) := dqo gL_law_450.2.2.2.2.2.2.2.2.1
theorem dL_law_459 : decode (mB NM) 459 = .ok (.iadd, 1) := dqo gL_law_450.2.2.2.2.2.2.2.2.2.1
theorem dL_law_460 : decode (mB NM) 460 = .ok (.iaload, 1) := dqo gL_law_450.2.2.2.2.2.2.2.2.2.2.1
theorem dL_law_461 : decode (mB NM) 461 = .ok (.aload_n 0, 1) := dqo gL_law_450.2.2.2.2.2.2.2.2.2.2.2.1
theorem dL_law_462 : decode (mB NM) 462 = .ok (.iload_n 3, 1) := dqo gL_law_450.2.2.2.2.2.2.2.2.2.2.2.2.1
theorem dL_law_463 : decode (mB NM) 463 = .ok (.iconst 3, 1) := dqo gL_law_450.2.2.2.2.2.2.2.2.2.2.2.2.2.1
theorem dL_law_464 : decode (mB NM) 464 = .ok (.iadd, 1) := dqo gL_law_450.2.2.2.2.2.2.2.2.2.2.2.2.2.2.1
theorem dL_law_465 : decode (mB NM) 465 = .ok (.iaload, 1) := dqo gL_law_450.2.2.2.2.2.2.2.2.2.2.2.2.2.2.2
theorem gL_law_466 : dq NM 466 (.invokevirtual 49) 3 = true ∧ dq NM 469 (.pop) 1 = true ∧ dq NM 470 (.aload_n 2) 1 = true ∧ dq NM 471 (.aload_n 0) 1 = true ∧ dq NM 472 (.iload_n 3) 1 = true ∧ dq NM 473 (.iconst 1) 1 = true ∧ dq NM 474 (.iadd) 1 = true ∧ dq NM 475 (.iaload) 1 = true ∧ dq NM 476 (.aload_n 0) 1 = true ∧ dq NM 477 (.iload_n 3) 1 = true ∧ dq NM 478 (.iconst 2) 1 = true ∧ dq NM 479 (.iadd) 1 = true ∧ dq NM 480 (.iaload) 1 = true ∧ dq NM 481 (.aload_n 0) 1 = true ∧ dq NM 482 (.iload_n 3) 1 = true ∧ dq NM 483 (.iconst 3) 1 = true := by decide +kernel
theorem dL_law_466 : decode (mB NM) 466 = .ok (.invokevirtual 49, 3) := dqo gL_law_466.1
theorem dL_law_469 : decode (mB NM) 469 = .ok (.pop, 1) := dqo gL_law_466.2.1
theorem dL_law_470 : decode (mB NM) 470 = .ok (.aload_n 2, 1) := dqo gL_law_466.2.2.1
theorem dL_law_471 : decode (mB NM) 471 = .ok (.aload_n 0, 1) := dqo gL_law_466.2.2.2.1
theorem dL_law_472 : decode (mB NM) 472 = .ok (.iload_n 3, 1) := dqo gL_law_466.2.2.2.2.1
theorem dL_law_473 : decode (mB NM) 473 = .ok (.iconst 1, 1) := dqo gL_law_466.2.2.2.2.2.1
theorem dL_law_474 : decode (mB NM) 474 = .ok (.iadd, 1) := dqo gL_law_466.2.2.2.2.2.2.1
theorem dL_law_475 : decode (mB NM) 475 = .ok (.iaload, 1) := dqo gL_law_466.2.2.2.2.2.2.2.1
theorem dL_law_476 : decode (mB NM) 476 = .ok (.aload_n 0, 1) := dqo gL_law_466.2.2.2.2.2.2.2.2.1
theorem dL_law_477 : decode (mB NM) 477 = .ok (.iload_n 3, 1) := dqo gL_law_466.2.2.2.2.2.2.2.2.2.1
theorem dL_law_478 : decode (mB NM) 478 = .ok (.iconst 2, 1) := dqo gL_law_466.2.2.2.2.2.2.2.2.2.2.1
theorem dL_law_479 : decode (mB NM) 479 = .ok (.iadd, 1) := dqo gL_law_466.2.2.2.2.2.2.2.2.2.2.2.1
theorem dL_law_480 : decode (mB NM) 480 = .ok (.iaload, 1) := dqo gL_law_466.2.2.2.2.2.2.2.2.2.2.2.2.1
theorem dL_law_481 : decode (mB NM) 481 = .ok (.aload_n 0, 1) := dqo gL_law_466.2.2.2.2.2.2.2.2.2.2.2.2.2.1
theorem dL_law_482 : decode (mB NM) 482 = .ok (.iload_n 3, 1) := dqo gL_law_466.2.2.2.2.2.2.2.2.2.2.2.2.2.2.1
theorem dL_law_483 : decode (mB NM) 483 = .ok (.iconst 3, 1) := dqo gL_law_466.2.2.2.2.2.2.2.2.2.2.2.2.2.2.2
theorem gL_law_484 : dq NM 484 (.iadd) 1 = true ∧ dq NM 485 (.iaload) 1 = true ∧ dq NM 486 (.invokevirtual 52) 3 = true ∧ dq NM 489 (.pop) 1 = true ∧ dq NM 490 (.goto 1022) 3 = true ∧ dq NM 493 (.aload_n 1) 1 = true ∧ dq NM 494 (.aload_n 0) 1 = true ∧ dq NM 495 (.iload_n 3) 1 = true ∧ dq NM 496 (.iconst 1) 1 = true ∧ dq NM 497 (.iadd) 1 = true ∧ dq NM 498 (.iaload) 1 = true ∧ dq NM 499 (.aload_n 0) 1 = true ∧ dq NM 500 (.iload_n 3) 1 = true ∧ dq NM 501 (.iconst 2) 1 = true ∧ dq NM 502 (.iadd) 1 = true ∧ dq NM 503 (.iaload) 1 = true := by decide +kernel
theorem dL_law_484 : decode (mB NM) 484 = .ok (.iadd, 1) := dqo gL_law_484.1
theorem dL_law_485 : decode (mB NM) 485 = .ok (.iaload, 1) := dqo gL_law_484.2.1
theorem dL_law_486 : decode (mB NM) 486 = .ok (.invokevirtual 52, 3) := dqo gL_law_484.2.2.1
theorem dL_law_489 : decode (mB NM) 489 = .ok (.pop, 1) := dqo gL_law_484.2.2.2.1
theorem dL_law_490 : decode (mB NM) 490 = .ok (.goto 1022, 3) := dqo gL_law_484.2.2.2.2.1
theorem dL_law_493 : decode (mB NM) 493 = .ok (.aload_n 1, 1) := dqo gL_law_484.2.2.2.2.2.1
theorem dL_law_494 : decode (mB NM) 494 = .ok (.aload_n 0, 1) := dqo gL_law_484.2.2.2.2.2.2.1
theorem dL_law_495 : decode (mB NM) 495 = .ok (.iload_n 3, 1) := dqo gL_law_484.2.2.2.2.2.2.2.1
theorem dL_law_496 : decode (mB NM) 496 = .ok (.iconst 1, 1) := dqo gL_law_484.2.2.2.2.2.2.2.2.1
theorem dL_law_497 : decode (mB NM) 497 = .ok (.iadd, 1) := dqo gL_law_484.2.2.2.2.2.2.2.2.2.1
theorem dL_law_498 : decode (mB NM) 498 = .ok (.iaload, 1) := dqo gL_law_484.2.2.2.2.2.2.2.2.2.2.1
theorem dL_law_499 : decode (mB NM) 499 = .ok (.aload_n 0, 1) := dqo gL_law_484.2.2.2.2.2.2.2.2.2.2.2.1
theorem dL_law_500 : decode (mB NM) 500 = .ok (.iload_n 3, 1) := dqo gL_law_484.2.2.2.2.2.2.2.2.2.2.2.2.1
theorem dL_law_501 : decode (mB NM) 501 = .ok (.iconst 2, 1) := dqo gL_law_484.2.2.2.2.2.2.2.2.2.2.2.2.2.1
theorem dL_law_502 : decode (mB NM) 502 = .ok (.iadd, 1) := dqo gL_law_484.2.2.2.2.2.2.2.2.2.2.2.2.2.2.1
theorem dL_law_503 : decode (mB NM) 503 = .ok (.iaload, 1) := dqo gL_law_484.2.2.2.2.2.2.2.2.2.2.2.2.2.2.2
theorem gL_law_504 : dq NM 504 (.aload_n 0) 1 = true ∧ dq NM 505 (.iload_n 3) 1 = true ∧ dq NM 506 (.iconst 3) 1 = true ∧ dq NM 507 (.iadd) 1 = true ∧ dq NM 508 (.iaload) 1 = true ∧ dq NM 509 (.invokevirtual 53) 3 = true ∧ dq NM 512 (.pop) 1 = true ∧ dq NM 513 (.aload_n 2) 1 = true ∧ dq NM 514 (.aload_n 0) 1 = true ∧ dq NM 515 (.iload_n 3) 1 = true ∧ dq NM 516 (.iconst 1) 1 = true ∧ dq NM 517 (.iadd) 1 = true ∧ dq NM 518 (.iaload) 1 = true ∧ dq NM 519 (.aload_n 0) 1 = true ∧ dq NM 520 (.iload_n 3) 1 = true ∧ dq NM 521 (.iconst 2) 1 = true := by decide +kernel
theorem dL_law_504 : decode (mB NM) 504 = .ok (.aload_n 0, 1) := dqo gL_law_504.1
theorem dL_law_505 : decode (mB NM) 505 = .ok (.iload_n 3, 1) := dqo gL_law_504.2.1
theorem dL_law_506 : decode (mB NM) 506 = .ok (.iconst 3, 1) := dqo gL_law_504.2.2.1
theorem dL_law_507 : decode (mB NM) 507 = .ok (.iadd, 1) := dqo gL_law_504.2.2.2.1
theorem dL_law_508 : decode (mB NM) 508 = .ok (.iaload, 1) := dqo gL_law_504.2.2.2.2.1
theorem dL_law_509 : decode (mB NM) 509 = .ok (.invokevirtual 53, 3) := dqo gL_law_504.2.2.2.2.2.1
theorem dL_law_512 : decode (mB NM) 512 = .ok (.pop, 1) := dqo gL_law_504.2.2.2.2.2.2.1
theorem dL_law_513 : decode (mB NM) 513 = .ok (.aload_n 2, 1) := dqo gL_law_504.2.2.2.2.2.2.2.1
theorem dL_law_514 : decode (mB NM) 514 = .ok (.aload_n 0, 1) := dqo gL_law_504.2.2.2.2.2.2.2.2.1
theorem dL_law_515 : decode (mB NM) 515 = .ok (.iload_n 3, 1) := dqo gL_law_504.2.2.2.2.2.2.2.2.2.1
theorem dL_law_516 : decode (mB NM) 516 = .ok (.iconst 1, 1) := dqo gL_law_504.2.2.2.2.2.2.2.2.2.2.1
theorem dL_law_517 : decode (mB NM) 517 = .ok (.iadd, 1) := dqo gL_law_504.2.2.2.2.2.2.2.2.2.2.2.1
theorem dL_law_518 : decode (mB NM) 518 = .ok (.iaload, 1) := dqo gL_law_504.2.2.2.2.2.2.2.2.2.2.2.2.1
theorem dL_law_519 : decode (mB NM) 519 = .ok (.aload_n 0, 1) := dqo gL_law_504.2.2.2.2.2.2.2.2.2.2.2.2.2.1
theorem dL_law_520 : decode (mB NM) 520 = .ok (.iload_n 3, 1) := dqo gL_law_504.2.2.2.2.2.2.2.2.2.2.2.2.2.2.1
theorem dL_law_521 : decode (mB NM) 521 = .ok (.iconst 2, 1) := dqo gL_law_504.2.2.2.2.2.2.2.2.2.2.2.2.2.2.2
theorem gL_law_522 : dq NM 522 (.iadd) 1 = true ∧ dq NM 523 (.iaload) 1 = true ∧ dq NM 524 (.aload_n 0) 1 = true ∧ dq NM 525 (.iload_n 3) 1 = true ∧ dq NM 526 (.iconst 3) 1 = true ∧ dq NM 527 (.iadd) 1 = true ∧ dq NM 528 (.iaload) 1 = true ∧ dq NM 529 (.invokevirtual 56) 3 = true ∧ dq NM 532 (.pop) 1 = true ∧ dq NM 533 (.goto 979) 3 = true ∧ dq NM 536 (.aload_n 1) 1 = true ∧ dq NM 537 (.aload_n 0) 1 = true ∧ dq NM 538 (.iload_n 3) 1 = true ∧ dq NM 539 (.iconst 1) 1 = true ∧ dq NM 540 (.iadd) 1 = true ∧ dq NM 541 (.iaload) 1 = true := by decide +kernel
theorem dL_law_522 : decode (mB NM) 522 = .ok (.iadd, 1) := dqo gL_law_522.1
theorem dL_law_523 : decode (mB NM) 523 = .ok (.iaload, 1) := dqo gL_law_522.2.1
theorem dL_law_524 : decode (mB NM) 524 = .ok (.aload_n 0, 1) := dqo gL_law_522.2.2.1
theorem dL_law_525 : decode (mB NM) 525 = .ok (.iload_n 3, 1) := dqo gL_law_522.2.2.2.1
theorem dL_law_526 : decode (mB NM) 526 = .ok (.iconst 3, 1) := dqo gL_law_522.2.2.2.2.1
theorem dL_law_527 : decode (mB NM) 527 = .ok (.iadd, 1) := dqo gL_law_522.2.2.2.2.2.1
theorem dL_law_528 : decode (mB NM) 528 = .ok (.iaload, 1) := dqo gL_law_522.2.2.2.2.2.2.1
theorem dL_law_529 : decode (mB NM) 529 = .ok (.invokevirtual 56, 3) := dqo gL_law_522.2.2.2.2.2.2.2.1
theorem dL_law_532 : decode (mB NM) 532 = .ok (.pop, 1) := dqo gL_law_522.2.2.2.2.2.2.2.2.1
theorem dL_law_533 : decode (mB NM) 533 = .ok (.goto 979, 3) := dqo gL_law_522.2.2.2.2.2.2.2.2.2.1
theorem dL_law_536 : decode (mB NM) 536 = .ok (.aload_n 1, 1) := dqo gL_law_522.2.2.2.2.2.2.2.2.2.2.1
theorem dL_law_537 : decode (mB NM) 537 = .ok (.aload_n 0, 1) := dqo gL_law_522.2.2.2.2.2.2.2.2.2.2.2.1
theorem dL_law_538 : decode (mB NM) 538 = .ok (.iload_n 3, 1) := dqo gL_law_522.2.2.2.2.2.2.2.2.2.2.2.2.1
theorem dL_law_539 : decode (mB NM) 539 = .ok (.iconst 1, 1) := dqo gL_law_522.2.2.2.2.2.2.2.2.2.2.2.2.2.1
theorem dL_law_540 : decode (mB NM) 540 = .ok (.iadd, 1) := dqo gL_law_522.2.2.2.2.2.2.2.2.2.2.2.2.2.2.1
theorem dL_law_541 : decode (mB NM) 541 = .ok (.iaload, 1) := dqo gL_law_522.2.2.2.2.2.2.2.2.2.2.2.2.2.2.2
theorem gL_law_542 : dq NM 542 (.aload_n 0) 1 = true ∧ dq NM 543 (.iload_n 3) 1 = true ∧ dq NM 544 (.iconst 2) 1 = true ∧ dq NM 545 (.iadd) 1 = true ∧ dq NM 546 (.iaload) 1 = true ∧ dq NM 547 (.aload_n 0) 1 = true ∧ dq NM 548 (.iload_n 3) 1 = true ∧ dq NM 549 (.iconst 3) 1 = true ∧ dq NM 550 (.iadd) 1 = true ∧ dq NM 551 (.iaload) 1 = true ∧ dq NM 552 (.invokevirtual 57) 3 = true ∧ dq NM 555 (.pop2) 1 = true ∧ dq NM 556 (.aload_n 2) 1 = true ∧ dq NM 557 (.aload_n 0) 1 = true ∧ dq NM 558 (.iload_n 3) 1 = true ∧ dq NM 559 (.iconst 1) 1 = true := by decide +kernel
theorem dL_law_542 : decode (mB NM) 542 = .ok (.aload_n 0, 1) := dqo gL_law_542.1
theorem dL_law_543 : decode (mB NM) 543 = .ok (.iload_n 3, 1) := dqo gL_law_542.2.1
theorem dL_law_544 : decode (mB NM) 544 = .ok (.iconst 2, 1) := dqo gL_law_542.2.2.1
theorem dL_law_545 : decode (mB NM) 545 = .ok (.iadd, 1) := dqo gL_law_542.2.2.2.1
theorem dL_law_546 : decode (mB NM) 546 = .ok (.iaload, 1) := dqo gL_law_542.2.2.2.2.1
theorem dL_law_547 : decode (mB NM) 547 = .ok (.aload_n 0, 1) := dqo gL_law_542.2.2.2.2.2.1
theorem dL_law_548 : decode (mB NM) 548 = .ok (.iload_n 3, 1) := dqo gL_law_542.2.2.2.2.2.2.1
theorem dL_law_549 : decode (mB NM) 549 = .ok (.iconst 3, 1) := dqo gL_law_542.2.2.2.2.2.2.2.1
theorem dL_law_550 : decode (mB NM) 550 = .ok (.iadd, 1) := dqo gL_law_542.2.2.2.2.2.2.2.2.1
theorem dL_law_551 : decode (mB NM) 551 = .ok (.iaload, 1) := dqo gL_law_542.2.2.2.2.2.2.2.2.2.1
theorem dL_law_552 : decode (mB NM) 552 = .ok (.invokevirtual 57, 3) := dqo gL_law_542.2.2.2.2.2.2.2.2.2.2.1
theorem dL_law_555 : decode (mB NM) 555 = .ok (.pop2, 1) := dqo gL_law_542.2.2.2.2.2.2.2.2.2.2.2.1
theorem dL_law_556 : decode (mB NM) 556 = .ok (.aload_n 2, 1) := dqo gL_law_542.2.2.2.2.2.2.2.2.2.2.2.2.1
theorem dL_law_557 : decode (mB NM) 557 = .ok (.aload_n 0, 1) := dqo gL_law_542.2.2.2.2.2.2.2.2.2.2.2.2.2.1
theorem dL_law_558 : decode (mB NM) 558 = .ok (.iload_n 3, 1) := dqo gL_law_542.2.2.2.2.2.2.2.2.2.2.2.2.2.2.1
theorem dL_law_559 : decode (mB NM) 559 = .ok (.iconst 1, 1) := dqo gL_law_542.2.2.2.2.2.2.2.2.2.2.2.2.2.2.2
theorem gL_law_560 : dq NM 560 (.iadd) 1 = true ∧ dq NM 561 (.iaload) 1 = true ∧ dq NM 562 (.aload_n 0) 1 = true ∧ dq NM 563 (.iload_n 3) 1 = true ∧ dq NM 564 (.iconst 2) 1 = true ∧ dq NM 565 (.iadd) 1 = true ∧ dq NM 566 (.iaload) 1 = true ∧ dq NM 567 (.aload_n 0) 1 = true ∧ dq NM 568 (.iload_n 3) 1 = true ∧ dq NM 569 (.iconst 3) 1 = true ∧ dq NM 570 (.iadd) 1 = true ∧ dq NM 571 (.iaload) 1 = true ∧ dq NM 572 (.invokevirtual 61) 3 = true ∧ dq NM 575 (.pop2) 1 = true ∧ dq NM 576 (.goto 936) 3 = true ∧ dq NM 579 (.aload_n 1) 1 = true := by decide +kernel
theorem dL_law_560 : decode (mB NM) 560 = .ok (.iadd, 1) := dqo gL_law_560.1
theorem dL_law_561 : decode (mB NM) 561 = .ok (.iaload, 1) := dqo gL_law_560.2.1
theorem dL_law_562 : decode (mB NM) 562 = .ok (.aload_n 0, 1) := dqo gL_law_560.2.2.1
theorem dL_law_563 : decode (mB NM) 563 = .ok (.iload_n 3, 1) := dqo gL_law_560.2.2.2.1
theorem dL_law_564 : decode (mB NM) 564 = .ok (.iconst 2, 1) := dqo gL_law_560.2.2.2.2.1
theorem dL_law_565 : decode (mB NM) 565 = .ok (.iadd, 1) := dqo gL_law_560.2.2.2.2.2.1
theorem dL_law_566 : decode (mB NM) 566 = .ok (.iaload, 1) := dqo gL_law_560.2.2.2.2.2.2.1
theorem dL_law_567 : decode (mB NM) 567 = .ok (.aload_n 0, 1) := dqo gL_law_560.2.2.2.2.2.2.2.1
theorem dL_law_568 : decode (mB NM) 568 = .ok (.iload_n 3, 1) := dqo gL_law_560.2.2.2.2.2.2.2.2.1
theorem dL_law_569 : decode (mB NM) 569 = .ok (.iconst 3, 1) := dqo gL_law_560.2.2.2.2.2.2.2.2.2.1
theorem dL_law_570 : decode (mB NM) 570 = .ok (.iadd, 1) := dqo gL_law_560.2.2.2.2.2.2.2.2.2.2.1
theorem dL_law_571 : decode (mB NM) 571 = .ok (.iaload, 1) := dqo gL_law_560.2.2.2.2.2.2.2.2.2.2.2.1
theorem dL_law_572 : decode (mB NM) 572 = .ok (.invokevirtual 61, 3) := dqo gL_law_560.2.2.2.2.2.2.2.2.2.2.2.2.1
theorem dL_law_575 : decode (mB NM) 575 = .ok (.pop2, 1) := dqo gL_law_560.2.2.2.2.2.2.2.2.2.2.2.2.2.1
theorem dL_law_576 : decode (mB NM) 576 = .ok (.goto 936, 3) := dqo gL_law_560.2.2.2.2.2.2.2.2.2.2.2.2.2.2.1
theorem dL_law_579 : decode (mB NM) 579 = .ok (.aload_n 1, 1) := dqo gL_law_560.2.2.2.2.2.2.2.2.2.2.2.2.2.2.2
theorem gL_law_580 : dq NM 580 (.aload_n 0) 1 = true ∧ dq NM 581 (.iload_n 3) 1 = true ∧ dq NM 582 (.iconst 1) 1 = true ∧ dq NM 583 (.iadd) 1 = true ∧ dq NM 584 (.iaload) 1 = true ∧ dq NM 585 (.aload_n 0) 1 = true ∧ dq NM 586 (.iload_n 3) 1 = true ∧ dq NM 587 (.iconst 2) 1 = true ∧ dq NM 588 (.iadd) 1 = true ∧ dq NM 589 (.iaload) 1 = true ∧ dq NM 590 (.invokevirtual 62) 3 = true ∧ dq NM 593 (.pop2) 1 = true ∧ dq NM 594 (.aload_n 2) 1 = true ∧ dq NM 595 (.aload_n 0) 1 = true ∧ dq NM 596 (.iload_n 3) 1 = true ∧ dq NM 597 (.iconst 1) 1 = true := by decide +kernel
theorem dL_law_580 : decode (mB NM) 580 = .ok (.aload_n 0, 1) := dqo gL_law_580.1
theorem dL_law_581 : decode (mB NM) 581 = .ok (.iload_n 3, 1) := dqo gL_law_580.2.1
theorem dL_law_582 : decode (mB NM) 582 = .ok (.iconst 1, 1) := dqo gL_law_580.2.2.1
theorem dL_law_583 : decode (mB NM) 583 = .ok (.iadd, 1) := dqo gL_law_580.2.2.2.1
theorem dL_law_584 : decode (mB NM) 584 = .ok (.iaload, 1) := dqo gL_law_580.2.2.2.2.1
theorem dL_law_585 : decode (mB NM) 585 = .ok (.aload_n 0, 1) := dqo gL_law_580.2.2.2.2.2.1
theorem dL_law_586 : decode (mB NM) 586 = .ok (.iload_n 3, 1) := dqo gL_law_580.2.2.2.2.2.2.1
theorem dL_law_587 : decode (mB NM) 587 = .ok (.iconst 2, 1) := dqo gL_law_580.2.2.2.2.2.2.2.1
theorem dL_law_588 : decode (mB NM) 588 = .ok (.iadd, 1) := dqo gL_law_580.2.2.2.2.2.2.2.2.1
theorem dL_law_589 : decode (mB NM) 589 = .ok (.iaload, 1) := dqo gL_law_580.2.2.2.2.2.2.2.2.2.1
theorem dL_law_590 : decode (mB NM) 590 = .ok (.invokevirtual 62, 3) := dqo gL_law_580.2.2.2.2.2.2.2.2.2.2.1
theorem dL_law_593 : decode (mB NM) 593 = .ok (.pop2, 1) := dqo gL_law_580.2.2.2.2.2.2.2.2.2.2.2.1
theorem dL_law_594 : decode (mB NM) 594 = .ok (.aload_n 2, 1) := dqo gL_law_580.2.2.2.2.2.2.2.2.2.2.2.2.1
theorem dL_law_595 : decode (mB NM) 595 = .ok (.aload_n 0, 1) := dqo gL_law_580.2.2.2.2.2.2.2.2.2.2.2.2.2.1
theorem dL_law_596 : decode (mB NM) 596 = .ok (.iload_n 3, 1) := dqo gL_law_580.2.2.2.2.2.2.2.2.2.2.2.2.2.2.1
theorem dL_law_597 : decode (mB NM) 597 = .ok (.iconst 1, 1) := dqo gL_law_580.2.2.2.2.2.2.2.2.2.2.2.2.2.2.2
theorem gL_law_598 : dq NM 598 (.iadd) 1 = true ∧ dq NM 599 (.iaload) 1 = true ∧ dq NM 600 (.aload_n 0) 1 = true ∧ dq NM 601 (.iload_n 3) 1 = true ∧ dq NM 602 (.iconst 2) 1 = true ∧ dq NM 603 (.iadd) 1 = true ∧ dq NM 604 (.iaload) 1 = true ∧ dq NM 605 (.invokevirtual 66) 3 = true ∧ dq NM 608 (.pop2) 1 = true ∧ dq NM 609 (.goto 903) 3 = true ∧ dq NM 612 (.aload_n 1) 1 = true ∧ dq NM 613 (.aload_n 0) 1 = true ∧ dq NM 614 (.iload_n 3) 1 = true ∧ dq NM 615 (.iconst 1) 1 = true ∧ dq NM 616 (.iadd) 1 = true ∧ dq NM 617 (.iaload) 1 = true := by decide +kernel
theorem dL_law_598 : decode (mB NM) 598 = .ok (.iadd, 1) := dqo gL_law_598.1
theorem dL_law_599 : decode (mB NM) 599 = .ok (.iaload, 1) := dqo gL_law_598.2.1
theorem dL_law_600 : decode (mB NM) 600 = .ok (.aload_n 0, 1) := dqo gL_law_598.2.2.1
theorem dL_law_601 : decode (mB NM) 601 = .ok (.iload_n 3, 1) := dqo gL_law_598.2.2.2.1
theorem dL_law_602 : decode (mB NM) 602 = .ok (.iconst 2, 1) := dqo gL_law_598.2.2.2.2.1
theorem dL_law_603 : decode (mB NM) 603 = .ok (.iadd, 1) := dqo gL_law_598.2.2.2.2.2.1
theorem dL_law_604 : decode (mB NM) 604 = .ok (.iaload, 1) := dqo gL_law_598.2.2.2.2.2.2.1
theorem dL_law_605 : decode (mB NM) 605 = .ok (.invokevirtual 66, 3) := dqo gL_law_598.2.2.2.2.2.2.2.1
theorem dL_law_608 : decode (mB NM) 608 = .ok (.pop2, 1) := dqo gL_law_598.2.2.2.2.2.2.2.2.1
theorem dL_law_609 : decode (mB NM) 609 = .ok (.goto 903, 3) := dqo gL_law_598.2.2.2.2.2.2.2.2.2.1
theorem dL_law_612 : decode (mB NM) 612 = .ok (.aload_n 1, 1) := dqo gL_law_598.2.2.2.2.2.2.2.2.2.2.1
theorem dL_law_613 : decode (mB NM) 613 = .ok (.aload_n 0, 1) := dqo gL_law_598.2.2.2.2.2.2.2.2.2.2.2.1
theorem dL_law_614 : decode (mB NM) 614 = .ok (.iload_n 3, 1) := dqo gL_law_598.2.2.2.2.2.2.2.2.2.2.2.2.1
theorem dL_law_615 : decode (mB NM) 615 = .ok (.iconst 1, 1) := dqo gL_law_598.2.2.2.2.2.2.2.2.2.2.2.2.2.1
theorem dL_law_616 : decode (mB NM) 616 = .ok (.iadd, 1) := dqo gL_law_598.2.2.2.2.2.2.2.2.2.2.2.2.2.2.1
theorem dL_law_617 : decode (mB NM) 617 = .ok (.iaload, 1) := dqo gL_law_598.2.2.2.2.2.2.2.2.2.2.2.2.2.2.2
theorem gL_law_618 : dq NM 618 (.aload_n 0) 1 = true ∧ dq NM 619 (.iload_n 3) 1 = true ∧ dq NM 620 (.iconst 2) 1 = true ∧ dq NM 621 (.iadd) 1 = true ∧ dq NM 622 (.iaload) 1 = true ∧ dq NM 623 (.invokevirtual 67) 3 = true ∧ dq NM 626 (.pop2) 1 = true ∧ dq NM 627 (.aload_n 2) 1 = true ∧ dq NM 628 (.aload_n 0) 1 = true ∧ dq NM 629 (.iload_n 3) 1 = true ∧ dq NM 630 (.iconst 1) 1 = true ∧ dq NM 631 (.iadd) 1 = true ∧ dq NM 632 (.iaload) 1 = true ∧ dq NM 633 (.aload_n 0) 1 = true ∧ dq NM 634 (.iload_n 3) 1 = true ∧ dq NM 635 (.iconst 2) 1 = true := by decide +kernel
theorem dL_law_618 : decode (mB NM) 618 = .ok (.aload_n 0, 1) := dqo gL_law_618.1
theorem dL_law_619 : decode (mB NM) 619 = .ok (.iload_n 3, 1) := dqo gL_law_618.2.1
theorem dL_law_620 : decode (mB NM) 620 = .ok (.iconst 2, 1) := dqo gL_law_618.2.2.1
theorem dL_law_621 : decode (mB NM) 621 = .ok (.iadd, 1) := dqo gL_law_618.2.2.2.1
theorem dL_law_622 : decode (mB NM) 622 = .ok (.iaload, 1) := dqo gL_law_618.2.2.2.2.1
theorem dL_law_623 : decode (mB NM) 623 = .ok (.invokevirtual 67, 3) := dqo gL_law_618.2.2.2.2.2.1
theorem dL_law_626 : decode (mB NM) 626 = .ok (.pop2, 1) := dqo gL_law_618.2.2.2.2.2.2.1
theorem dL_law_627 : decode (mB NM) 627 = .ok (.aload_n 2, 1) := dqo gL_law_618.2.2.2.2.2.2.2.1
theorem dL_law_628 : decode (mB NM) 628 = .ok (.aload_n 0, 1) := dqo gL_law_618.2.2.2.2.2.2.2.2.1
theorem dL_law_629 : decode (mB NM) 629 = .ok (.iload_n 3, 1) := dqo gL_law_618.2.2.2.2.2.2.2.2.2.1
theorem dL_law_630 : decode (mB NM) 630 = .ok (.iconst 1, 1) := dqo gL_law_618.2.2.2.2.2.2.2.2.2.2.1
theorem dL_law_631 : decode (mB NM) 631 = .ok (.iadd, 1) := dqo gL_law_618.2.2.2.2.2.2.2.2.2.2.2.1
theorem dL_law_632 : decode (mB NM) 632 = .ok (.iaload, 1) := dqo gL_law_618.2.2.2.2.2.2.2.2.2.2.2.2.1
theorem dL_law_633 : decode (mB NM) 633 = .ok (.aload_n 0, 1) := dqo gL_law_618.2.2.2.2.2.2.2.2.2.2.2.2.2.1
theorem dL_law_634 : decode (mB NM) 634 = .ok (.iload_n 3, 1) := dqo gL_law_618.2.2.2.2.2.2.2.2.2.2.2.2.2.2.1
theorem dL_law_635 : decode (mB NM) 635 = .ok (.iconst 2, 1) := dqo gL_law_618.2.2.2.2.2.2.2.2.2.2.2.2.2.2.2
theorem gL_law_636 : dq NM 636 (.iadd) 1 = true ∧ dq NM 637 (.iaload) 1 = true ∧ dq NM 638 (.invokevirtual 70) 3 = true ∧ dq NM 641 (.pop2) 1 = true ∧ dq NM 642 (.goto 870) 3 = true ∧ dq NM 645 (.aload_n 1) 1 = true ∧ dq NM 646 (.invokevirtual 71) 3 = true ∧ dq NM 649 (.pop) 1 = true ∧ dq NM 650 (.aload_n 2) 1 = true ∧ dq NM 651 (.invokevirtual 74) 3 = true ∧ dq NM 654 (.pop) 1 = true ∧ dq NM 655 (.goto 857) 3 = true ∧ dq NM 658 (.aload_n 1) 1 = true ∧ dq NM 659 (.invokevirtual 75) 3 = true ∧ dq NM 662 (.pop) 1 = true ∧ dq NM 663 (.aload_n 2) 1 = true := by decide +kernel
theorem dL_law_636 : decode (mB NM) 636 = .ok (.iadd, 1) := dqo gL_law_636.1
theorem dL_law_637 : decode (mB NM) 637 = .ok (.iaload, 1) := dqo gL_law_636.2.1
theorem dL_law_638 : decode (mB NM) 638 = .ok (.invokevirtual 70, 3) := dqo gL_law_636.2.2.1
theorem dL_law_641 : decode (mB NM) 641 = .ok (.pop2, 1) := dqo gL_law_636.2.2.2.1
theorem dL_law_642 : decode (mB NM) 642 = .ok (.goto 870, 3) := dqo gL_law_636.2.2.2.2.1
theorem dL_law_645 : decode (mB NM) 645 = .ok (.aload_n 1, 1) := dqo gL_law_636.2.2.2.2.2.1
theorem dL_law_646 : decode (mB NM) 646 = .ok (.invokevirtual 71, 3) := dqo gL_law_636.2.2.2.2.2.2.1
theorem dL_law_649 : decode (mB NM) 649 = .ok (.pop, 1) := dqo gL_law_636.2.2.2.2.2.2.2.1
theorem dL_law_650 : decode (mB NM) 650 = .ok (.aload_n 2, 1) := dqo gL_law_636.2.2.2.2.2.2.2.2.1
theorem dL_law_651 : decode (mB NM) 651 = .ok (.invokevirtual 74, 3) := dqo gL_law_636.2.2.2.2.2.2.2.2.2.1
theorem dL_law_654 : decode (mB NM) 654 = .ok (.pop, 1) := dqo gL_law_636.2.2.2.2.2.2.2.2.2.2.1
theorem dL_law_655 : decode (mB NM) 655 = .ok (.goto 857, 3) := dqo gL_law_636.2.2.2.2.2.2.2.2.2.2.2.1
theorem dL_law_658 : decode (mB NM) 658 = .ok (.aload_n 1, 1) := dqo gL_law_636.2.2.2.2.2.2.2.2.2.2.2.2.1
theorem dL_law_659 : decode (mB NM) 659 = .ok (.invokevirtual 75, 3) := dqo gL_law_636.2.2.2.2.2.2.2.2.2.2.2.2.2.1
theorem dL_law_662 : decode (mB NM) 662 = .ok (.pop, 1) := dqo gL_law_636.2.2.2.2.2.2.2.2.2.2.2.2.2.2.1
theorem dL_law_663 : decode (mB NM) 663 = .ok (.aload_n 2, 1) := dqo gL_law_636.2.2.2.2.2.2.2.2.2.2.2.2.2.2.2
theorem gL_law_664 : dq NM 664 (.invokevirtual 78) 3 = true ∧ dq NM 667 (.pop) 1 = true ∧ dq NM 668 (.goto 844) 3 = true ∧ dq NM 671 (.aload_n 1) 1 = true ∧ dq NM 672 (.aload_n 0) 1 = true ∧ dq NM 673 (.iload_n 3) 1 = true ∧ dq NM 674 (.iconst 1) 1 = true ∧ dq NM 675 (.iadd) 1 = true ∧ dq NM 676 (.iaload) 1 = true ∧ dq NM 677 (.invokevirtual 79) 3 = true ∧ dq NM 680 (.pop) 1 = true ∧ dq NM 681 (.aload_n 2) 1 = true ∧ dq NM 682 (.aload_n 0) 1 = true ∧ dq NM 683 (.iload_n 3) 1 = true ∧ dq NM 684 (.iconst 1) 1 = true ∧ dq NM 685 (.iadd) 1 = true := by decide +kernel
theorem dL_law_664 : decode (mB NM) 664 = .ok (.invokevirtual 78, 3) := dqo gL_law_664.1
theorem dL_law_667 : decode (mB NM) 667 = .ok (.pop, 1) := dqo gL_law_664.2.1
theorem dL_law_668 : decode (mB NM) 668 = .ok (.goto 844, 3) := dqo gL_law_664.2.2.1
theorem dL_law_671 : decode (mB NM) 671 = .ok (.aload_n 1, 1) := dqo gL_law_664.2.2.2.1
theorem dL_law_672 : decode (mB NM) 672 = .ok (.aload_n 0, 1) := dqo gL_law_664.2.2.2.2.1
theorem dL_law_673 : decode (mB NM) 673 = .ok (.iload_n 3, 1) := dqo gL_law_664.2.2.2.2.2.1
theorem dL_law_674 : decode (mB NM) 674 = .ok (.iconst 1, 1) := dqo gL_law_664.2.2.2.2.2.2.1
theorem dL_law_675 : decode (mB NM) 675 = .ok (.iadd, 1) := dqo gL_law_664.2.2.2.2.2.2.2.1
theorem dL_law_676 : decode (mB NM) 676 = .ok (.iaload, 1) := dqo gL_law_664.2.2.2.2.2.2.2.2.1
theorem dL_law_677 : decode (mB NM) 677 = .ok (.invokevirtual 79, 3) := dqo gL_law_664.2.2.2.2.2.2.2.2.2.1
theorem dL_law_680 : decode (mB NM) 680 = .ok (.pop, 1) := dqo gL_law_664.2.2.2.2.2.2.2.2.2.2.1
theorem dL_law_681 : decode (mB NM) 681 = .ok (.aload_n 2, 1) := dqo gL_law_664.2.2.2.2.2.2.2.2.2.2.2.1
theorem dL_law_682 : decode (mB NM) 682 = .ok (.aload_n 0, 1) := dqo gL_law_664.2.2.2.2.2.2.2.2.2.2.2.2.1
theorem dL_law_683 : decode (mB NM) 683 = .ok (.iload_n 3, 1) := dqo gL_law_664.2.2.2.2.2.2.2.2.2.2.2.2.2.1
theorem dL_law_684 : decode (mB NM) 684 = .ok (.iconst 1, 1) := dqo gL_law_664.2.2.2.2.2.2.2.2.2.2.2.2.2.2.1
theorem dL_law_685 : decode (mB NM) 685 = .ok (.iadd, 1) := dqo gL_law_664.2.2.2.2.2.2.2.2.2.2.2.2.2.2.2
theorem gL_law_686 : dq NM 686 (.iaload) 1 = true ∧ dq NM 687 (.invokevirtual 82) 3 = true ∧ dq NM 690 (.pop) 1 = true ∧ dq NM 691 (.goto 821) 3 = true ∧ dq NM 694 (.aload_n 1) 1 = true ∧ dq NM 695 (.aload_n 0) 1 = true ∧ dq NM 696 (.iload_n 3) 1 = true ∧ dq NM 697 (.iconst 1) 1 = true ∧ dq NM 698 (.iadd) 1 = true ∧ dq NM 699 (.iaload) 1 = true ∧ dq NM 700 (.aload_n 0) 1 = true ∧ dq NM 701 (.iload_n 3) 1 = true ∧ dq NM 702 (.iconst 2) 1 = true ∧ dq NM 703 (.iadd) 1 = true ∧ dq NM 704 (.iaload) 1 = true ∧ dq NM 705 (.aload_n 0) 1 = true := by decide +kernel
theorem dL_law_686 : decode (mB NM) 686 = .ok (.iaload, 1) := dqo gL_law_686.1
theorem dL_law_687 : decode (mB NM) 687 = .ok (.invokevirtual 82, 3) := dqo gL_law_686.2.1
theorem dL_law_690 : decode (mB NM) 690 = .ok (.pop, 1) := dqo gL_law_686.2.2.1
theorem dL_law_691 : decode (mB NM) 691 = .ok (.goto 821, 3) := dqo gL_law_686.2.2.2.1
theorem dL_law_694 : decode (mB NM) 694 = .ok (.aload_n 1, 1) := dqo gL_law_686.2.2.2.2.1
theorem dL_law_695 : decode (mB NM) 695 = .ok (.aload_n 0, 1) := dqo gL_law_686.2.2.2.2.2.1
theorem dL_law_696 : decode (mB NM) 696 = .ok (.iload_n 3, 1) := dqo gL_law_686.2.2.2.2.2.2.1
theorem dL_law_697 : decode (mB NM) 697 = .ok (.iconst 1, 1) := dqo gL_law_686.2.2.2.2.2.2.2.1
theorem dL_law_698 : decode (mB NM) 698 = .ok (.iadd, 1) := dqo gL_law_686.2.2.2.2.2.2.2.2.1
theorem dL_law_699 : decode (mB NM) 699 = .ok (.iaload, 1) := dqo gL_law_686.2.2.2.2.2.2.2.2.2.1
theorem dL_law_700 : decode (mB NM) 700 = .ok (.aload_n 0, 1) := dqo gL_law_686.2.2.2.2.2.2.2.2.2.2.1
theorem dL_law_701 : decode (mB NM) 701 = .ok (.iload_n 3, 1) := dqo gL_law_686.2.2.2.2.2.2.2.2.2.2.2.1
theorem dL_law_702 : decode (mB NM) 702 = .ok (.iconst 2, 1) := dqo gL_law_686.2.2.2.2.2.2.2.2.2.2.2.2.1
theorem dL_law_703 : decode (mB NM) 703 = .ok (.iadd, 1) := dqo gL_law_686.2.2.2.2.2.2.2.2.2.2.2.2.2.1
theorem dL_law_704 : decode (mB NM) 704 = .ok (.iaload, 1) := dqo gL_law_686.2.2.2.2.2.2.2.2.2.2.2.2.2.2.1
theorem dL_law_705 : decode (mB NM) 705 = .ok (.aload_n 0, 1) := dqo gL_law_686.2.2.2.2.2.2.2.2.2.2.2.2.2.2.2
theorem gL_law_706 : dq NM 706 (.iload_n 3) 1 = true ∧ dq NM 707 (.iconst 3) 1 = true ∧ dq NM 708 (.iadd) 1 = true ∧ dq NM 709 (.iaload) 1 = true ∧ dq NM 710 (.invokevirtual 83) 3 = true ∧ dq NM 713 (.pop2) 1 = true ∧ dq NM 714 (.aload_n 2) 1 = true ∧ dq NM 715 (.aload_n 0) 1 = true ∧ dq NM 716 (.iload_n 3) 1 = true ∧ dq NM 717 (.iconst 1) 1 = true ∧ dq NM 718 (.iadd) 1 = true ∧ dq NM 719 (.iaload) 1 = true ∧ dq NM 720 (.aload_n 0) 1 = true ∧ dq NM 721 (.iload_n 3) 1 = true ∧ dq NM 722 (.iconst 2) 1 = true ∧ dq NM 723 (.iadd) 1 = true := by decide +kernel
theorem dL_law_706 : decode (mB NM) 706 = .ok (.iload_n 3, 1) := dqo gL_law_706.1
theorem dL_law_707 : decode (mB NM) 707 = .ok (.iconst 3, 1) := dqo gL_law_706.2.1
theorem dL_law_708 : decode (mB NM) 708 = .ok (.iadd, 1) := dqo gL_law_706.2.2.1
theorem dL_law_709 : decode (mB NM) 709 = .ok (.iaload, 1) := dqo gL_law_706.2.2.2.1
theorem dL_law_710 : decode (mB NM) 710 = .ok (.invokevirtual 83, 3) := dqo gL_law_706.2.2.2.2.1
theorem dL_law_713 : decode (mB NM) 713 = .ok (.pop2, 1) := dqo gL_law_706.2.2.2.2.2.1
theorem dL_law_714 : decode (mB NM) 714 = .ok (.aload_n 2, 1) := dqo gL_law_706.2.2.2.2.2.2.1
theorem dL_law_715 : decode (mB NM) 715 = .ok (.aload_n 0, 1) := dqo gL_law_706.2.2.2.2.2.2.2.1
theorem dL_law_716 : decode (mB NM) 716 = .ok (.iload_n 3, 1) := dqo gL_law_706.2.2.2.2.2.2.2.2.1
theorem dL_law_717 : decode (mB NM) 717 = .ok (.iconst 1, 1) := dqo gL_law_706.2.2.2.2.2.2.2.2.2.1
theorem dL_law_718 : decode (mB NM) 718 = .ok (.iadd, 1) := dqo gL_law_706.2.2.2.2.2.2.2.2.2.2.1
theorem dL_law_719 : decode (mB NM) 719 = .ok (.iaload, 1) := dqo gL_law_706.2.2.2.2.2.2.2.2.2.2.2.1
theorem dL_law_720 : decode (mB NM) 720 = .ok (.aload_n 0, 1) := dqo gL_law_706.2.2.2.2.2.2.2.2.2.2.2.2.1
theorem dL_law_721 : decode (mB NM) 721 = .ok (.iload_n 3, 1) := dqo gL_law_706.2.2.2.2.2.2.2.2.2.2.2.2.2.1
theorem dL_law_722 : decode (mB NM) 722 = .ok (.iconst 2, 1) := dqo gL_law_706.2.2.2.2.2.2.2.2.2.2.2.2.2.2.1
theorem dL_law_723 : decode (mB NM) 723 = .ok (.iadd, 1) := dqo gL_law_706.2.2.2.2.2.2.2.2.2.2.2.2.2.2.2
theorem gL_law_724 : dq NM 724 (.iaload) 1 = true ∧ dq NM 725 (.aload_n 0) 1 = true ∧ dq NM 726 (.iload_n 3) 1 = true ∧ dq NM 727 (.iconst 3) 1 = true ∧ dq NM 728 (.iadd) 1 = true ∧ dq NM 729 (.iaload) 1 = true ∧ dq NM 730 (.invokevirtual 86) 3 = true ∧ dq NM 733 (.pop2) 1 = true ∧ dq NM 734 (.goto 778) 3 = true ∧ dq NM 737 (.aload_n 1) 1 = true ∧ dq NM 738 (.aload_n 0) 1 = true ∧ dq NM 739 (.iload_n 3) 1 = true ∧ dq NM 740 (.iconst 1) 1 = true ∧ dq NM 741 (.iadd) 1 = true ∧ dq NM 742 (.iaload) 1 = true ∧ dq NM 743 (.aload_n 0) 1 = true := by decide +kernel
theorem dL_law_724 : decode (mB NM) 724 = .ok (.iaload, 1) := dqo gL_law_724.1
theorem dL_law_725 : decode (mB NM) 725 = .ok (.aload_n 0, 1) := dqo gL_law_724.2.1
theorem dL_law_726 : decode (mB NM) 726 = .ok (.iload_n 3, 1) := dqo gL_law_724.2.2.1
theorem dL_law_727 : decode (mB NM) 727 = .ok (.iconst 3, 1) := dqo gL_law_724.2.2.2.1
theorem dL_law_728 : decode (mB NM) 728 = .ok (.iadd, 1) := dqo gL_law_724.2.2.2.2.1
theorem dL_law_729 : decode (mB NM) 729 = .ok (.iaload, 1) := dqo gL_law_724.2.2.2.2.2.1
theorem dL_law_730 : decode (mB NM) 730 = .ok (.invokevirtual 86, 3) := dqo gL_law_724.2.2.2.2.2.2.1
theorem dL_law_733 : decode (mB NM) 733 = .ok (.pop2, 1) := dqo gL_law_724.2.2.2.2.2.2.2.1
theorem dL_law_734 : decode (mB NM) 734 = .ok (.goto 778, 3) := dqo gL_law_724.2.2.2.2.2.2.2.2.1
theorem dL_law_737 : decode (mB NM) 737 = .ok (.aload_n 1, 1) := dqo gL_law_724.2.2.2.2.2.2.2.2.2.1
theorem dL_law_738 : decode (mB NM) 738 = .ok (.aload_n 0, 1) := dqo gL_law_724.2.2.2.2.2.2.2.2.2.2.1
theorem dL_law_739 : decode (mB NM) 739 = .ok (.iload_n 3, 1) := dqo gL_law_724.2.2.2.2.2.2.2.2.2.2.2.1
theorem dL_law_740 : decode (mB NM) 740 = .ok (.iconst 1, 1) := dqo gL_law_724.2.2.2.2.2.2.2.2.2.2.2.2.1
theorem dL_law_741 : decode (mB NM) 741 = .ok (.iadd, 1) := dqo gL_law_724.2.2.2.2.2.2.2.2.2.2.2.2.2.1
theorem dL_law_742 : decode (mB NM) 742 = .ok (.iaload, 1) := dqo gL_law_724.2.2.2.2.2.2.2.2.2.2.2.2.2.2.1
theorem dL_law_743 : decode (mB NM) 743 = .ok (.aload_n 0, 1) := dqo gL_law_724.2.2.2.2.2.2.2.2.2.2.2.2.2.2.2
theorem gL_law_744 : dq NM 744 (.iload_n 3) 1 = true ∧ dq NM 745 (.iconst 2) 1 = true ∧ dq NM 746 (.iadd) 1 = true ∧ dq NM 747 (.iaload) 1 = true ∧ dq NM 748 (.invokevirtual 87) 3 = true ∧ dq NM 751 (.pop) 1 = true ∧ dq NM 752 (.aload_n 2) 1 = true ∧ dq NM 753 (.aload_n 0) 1 = true ∧ dq NM 754 (.iload_n 3) 1 = true ∧ dq NM 755 (.iconst 1) 1 = true ∧ dq NM 756 (.iadd) 1 = true ∧ dq NM 757 (.iaload) 1 = true ∧ dq NM 758 (.aload_n 0) 1 = true ∧ dq NM 759 (.iload_n 3) 1 = true ∧ dq NM 760 (.iconst 2) 1 = true ∧ dq NM 761 (.iadd) 1 = true := by decide +kernel
theorem dL_law_744 : decode (mB NM) 744 = .ok (.iload_n 3, 1) := dqo gL_law_744.1
theorem dL_law_745 : decode (mB NM) 745 = .ok (.iconst 2, 1) := dqo gL_law_744.2.1
theorem dL_law_746 : decode (mB NM) 746 = .ok (.iadd, 1) := dqo gL_law_744.2.2.1
theorem dL_law_747 : decode (mB NM) 747 = .ok (.iaload, 1) := dqo gL_law_744.2.2.2.1
theorem dL_law_748 : decode (mB NM) 748 = .ok (.invokevirtual 87, 3) := dqo gL_law_744.2.2.2.2.1
theorem dL_law_751 : decode (mB NM) 751 = .ok (.pop, 1) := dqo gL_law_744.2.2.2.2.2.1
theorem dL_law_752 : decode (mB NM) 752 = .ok (.aload_n 2, 1) := dqo gL_law_744.2.2.2.2.2.2.1
theorem dL_law_753 : decode (mB NM) 753 = .ok (.aload_n 0, 1) := dqo gL_law_744.2.2.2.2.2.2.2.1
theorem dL_law_754 : decode (mB NM) 754 = .ok (.iload_n 3, 1) := dqo gL_law_744.2.2.2.2.2.2.2.2.1
theorem dL_law_755 : decode (mB NM) 755 = .ok (.iconst 1, 1) := dqo gL_law_744.2.2.2.2.2.2.2.2.2.1
theorem dL_law_756 : decode (mB NM) 756 = .ok (.iadd, 1) := dqo gL_law_744.2.2.2.2.2.2.2.2.2.2.1
theorem dL_law_757 : decode (mB NM) 757 = .ok (.iaload, 1) := dqo gL_law_744.2.2.2.2.2.2.2.2.2.2.2.1
theorem dL_law_758 : decode (mB NM) 758 = .ok (.aload_n 0, 1) := dqo gL_law_744.2.2.2.2.2.2.2.2.2.2.2.2.1
theorem dL_law_759 : decode (mB NM) 759 = .ok (.iload_n 3, 1) := dqo gL_law_744.2.2.2.2.2.2.2.2.2.2.2.2.2.1
theorem dL_law_760 : decode (mB NM) 760 = .ok (.iconst 2, 1) := dqo gL_law_744.2.2.2.2.2.2.2.2.2.2.2.2.2.2.1
theorem dL_law_761 : decode (mB NM) 761 = .ok (.iadd, 1) := dqo gL_law_744.2.2.2.2.2.2.2.2.2.2.2.2.2.2.2
theorem gL_law_762 : dq NM 762 (.iaload) 1 = true ∧ dq NM 763 (.invokevirtual 90) 3 = true ∧ dq NM 766 (.pop) 1 = true ∧ dq NM 767 (.goto 745) 3 = true ∧ dq NM 770 (.aload_n 1) 1 = true ∧ dq NM 771 (.aload_n 0) 1 = true ∧ dq NM 772 (.iload_n 3) 1 = true ∧ dq NM 773 (.iconst 1) 1 = true ∧ dq NM 774 (.iadd) 1 = true ∧ dq NM 775 (.iaload) 1 = true ∧ dq NM 776 (.aload_n 0) 1 = true ∧ dq NM 777 (.iload_n 3) 1 = true ∧ dq NM 778 (.iconst 2) 1 = true ∧ dq NM 779 (.iadd) 1 = true ∧ dq NM 780 (.iaload) 1 = true ∧ dq NM 781 (.aload_n 0) 1 = true := by decide +kernel
theorem dL_law_762 : decode (mB NM) 762 = .ok (.iaload, 1) := dqo gL_law_762.1
theorem dL_law_763 : decode (mB NM) 763 = .ok (.invokevirtual 90, 3) := dqo gL_law_762.2.1
theorem dL_law_766 : decode (mB NM) 766 = .ok (.pop, 1) := dqo gL_law_762.2.2.1
theorem dL_law_767 : decode (mB NM) 767 = .ok (.goto 745, 3) := dqo gL_law_762.2.2.2.1
theorem dL_law_770 : decode (mB NM) 770 = .ok (.aload_n 1, 1) := dqo gL_law_762.2.2.2.2.1
theorem dL_law_771 : decode (mB NM) 771 = .ok (.aload_n 0, 1) := dqo gL_law_762.2.2.2.2.2.1
theorem dL_law_772 : decode (mB NM) 772 = .ok (.iload_n 3, 1) := dqo gL_law_762.2.2.2.2.2.2.1
theorem dL_law_773 : decode (mB NM) 773 = .ok (.iconst 1, 1) := dqo gL_law_762.2.2.2.2.2.2.2.1
theorem dL_law_774 : decode (mB NM) 774 = .ok (.iadd, 1) := dqo gL_law_762.2.2.2.2.2.2.2.2.1
theorem dL_law_775 : decode (mB NM) 775 = .ok (.iaload, 1) := dqo gL_law_762.2.2.2.2.2.2.2.2.2.1
theorem dL_law_776 : decode (mB NM) 776 = .ok (.aload_n 0, 1) := dqo gL_law_762.2.2.2.2.2.2.2.2.2.2.1
theorem dL_law_777 : decode (mB NM) 777 = .ok (.iload_n 3, 1) := dqo gL_law_762.2.2.2.2.2.2.2.2.2.2.2.1
theorem dL_law_778 : decode (mB NM) 778 = .ok (.iconst 2, 1) := dqo gL_law_762.2.2.2.2.2.2.2.2.2.2.2.2.1
theorem dL_law_779 : decode (mB NM) 779 = .ok (.iadd, 1) := dqo gL_law_762.2.2.2.2.2.2.2.2.2.2.2.2.2.1
theorem dL_law_780 : decode (mB NM) 780 = .ok (.iaload, 1) := dqo gL_law_762.2.2.2.2.2.2.2.2.2.2.2.2.2.2.1
theorem dL_law_781 : decode (mB NM) 781 = .ok (.aload_n 0, 1) := dqo gL_law_762.2.2.2.2.2.2.2.2.2.2.2.2.2.2.2
theorem gL_law_782 : dq NM 782 (.iload_n 3) 1 = true ∧ dq NM 783 (.iconst 3) 1 = true ∧ dq NM 784 (.iadd) 1 = true ∧ dq NM 785 (.iaload) 1 = true ∧ dq NM 786 (.invokevirtual 91) 3 = true ∧ dq NM 789 (.pop) 1 = true ∧ dq NM 790 (.aload_n 2) 1 = true ∧ dq NM 791 (.aload_n 0) 1 = true ∧ dq NM 792 (.iload_n 3) 1 = true ∧ dq NM 793 (.iconst 1) 1 = true ∧ dq NM 794 (.iadd) 1 = true ∧ dq NM 795 (.iaload) 1 = true ∧ dq NM 796 (.aload_n 0) 1 = true ∧ dq NM 797 (.iload_n 3) 1 = true ∧ dq NM 798 (.iconst 2) 1 = true ∧ dq NM 799 (.iadd) 1 = true := by decide +kernel
theorem dL_law_782 : decode (mB NM) 782 = .ok (.iload_n 3, 1) := dqo gL_law_782.1
theorem dL_law_783 : decode (mB NM) 783 = .ok (.iconst 3, 1) := dqo gL_law_782.2.1
theorem dL_law_784 : decode (mB NM) 784 = .ok (.iadd, 1) := dqo gL_law_782.2.2.1
theorem dL_law_785 : decode (mB NM) 785 = .ok (.iaload, 1) := dqo gL_law_782.2.2.2.1
theorem dL_law_786 : decode (mB NM) 786 = .ok (.invokevirtual 91, 3) := dqo gL_law_782.2.2.2.2.1
theorem dL_law_789 : decode (mB NM) 789 = .ok (.pop, 1) := dqo gL_law_782.2.2.2.2.2.1
theorem dL_law_790 : decode (mB NM) 790 = .ok (.aload_n 2, 1) := dqo gL_law_782.2.2.2.2.2.2.1
theorem dL_law_791 : decode (mB NM) 791 = .ok (.aload_n 0, 1) := dqo gL_law_782.2.2.2.2.2.2.2.1
theorem dL_law_792 : decode (mB NM) 792 = .ok (.iload_n 3, 1) := dqo gL_law_782.2.2.2.2.2.2.2.2.1
theorem dL_law_793 : decode (mB NM) 793 = .ok (.iconst 1, 1) := dqo gL_law_782.2.2.2.2.2.2.2.2.2.1
theorem dL_law_794 : decode (mB NM) 794 = .ok (.iadd, 1) := dqo gL_law_782.2.2.2.2.2.2.2.2.2.2.1
theorem dL_law_795 : decode (mB NM) 795 = .ok (.iaload, 1) := dqo gL_law_782.2.2.2.2.2.2.2.2.2.2.2.1
theorem dL_law_796 : decode (mB NM) 796 = .ok (.aload_n 0, 1) := dqo gL_law_782.2.2.2.2.2.2.2.2.2.2.2.2.1
theorem dL_law_797 : decode (mB NM) 797 = .ok (.iload_n 3, 1) := dqo gL_law_782.2.2.2.2.2.2.2.2.2.2.2.2.2.1
theorem dL_law_798 : decode (mB NM) 798 = .ok (.iconst 2, 1) := dqo gL_law_782.2.2.2.2.2.2.2.2.2.2.2.2.2.2.1
theorem dL_law_799 : decode (mB NM) 799 = .ok (.iadd, 1) := dqo gL_law_782.2.2.2.2.2.2.2.2.2.2.2.2.2.2.2
theorem gL_law_800 : dq NM 800 (.iaload) 1 = true ∧ dq NM 801 (.aload_n 0) 1 = true ∧ dq NM 802 (.iload_n 3) 1 = true ∧ dq NM 803 (.iconst 3) 1 = true ∧ dq NM 804 (.iadd) 1 = true ∧ dq NM 805 (.iaload) 1 = true ∧ dq NM 806 (.invokevirtual 94) 3 = true ∧ dq NM 809 (.pop) 1 = true ∧ dq NM 810 (.goto 702) 3 = true ∧ dq NM 813 (.aload_n 1) 1 = true ∧ dq NM 814 (.aload_n 0) 1 = true ∧ dq NM 815 (.iload_n 3) 1 = true ∧ dq NM 816 (.iconst 1) 1 = true ∧ dq NM 817 (.iadd) 1 = true ∧ dq NM 818 (.iaload) 1 = true ∧ dq NM 819 (.aload_n 0) 1 = true := by decide +kernel
theorem dL_law_800 : decode (mB NM) 800 = .ok (.iaload, 1) := dqo gL_law_800.1
theorem dL_law_801 : decode (mB NM) 801 = .ok (.aload_n 0, 1) := dqo gL_law_800.2.1
theorem dL_law_802 : decode (mB NM) 802 = .ok (.iload_n 3, 1) := dqo gL_law_800.2.2.1
theorem dL_law_803 : decode (mB NM) 803 = .ok (.iconst 3, 1) := dqo gL_law_800.2.2.2.1
theorem dL_law_804 : decode (mB NM) 804 = .ok (.iadd, 1) := dqo gL_law_800.2.2.2.2.1
theorem dL_law_805 : decode (mB NM) 805 = .ok (.iaload, 1) := dqo gL_law_800.2.2.2.2.2.1
theorem dL_law_806 : decode (mB NM) 806 = .ok (.invokevirtual 94, 3) := dqo gL_law_800.2.2.2.2.2.2.1
theorem dL_law_809 : decode (mB NM) 809 = .ok (.pop, 1) := dqo gL_law_800.2.2.2.2.2.2.2.1
theorem dL_law_810 : decode (mB NM) 810 = .ok (.goto 702, 3) := dqo gL_law_800.2.2.2.2.2.2.2.2.1
theorem dL_law_813 : decode (mB NM) 813 = .ok (.aload_n 1, 1) := dqo gL_law_800.2.2.2.2.2.2.2.2.2.1
theorem dL_law_814 : decode (mB NM) 814 = .ok (.aload_n 0, 1) := dqo gL_law_800.2.2.2.2.2.2.2.2.2.2.1
theorem dL_law_815 : decode (mB NM) 815 = .ok (.iload_n 3, 1) := dqo gL_law_800.2.2.2.2.2.2.2.2.2.2.2.1
theorem dL_law_816 : decode (mB NM) 816 = .ok (.iconst 1, 1) := dqo gL_law_800.2.2.2.2.2.2.2.2.2.2.2.2.1
theorem dL_law_817 : decode (mB NM) 817 = .ok (.iadd, 1) := dqo gL_law_800.2.2.2.2.2.2.2.2.2.2.2.2.2.1
theorem dL_law_818 : decode (mB NM) 818 = .ok (.iaload, 1) := dqo gL_law_800.2.2.2.2.2.2.2.2.2.2.2.2.2.2.1
theorem dL_law_819 : decode (mB NM) 819 = .ok (.aload_n 0, 1) := dqo gL_law_800.2.2.2.2.2.2.2.2.2.2.2.2.2.2.2
theorem gL_law_820 : dq NM 820 (.iload_n 3) 1 = true ∧ dq NM 821 (.iconst 2) 1 = true ∧ dq NM 822 (.iadd) 1 = true ∧ dq NM 823 (.iaload) 1 = true ∧ dq NM 824 (.invokevirtual 95) 3 = true ∧ dq NM 827 (.pop) 1 = true ∧ dq NM 828 (.aload_n 2) 1 = true ∧ dq NM 829 (.aload_n 0) 1 = true ∧ dq NM 830 (.iload_n 3) 1 = true ∧ dq NM 831 (.iconst 1) 1 = true ∧ dq NM 832 (.iadd) 1 = true ∧ dq NM 833 (.iaload) 1 = true ∧ dq NM 834 (.aload_n 0) 1 = true ∧ dq NM 835 (.iload_n 3) 1 = true ∧ dq NM 836 (.iconst 2) 1 = true ∧ dq NM 837 (.iadd) 1 = true := by decide +kernel
theorem dL_law_820 : decode (mB NM) 820 = .ok (.iload_n 3, 1) := dqo gL_law_820.1
theorem dL_law_821 : decode (mB NM) 821 = .ok (.iconst 2, 1) := dqo gL_law_820.2.1
theorem dL_law_822 : decode (mB NM) 822 = .ok (.iadd, 1) := dqo gL_law_820.2.2.1
theorem dL_law_823 : decode (mB NM) 823 = .ok (.iaload, 1) := dqo gL_law_820.2.2.2.1
theorem dL_law_824 : decode (mB NM) 824 = .ok (.invokevirtual 95, 3) := dqo gL_law_820.2.2.2.2.1
theorem dL_law_827 : decode (mB NM) 827 = .ok (.pop, 1) := dqo gL_law_820.2.2.2.2.2.1
theorem dL_law_828 : decode (mB NM) 828 = .ok (.aload_n 2, 1) := dqo gL_law_820.2.2.2.2.2.2.1
theorem dL_law_829 : decode (mB NM) 829 = .ok (.aload_n 0, 1) := dqo gL_law_820.2.2.2.2.2.2.2.1
theorem dL_law_830 : decode (mB NM) 830 = .ok (.iload_n 3, 1) := dqo gL_law_820.2.2.2.2.2.2.2.2.1
theorem dL_law_831 : decode (mB NM) 831 = .ok (.iconst 1, 1) := dqo gL_law_820.2.2.2.2.2.2.2.2.2.1
theorem dL_law_832 : decode (mB NM) 832 = .ok (.iadd, 1) := dqo gL_law_820.2.2.2.2.2.2.2.2.2.2.1
theorem dL_law_833 : decode (mB NM) 833 = .ok (.iaload, 1) := dqo gL_law_820.2.2.2.2.2.2.2.2.2.2.2.1
theorem dL_law_834 : decode (mB NM) 834 = .ok (.aload_n 0, 1) := dqo gL_law_820.2.2.2.2.2.2.2.2.2.2.2.2.1
theorem dL_law_835 : decode (mB NM) 835 = .ok (.iload_n 3, 1) := dqo gL_law_820.2.2.2.2.2.2.2.2.2.2.2.2.2.1
theorem dL_law_836 : decode (mB NM) 836 = .ok (.iconst 2, 1) := dqo gL_law_820.2.2.2.2.2.2.2.2.2.2.2.2.2.2.1
theorem dL_law_837 : decode (mB NM) 837 = .ok (.iadd, 1) := dqo gL_law_820.2.2.2.2.2.2.2.2.2.2.2.2.2.2.2
theorem gL_law_838 : dq NM 838 (.iaload) 1 = true ∧ dq NM 839 (.invokevirtual 98) 3 = true ∧ dq NM 842 (.pop) 1 = true ∧ dq NM 843 (.goto 669) 3 = true ∧ dq NM 846 (.aload_n 1) 1 = true ∧ dq NM 847 (.aload_n 0) 1 = true ∧ dq NM 848 (.iload_n 3) 1 = true ∧ dq NM 849 (.iconst 1) 1 = true ∧ dq NM 850 (.iadd) 1 = true ∧ dq NM 851 (.iaload) 1 = true ∧ dq NM 852 (.aload_n 0) 1 = true ∧ dq NM 853 (.iload_n 3) 1 = true ∧ dq NM 854 (.iconst 2) 1 = true ∧ dq NM 855 (.iadd) 1 = true ∧ dq NM 856 (.iaload) 1 = true ∧ dq NM 857 (.invokevirtual 99) 3 = true := by decide +kernel
theorem dL_law_838 : decode (mB NM) 838 = .ok (.iaload, 1) := dqo gL_law_838.1
theorem dL_law_839 : decode (mB NM) 839 = .ok (.invokevirtual 98, 3) := dqo gL_law_838.2.1
theorem dL_law_842 : decode (mB NM) 842 = .ok (.pop, 1) := dqo gL_law_838.2.2.1
theorem dL_law_843 : decode (mB NM) 843 = .ok (.goto 669, 3) := dqo gL_law_838.2.2.2.1
theorem dL_law_846 : decode (mB NM) 846 = .ok (.aload_n 1, 1) := dqo gL_law_838.2.2.2.2.1
theorem dL_law_847 : decode (mB NM) 847 = .ok (.aload_n 0, 1) := dqo gL_law_838.2.2.2.2.2.1
theorem dL_law_848 : decode (mB NM) 848 = .ok (.iload_n 3, 1) := dqo gL_law_838.2.2.2.2.2.2.1
theorem dL_law_849 : decode (mB NM) 849 = .ok (.iconst 1, 1) := dqo gL_law_838.2.2.2.2.2.2.2.1
theorem dL_law_850 : decode (mB NM) 850 = .ok (.iadd, 1) := dqo gL_law_838.2.2.2.2.2.2.2.2.1
theorem dL_law_851 : decode (mB NM) 851 = .ok (.iaload, 1) := dqo gL_law_838.2.2.2.2.2.2.2.2.2.1
theorem dL_law_852 : decode (mB NM) 852 = .ok (.aload_n 0, 1) := dqo gL_law_838.2.2.2.2.2.2.2.2.2.2.1
theorem dL_law_853 : decode (mB NM) 853 = .ok (.iload_n 3, 1) := dqo gL_law_838.2.2.2.2.2.2.2.2.2.2.2.1
theorem dL_law_854 : decode (mB NM) 854 = .ok (.iconst 2, 1) := dqo gL_law_838.2.2.2.2.2.2.2.2.2.2.2.2.1
theorem dL_law_855 : decode (mB NM) 855 = .ok (.iadd, 1) := dqo gL_law_838.2.2.2.2.2.2.2.2.2.2.2.2.2.1
theorem dL_law_856 : decode (mB NM) 856 = .ok (.iaload, 1) := dqo gL_law_838.2.2.2.2.2.2.2.2.2.2.2.2.2.2.1
theorem dL_law_857 : decode (mB NM) 857 = .ok (.invokevirtual 99, 3) := dqo gL_law_838.2.2.2.2.2.2.2.2.2.2.2.2.2.2.2
theorem gL_law_860 : dq NM 860 (.pop) 1 = true ∧ dq NM 861 (.aload_n 2) 1 = true ∧ dq NM 862 (.aload_n 0) 1 = true ∧ dq NM 863 (.iload_n 3) 1 = true ∧ dq NM 864 (.iconst 1) 1 = true ∧ dq NM 865 (.iadd) 1 = true ∧ dq NM 866 (.iaload) 1 = true ∧ dq NM 867 (.aload_n 0) 1 = true ∧ dq NM 868 (.iload_n 3) 1 = true ∧ dq NM 869 (.iconst 2) 1 = true ∧ dq NM 870 (.iadd) 1 = true ∧ dq NM 871 (.iaload) 1 = true ∧ dq NM 872 (.invokevirtual 102) 3 = true ∧ dq NM 875 (.pop) 1 = true ∧ dq NM 876 (.goto 636) 3 = true ∧ dq NM 879 (.aload_n 1) 1 = true := by decide +kernel
theorem dL_law_860 : decode (mB NM) 860 = .ok (.pop, 1) := dqo gL_law_860.1
theorem dL_law_861 : decode (mB NM) 861 = .ok (.aload_n 2, 1) := dqo gL_law_860.2.1
theorem dL_law_862 : decode (mB NM) 862 = .ok (.aload_n 0, 1) := dqo gL_law_860.2.2.1
theorem dL_law_863 : decode (mB NM) 863 = .ok (.iload_n 3, 1) := dqo gL_law_860.2.2.2.1
theorem dL_law_864 : decode (mB NM) 864 = .ok (.iconst 1, 1) := dqo gL_law_860.2.2.2.2.1
theorem dL_law_865 : decode (mB NM) 865 = .ok (.iadd, 1) := dqo gL_law_860.2.2.2.2.2.1
theorem dL_law_866 : decode (mB NM) 866 = .ok (.iaload, 1) := dqo gL_law_860.2.2.2.2.2.2.1
theorem dL_law_867 : decode (mB NM) 867 = .ok (.aload_n 0, 1) := dqo gL_law_860.2.2.2.2.2.2.2.1
theorem dL_law_868 : decode (mB NM) 868 = .ok (.iload_n 3, 1) := dqo gL_law_860.2.2.2.2.2.2.2.2.1
theorem dL_law_869 : decode (mB NM) 869 = .ok (.iconst 2, 1) := dqo gL_law_860.2.2.2.2.2.2.2.2.2.1
theorem dL_law_870 : decode (mB NM) 870 = .ok (.iadd, 1) := dqo gL_law_860.2.2.2.2.2.2.2.2.2.2.1
theorem dL_law_871 : decode (mB NM) 871 = .ok (.iaload, 1) := dqo gL_law_860.2.2.2.2.2.2.2.2.2.2.2.1
theorem dL_law_872 : decode (mB NM) 872 = .ok (.invokevirtual 102, 3) := dqo gL_law_860.2.2.2.2.2.2.2.2.2.2.2.2.1
theorem dL_law_875 : decode (mB NM) 875 = .ok (.pop, 1) := dqo gL_law_860.2.2.2.2.2.2.2.2.2.2.2.2.2.1
theorem dL_law_876 : decode (mB NM) 876 = .ok (.goto 636, 3) := dqo gL_law_860.2.2.2.2.2.2.2.2.2.2.2.2.2.2.1
theorem dL_law_879 : decode (mB NM) 879 = .ok (.aload_n 1, 1) := dqo gL_law_860.2.2.2.2.2.2.2.2.2.2.2.2.2.2.2
theorem gL_law_880 : dq NM 880 (.invokevirtual 103) 3 = true ∧ dq NM 883 (.pop) 1 = true ∧ dq NM 884 (.aload_n 2) 1 = true ∧ dq NM 885 (.invokevirtual 106) 3 = true ∧ dq NM 888 (.pop) 1 = true ∧ dq NM 889 (.goto 623) 3 = true ∧ dq NM 892 (.aload_n 1) 1 = true ∧ dq NM 893 (.aload_n 0) 1 = true ∧ dq NM 894 (.iload_n 3) 1 = true ∧ dq NM 895 (.iconst 1) 1 = true ∧ dq NM 896 (.iadd) 1 = true ∧ dq NM 897 (.iaload) 1 = true ∧ dq NM 898 (.aload_n 0) 1 = true ∧ dq NM 899 (.iload_n 3) 1 = true ∧ dq NM 900 (.iconst 2) 1 = true ∧ dq NM 901 (.iadd) 1 = true := by decide +kernel
theorem dL_law_880 : decode (mB NM) 880 = .ok (.invokevirtual 103, 3) := dqo gL_law_880.1
theorem dL_law_883 : decode (mB NM) 883 = .ok (.pop, 1) := dqo gL_law_880.2.1
theorem dL_law_884 : decode (mB NM) 884 = .ok (.aload_n 2, 1) := dqo gL_law_880.2.2.1
theorem dL_law_885 : decode (mB NM) 885 = .ok (.invokevirtual 106, 3) := dqo gL_law_880.2.2.2.1
theorem dL_law_888 : decode (mB NM) 888 = .ok (.pop, 1) := dqo gL_law_880.2.2.2.2.1
theorem dL_law_889 : decode (mB NM) 889 = .ok (.goto 623, 3) := dqo gL_law_880.2.2.2.2.2.1
theorem dL_law_892 : decode (mB NM) 892 = .ok (.aload_n 1, 1) := dqo gL_law_880.2.2.2.2.2.2.1
theorem dL_law_893 : decode (mB NM) 893 = .ok (.aload_n 0, 1) := dqo gL_law_880.2.2.2.2.2.2.2.1
theorem dL_law_894 : decode (mB NM) 894 = .ok (.iload_n 3, 1) := dqo gL_law_880.2.2.2.2.2.2.2.2.1
theorem dL_law_895 : decode (mB NM) 895 = .ok (.iconst 1, 1) := dqo gL_law_880.2.2.2.2.2.2.2.2.2.1
theorem dL_law_896 : decode (mB NM) 896 = .ok (.iadd, 1) := dqo gL_law_880.2.2.2.2.2.2.2.2.2.2.1
theorem dL_law_897 : decode (mB NM) 897 = .ok (.iaload, 1) := dqo gL_law_880.2.2.2.2.2.2.2.2.2.2.2.1
theorem dL_law_898 : decode (mB NM) 898 = .ok (.aload_n 0, 1) := dqo gL_law_880.2.2.2.2.2.2.2.2.2.2.2.2.1
theorem dL_law_899 : decode (mB NM) 899 = .ok (.iload_n 3, 1) := dqo gL_law_880.2.2.2.2.2.2.2.2.2.2.2.2.2.1
theorem dL_law_900 : decode (mB NM) 900 = .ok (.iconst 2, 1) := dqo gL_law_880.2.2.2.2.2.2.2.2.2.2.2.2.2.2.1
theorem dL_law_901 : decode (mB NM) 901 = .ok (.iadd, 1) := dqo gL_law_880.2.2.2.2.2.2.2.2.2.2.2.2.2.2.2
theorem gL_law_902 : dq NM 902 (.iaload) 1 = true ∧ dq NM 903 (.aload_n 0) 1 = true ∧ dq NM 904 (.iload_n 3) 1 = true ∧ dq NM 905 (.iconst 3) 1 = true ∧ dq NM 906 (.iadd) 1 = true ∧ dq NM 907 (.iaload) 1 = true ∧ dq NM 908 (.invokevirtual 107) 3 = true ∧ dq NM 911 (.pop) 1 = true ∧ dq NM 912 (.aload_n 2) 1 = true ∧ dq NM 913 (.aload_n 0) 1 = true ∧ dq NM 914 (.iload_n 3) 1 = true ∧ dq NM 915 (.iconst 1) 1 = true ∧ dq NM 916 (.iadd) 1 = true ∧ dq NM 917 (.iaload) 1 = true ∧ dq NM 918 (.aload_n 0) 1 = true ∧ dq NM 919 (.iload_n 3) 1 = true := by decide +kernel
theorem dL_law_902 : decode (mB NM) 902 = .ok (.iaload, 1) := dqo gL_law_902.1
theorem dL_law_903 : decode (mB NM) 903 = .ok (.aload_n 0, 1) := dqo gL_law_902.2.1
theorem dL_law_904 : decode (mB NM) 904 = .ok (.iload_n 3, 1) := dqo gL_law_902.2.2.1
theorem dL_law_905 : decode (mB NM) 905 = .ok (.iconst 3, 1) := dqo gL_law_902.2.2.2.1
theorem dL_law_906 : decode (mB NM) 906 = .ok (.iadd, 1) := dqo gL_law_902.2.2.2.2.1
theorem dL_law_907 : decode (mB NM) 907 = .ok (.iaload, 1) := dqo gL_law_902.2.2.2.2.2.1
theorem dL_law_908 : decode (mB NM) 908 = .ok (.invokevirtual 107, 3) := dqo gL_law_902.2.2.2.2.2.2.1
theorem dL_law_911 : decode (mB NM) 911 = .ok (.pop, 1) := dqo gL_law_902.2.2.2.2.2.2.2.1
theorem dL_law_912 : decode (mB NM) 912 = .ok (.aload_n 2, 1) := dqo gL_law_902.2.2.2.2.2.2.2.2.1
theorem dL_law_913 : decode (mB NM) 913 = .ok (.aload_n 0, 1) := dqo gL_law_902.2.2.2.2.2.2.2.2.2.1
theorem dL_law_914 : decode (mB NM) 914 = .ok (.iload_n 3, 1) := dqo gL_law_902.2.2.2.2.2.2.2.2.2.2.1
theorem dL_law_915 : decode (mB NM) 915 = .ok (.iconst 1, 1) := dqo gL_law_902.2.2.2.2.2.2.2.2.2.2.2.1
theorem dL_law_916 : decode (mB NM) 916 = .ok (.iadd, 1) := dqo gL_law_902.2.2.2.2.2.2.2.2.2.2.2.2.1
theorem dL_law_917 : decode (mB NM) 917 = .ok (.iaload, 1) := dqo gL_law_902.2.2.2.2.2.2.2.2.2.2.2.2.2.1
theorem dL_law_918 : decode (mB NM) 918 = .ok (.aload_n 0, 1) := dqo gL_law_902.2.2.2.2.2.2.2.2.2.2.2.2.2.2.1
theorem dL_law_919 : decode (mB NM) 919 = .ok (.iload_n 3, 1) := dqo gL_law_902.2.2.2.2.2.2.2.2.2.2.2.2.2.2.2
theorem gL_law_920 : dq NM 920 (.iconst 2) 1 = true ∧ dq NM 921 (.iadd) 1 = true ∧ dq NM 922 (.iaload) 1 = true ∧ dq NM 923 (.aload_n 0) 1 = true ∧ dq NM 924 (.iload_n 3) 1 = true ∧ dq NM 925 (.iconst 3) 1 = true ∧ dq NM 926 (.iadd) 1 = true ∧ dq NM 927 (.iaload) 1 = true ∧ dq NM 928 (.invokevirtual 110) 3 = true ∧ dq NM 931 (.pop) 1 = true ∧ dq NM 932 (.goto 580) 3 = true ∧ dq NM 935 (.aload_n 1) 1 = true ∧ dq NM 936 (.aload_n 0) 1 = true ∧ dq NM 937 (.iload_n 3) 1 = true ∧ dq NM 938 (.iconst 1) 1 = true ∧ dq NM 939 (.iadd) 1 = true := by decide +kernel
theorem dL_law_920 : decode (mB NM) 920 = .ok (.iconst 2, 1) := dqo gL_law_920.1
theorem dL_law_921 : decode (mB NM) 921 = .ok (.iadd, 1) := dqo gL_law_920.2.1
theorem dL_law_922 : decode (mB NM) 922 = .ok (.iaload, 1) := dqo gL_law_920.2.2.1
theorem dL_law_923 : decode (mB NM) 923 = .ok (.aload_n 0, 1) := dqo gL_law_920.2.2.2.1
theorem dL_law_924 : decode (mB NM) 924 = .ok (.iload_n 3, 1) := dqo gL_law_920.2.2.2.2.1
theorem dL_law_925 : decode (mB NM) 925 = .ok (.iconst 3, 1) := dqo gL_law_920.2.2.2.2.2.1
theorem dL_law_926 : decode (mB NM) 926 = .ok (.iadd, 1) := dqo gL_law_920.2.2.2.2.2.2.1
theorem dL_law_927 : decode (mB NM) 927 = .ok (.iaload, 1) := dqo gL_law_920.2.2.2.2.2.2.2.1
theorem dL_law_928 : decode (mB NM) 928 = .ok (.invokevirtual 110, 3) := dqo gL_law_920.2.2.2.2.2.2.2.2.1
theorem dL_law_931 : decode (mB NM) 931 = .ok (.pop, 1) := dqo gL_law_920.2.2.2.2.2.2.2.2.2.1
theorem dL_law_932 : decode (mB NM) 932 = .ok (.goto 580, 3) := dqo gL_law_920.2.2.2.2.2.2.2.2.2.2.1
theorem dL_law_935 : decode (mB NM) 935 = .ok (.aload_n 1, 1) := dqo gL_law_920.2.2.2.2.2.2.2.2.2.2.2.1
theorem dL_law_936 : decode (mB NM) 936 = .ok (.aload_n 0, 1) := dqo gL_law_920.2.2.2.2.2.2.2.2.2.2.2.2.1
theorem dL_law_937 : decode (mB NM) 937 = .ok (.iload_n 3, 1) := dqo gL_law_920.2.2.2.2.2.2.2.2.2.2.2.2.2.1
theorem dL_law_938 : decode (mB NM) 938 = .ok (.iconst 1, 1) := dqo gL_law_920.2.2.2.2.2.2.2.2.2.2.2.2.2.2.1
theorem dL_law_939 : decode (mB NM) 939 = .ok (.iadd, 1) := dqo gL_law_920.2.2.2.2.2.2.2.2.2.2.2.2.2.2.2
theorem gL_law_940 : dq NM 940 (.iaload) 1 = true ∧ dq NM 941 (.aload_n 0) 1 = true ∧ dq NM 942 (.iload_n 3) 1 = true ∧ dq NM 943 (.iconst 2) 1 = true ∧ dq NM 944 (.iadd) 1 = true ∧ dq NM 945 (.iaload) 1 = true ∧ dq NM 946 (.aload_n 0) 1 = true ∧ dq NM 947 (.iload_n 3) 1 = true ∧ dq NM 948 (.iconst 3) 1 = true ∧ dq NM 949 (.iadd) 1 = true ∧ dq NM 950 (.iaload) 1 = true ∧ dq NM 951 (.invokevirtual 111) 3 = true ∧ dq NM 954 (.pop) 1 = true ∧ dq NM 955 (.aload_n 2) 1 = true ∧ dq NM 956 (.aload_n 0) 1 = true ∧ dq NM 957 (.iload_n 3) 1 = true := by decide +kernel
theorem dL_law_940 : decode (mB NM) 940 = .ok (.iaload, 1) := dqo gL_law_940.1
theorem dL_law_941 : decode (mB NM) 941 = .ok (.aload_n 0, 1) := dqo gL_law_940.2.1
theorem dL_law_942 : decode (mB NM) 942 = .ok (.iload_n 3, 1) := dqo gL_law_940.2.2.1
theorem dL_law_943 : decode (mB NM) 943 = .ok (.iconst 2, 1) := dqo gL_law_940.2.2.2.1
theorem dL_law_944 : decode (mB NM) 944 = .ok (.iadd, 1) := dqo gL_law_940.2.2.2.2.1
theorem dL_law_945 : decode (mB NM) 945 = .ok (.iaload, 1) := dqo gL_law_940.2.2.2.2.2.1
theorem dL_law_946 : decode (mB NM) 946 = .ok (.aload_n 0, 1) := dqo gL_law_940.2.2.2.2.2.2.1
theorem dL_law_947 : decode (mB NM) 947 = .ok (.iload_n 3, 1) := dqo gL_law_940.2.2.2.2.2.2.2.1
theorem dL_law_948 : decode (mB NM) 948 = .ok (.iconst 3, 1) := dqo gL_law_940.2.2.2.2.2.2.2.2.1
theorem dL_law_949 : decode (mB NM) 949 = .ok (.iadd, 1) := dqo gL_law_940.2.2.2.2.2.2.2.2.2.1
theorem dL_law_950 : decode (mB NM) 950 = .ok (.iaload, 1) := dqo gL_law_940.2.2.2.2.2.2.2.2.2.2.1
theorem dL_law_951 : decode (mB NM) 951 = .ok (.invokevirtual 111, 3) := dqo gL_law_940.2.2.2.2.2.2.2.2.2.2.2.1
theorem dL_law_954 : decode (mB NM) 954 = .ok (.pop, 1) := dqo gL_law_940.2.2.2.2.2.2.2.2.2.2.2.2.1
theorem dL_law_955 : decode (mB NM) 955 = .ok (.aload_n 2, 1) := dqo gL_law_940.2.2.2.2.2.2.2.2.2.2.2.2.2.1
theorem dL_law_956 : decode (mB NM) 956 = .ok (.aload_n 0, 1) := dqo gL_law_940.2.2.2.2.2.2.2.2.2.2.2.2.2.2.1
theorem dL_law_957 : decode (mB NM) 957 = .ok (.iload_n 3, 1) := dqo gL_law_940.2.2.2.2.2.2.2.2.2.2.2.2.2.2.2
theorem gL_law_958 : dq NM 958 (.iconst 1) 1 = true ∧ dq NM 959 (.iadd) 1 = true ∧ dq NM 960 (.iaload) 1 = true ∧ dq NM 961 (.aload_n 0) 1 = true ∧ dq NM 962 (.iload_n 3) 1 = true ∧ dq NM 963 (.iconst 2) 1 = true ∧ dq NM 964 (.iadd) 1 = true ∧ dq NM 965 (.iaload) 1 = true ∧ dq NM 966 (.aload_n 0) 1 = true ∧ dq NM 967 (.iload_n 3) 1 = true ∧ dq NM 968 (.iconst 3) 1 = true ∧ dq NM 969 (.iadd) 1 = true ∧ dq NM 970 (.iaload) 1 = true ∧ dq NM 971 (.invokevirtual 114) 3 = true ∧ dq NM 974 (.pop) 1 = true ∧ dq NM 975 (.goto 537) 3 = true := by decide +kernel
theorem dL_law_958 : decode (mB NM) 958 = .ok (.iconst 1, 1) := dqo gL_law_958.1
theorem dL_law_959 : decode (mB NM) 959 = .ok (.iadd, 1) := dqo gL_law_958.2.1
theorem dL_law_960 : decode (mB NM) 960 = .ok (.iaload, 1) := dqo gL_law_958.2.2.1
theorem dL_law_961 : decode (mB NM) 961 = .ok (.aload_n 0, 1) := dqo gL_law_958.2.2.2.1
theorem dL_law_962 : decode (mB NM) 962 = .ok (.iload_n 3, 1) := dqo gL_law_958.2.2.2.2.1
theorem dL_law_963 : decode (mB NM) 963 = .ok (.iconst 2, 1) := dqo gL_law_958.2.2.2.2.2.1
theorem dL_law_964 : decode (mB NM) 964 = .ok (.iadd, 1) := dqo gL_law_958.2.2.2.2.2.2.1
theorem dL_law_965 : decode (mB NM) 965 = .ok (.iaload, 1) := dqo gL_law_958.2.2.2.2.2.2.2.1
theorem dL_law_966 : decode (mB NM) 966 = .ok (.aload_n 0, 1) := dqo gL_law_958.2.2.2.2.2.2.2.2.1
theorem dL_law_967 : decode (mB NM) 967 = .ok (.iload_n 3, 1) := dqo gL_law_958.2.2.2.2.2.2.2.2.2.1
theorem dL_law_968 : decode (mB NM) 968 = .ok (.iconst 3, 1) := dqo gL_law_958.2.2.2.2.2.2.2.2.2.2.1
theorem dL_law_969 : decode (mB NM) 969 = .ok (.iadd, 1) := dqo gL_law_958.2.2.2.2.2.2.2.2.2.2.2.1
theorem dL_law_970 : decode (mB NM) 970 = .ok (.iaload, 1) := dqo gL_law_958.2.2.2.2.2.2.2.2.2.2.2.2.1
theorem dL_law_971 : decode (mB NM) 971 = .ok (.invokevirtual 114, 3) := dqo gL_law_958.2.2.2.2.2.2.2.2.2.2.2.2.2.1
theorem dL_law_974 : decode (mB NM) 974 = .ok (.pop, 1) := dqo gL_law_958.2.2.2.2.2.2.2.2.2.2.2.2.2.2.1
theorem dL_law_975 : decode (mB NM) 975 = .ok (.goto 537, 3) := dqo gL_law_958.2.2.2.2.2.2.2.2.2.2.2.2.2.2.2
theorem gL_law_978 : dq NM 978 (.aload_n 1) 1 = true ∧ dq NM 979 (.aload_n 0) 1 = true ∧ dq NM 980 (.iload_n 3) 1 = true ∧ dq NM 981 (.iconst 1) 1 = true ∧ dq NM 982 (.iadd) 1 = true ∧ dq NM 983 (.iaload) 1 = true ∧ dq NM 984 (.aload_n 0) 1 = true ∧ dq NM 985 (.iload_n 3) 1 = true ∧ dq NM 986 (.iconst 2) 1 = true ∧ dq NM 987 (.iadd) 1 = true ∧ dq NM 988 (.iaload) 1 = true ∧ dq NM 989 (.invokevirtual 115) 3 = true ∧ dq NM 992 (.pop) 1 = true ∧ dq NM 993 (.aload_n 2) 1 = true ∧ dq NM 994 (.aload_n 0) 1 = true ∧ dq NM 995 (.iload_n 3) 1 = true := by decide +kernel
theorem dL_law_978 : decode (mB NM) 978 = .ok (.aload_n 1, 1) := dqo gL_law_978.1
theorem dL_law_979 : decode (mB NM) 979 = .ok (.aload_n 0, 1) := dqo gL_law_978.2.1
theorem dL_law_980 : decode (mB NM) 980 = .ok (.iload_n 3, 1) := dqo gL_law_978.2.2.1
theorem dL_law_981 : decode (mB NM) 981 = .ok (.iconst 1, 1) := dqo gL_law_978.2.2.2.1
theorem dL_law_982 : decode (mB NM) 982 = .ok (.iadd, 1) := dqo gL_law_978.2.2.2.2.1
theorem dL_law_983 : decode (mB NM) 983 = .ok (.iaload, 1) := dqo gL_law_978.2.2.2.2.2.1
theorem dL_law_984 : decode (mB NM) 984 = .ok (.aload_n 0, 1) := dqo gL_law_978.2.2.2.2.2.2.1
theorem dL_law_985 : decode (mB NM) 985 = .ok (.iload_n 3, 1) := dqo gL_law_978.2.2.2.2.2.2.2.1
theorem dL_law_986 : decode (mB NM) 986 = .ok (.iconst 2, 1) := dqo gL_law_978.2.2.2.2.2.2.2.2.1
theorem dL_law_987 : decode (mB NM) 987 = .ok (.iadd, 1) := dqo gL_law_978.2.2.2.2.2.2.2.2.2.1
theorem dL_law_988 : decode (mB NM) 988 = .ok (.iaload, 1) := dqo gL_law_978.2.2.2.2.2.2.2.2.2.2.1
theorem dL_law_989 : decode (mB NM) 989 = .ok (.invokevirtual 115, 3) := dqo gL_law_978.2.2.2.2.2.2.2.2.2.2.2.1
theorem dL_law_992 : decode (mB NM) 992 = .ok (.pop, 1) := dqo gL_law_978.2.2.2.2.2.2.2.2.2.2.2.2.1
theorem dL_law_993 : decode (mB NM) 993 = .ok (.aload_n 2, 1) := dqo gL_law_978.2.2.2.2.2.2.2.2.2.2.2.2.2.1
theorem dL_law_994 : decode (mB NM) 994 = .ok (.aload_n 0, 1) := dqo gL_law_978.2.2.2.2.2.2.2.2.2.2.2.2.2.2.1
theorem dL_law_995 : decode (mB NM) 995 = .ok (.iload_n 3, 1) := dqo gL_law_978.2.2.2.2.2.2.2.2.2.2.2.2.2.2.2
theorem gL_law_996 : dq NM 996 (.iconst 1) 1 = true ∧ dq NM 997 (.iadd) 1 = true ∧ dq NM 998 (.iaload) 1 = true ∧ dq NM 999 (.aload_n 0) 1 = true ∧ dq NM 1000 (.iload_n 3) 1 = true ∧ dq NM 1001 (.iconst 2) 1 = true ∧ dq NM 1002 (.iadd) 1 = true ∧ dq NM 1003 (.iaload) 1 = true ∧ dq NM 1004 (.invokevirtual 118) 3 = true ∧ dq NM 1007 (.pop) 1 = true ∧ dq NM 1008 (.goto 504) 3 = true ∧ dq NM 1011 (.aload_n 1) 1 = true ∧ dq NM 1012 (.aload_n 0) 1 = true ∧ dq NM 1013 (.iload_n 3) 1 = true ∧ dq NM 1014 (.iconst 1) 1 = true ∧ dq NM 1015 (.iadd) 1 = true := by decide +kernel
theorem dL_law_996 : decode (mB NM) 996 = .ok (.iconst 1, 1) := dqo gL_law_996.1
theorem dL_law_997 : decode (mB NM) 997 = .ok (.iadd, 1) := dqo gL_law_996.2.1
theorem dL_law_998 : decode (mB NM) 998 = .ok (.iaload, 1) := dqo gL_law_996.2.2.1
theorem dL_law_999 : decode (mB NM) 999 = .ok (.aload_n 0, 1) := dqo gL_law_996.2.2.2.1
theorem dL_law_1000 : decode (mB NM) 1000 = .ok (.iload_n 3, 1) := dqo gL_law_996.2.2.2.2.1
theorem dL_law_1001 : decode (mB NM) 1001 = .ok (.iconst 2, 1) := dqo gL_law_996.2.2.2.2.2.1
theorem dL_law_1002 : decode (mB NM) 1002 = .ok (.iadd, 1) := dqo gL_law_996.2.2.2.2.2.2.1
theorem dL_law_1003 : decode (mB NM) 1003 = .ok (.iaload, 1) := dqo gL_law_996.2.2.2.2.2.2.2.1
theorem dL_law_1004 : decode (mB NM) 1004 = .ok (.invokevirtual 118, 3) := dqo gL_law_996.2.2.2.2.2.2.2.2.1
theorem dL_law_1007 : decode (mB NM) 1007 = .ok (.pop, 1) := dqo gL_law_996.2.2.2.2.2.2.2.2.2.1
theorem dL_law_1008 : decode (mB NM) 1008 = .ok (.goto 504, 3) := dqo gL_law_996.2.2.2.2.2.2.2.2.2.2.1
theorem dL_law_1011 : decode (mB NM) 1011 = .ok (.aload_n 1, 1) := dqo gL_law_996.2.2.2.2.2.2.2.2.2.2.2.1
theorem dL_law_1012 : decode (mB NM) 1012 = .ok (.aload_n 0, 1) := dqo gL_law_996.2.2.2.2.2.2.2.2.2.2.2.2.1
theorem dL_law_1013 : decode (mB NM) 1013 = .ok (.iload_n 3, 1) := dqo gL_law_996.2.2.2.2.2.2.2.2.2.2.2.2.2.1
theorem dL_law_1014 : decode (mB NM) 1014 = .ok (.iconst 1, 1) := dqo gL_law_996.2.2.2.2.2.2.2.2.2.2.2.2.2.2.1
theorem dL_law_1015 : decode (mB NM) 1015 = .ok (.iadd, 1) := dqo gL_law_996.2.2.2.2.2.2.2.2.2.2.2.2.2.2.2
theorem gL_law_1016 : dq NM 1016 (.iaload) 1 = true ∧ dq NM 1017 (.invokevirtual 119) 3 = true ∧ dq NM 1020 (.pop) 1 = true ∧ dq NM 1021 (.aload_n 2) 1 = true ∧ dq NM 1022 (.aload_n 0) 1 = true ∧ dq NM 1023 (.iload_n 3) 1 = true ∧ dq NM 1024 (.iconst 1) 1 = true ∧ dq NM 1025 (.iadd) 1 = true ∧ dq NM 1026 (.iaload) 1 = true ∧ dq NM 1027 (.invokevirtual 122) 3 = true ∧ dq NM 1030 (.pop) 1 = true ∧ dq NM 1031 (.goto 481) 3 = true ∧ dq NM 1034 (.aload_n 1) 1 = true ∧ dq NM 1035 (.invokevirtual 123) 3 = true ∧ dq NM 1038 (.pop) 1 = true ∧ dq NM 1039 (.aload_n 2) 1 = true := by decide +kernel
theorem dL_law_1016 : decode (mB NM) 1016 = .ok (.iaload, 1) := dqo gL_law_1016.1
theorem dL_law_1017 : decode (mB NM) 1017 = .ok (.invokevirtual 119, 3) := dqo gL_law_1016.2.1
theorem dL_law_1020 : decode (mB NM) 1020 = .ok (.pop, 1) := dqo gL_law_1016.2.2.1
theorem dL_law_1021 : decode (mB NM) 1021 = .ok (.aload_n 2, 1) := dqo gL_law_1016.2.2.2.1
theorem dL_law_1022 : decode (mB NM) 1022 = .ok (.aload_n 0, 1) := dqo gL_law_1016.2.2.2.2.1
theorem dL_law_1023 : decode (mB NM) 1023 = .ok (.iload_n 3, 1) := dqo gL_law_1016.2.2.2.2.2.1
theorem dL_law_1024 : decode (mB NM) 1024 = .ok (.iconst 1, 1) := dqo gL_law_1016.2.2.2.2.2.2.1
theorem dL_law_1025 : decode (mB NM) 1025 = .ok (.iadd, 1) := dqo gL_law_1016.2.2.2.2.2.2.2.1
theorem dL_law_1026 : decode (mB NM) 1026 = .ok (.iaload, 1) := dqo gL_law_1016.2.2.2.2.2.2.2.2.1
theorem dL_law_1027 : decode (mB NM) 1027 = .ok (.invokevirtual 122, 3) := dqo gL_law_1016.2.2.2.2.2.2.2.2.2.1
theorem dL_law_1030 : decode (mB NM) 1030 = .ok (.pop, 1) := dqo gL_law_1016.2.2.2.2.2.2.2.2.2.2.1
theorem dL_law_1031 : decode (mB NM) 1031 = .ok (.goto 481, 3) := dqo gL_law_1016.2.2.2.2.2.2.2.2.2.2.2.1
theorem dL_law_1034 : decode (mB NM) 1034 = .ok (.aload_n 1, 1) := dqo gL_law_1016.2.2.2.2.2.2.2.2.2.2.2.2.1
theorem dL_law_1035 : decode (mB NM) 1035 = .ok (.invokevirtual 123, 3) := dqo gL_law_1016.2.2.2.2.2.2.2.2.2.2.2.2.2.1
theorem dL_law_1038 : decode (mB NM) 1038 = .ok (.pop, 1) := dqo gL_law_1016.2.2.2.2.2.2.2.2.2.2.2.2.2.2.1
theorem dL_law_1039 : decode (mB NM) 1039 = .ok (.aload_n 2, 1) := dqo gL_law_1016.2.2.2.2.2.2.2.2.2.2.2.2.2.2.2
theorem gL_law_1040 : dq NM 1040 (.invokevirtual 126) 3 = true ∧ dq NM 1043 (.pop) 1 = true ∧ dq NM 1044 (.goto 468) 3 = true ∧ dq NM 1047 (.aload_n 1) 1 = true ∧ dq NM 1048 (.aload_n 0) 1 = true ∧ dq NM 1049 (.iload_n 3) 1 = true ∧ dq NM 1050 (.iconst 1) 1 = true ∧ dq NM 1051 (.iadd) 1 = true ∧ dq NM 1052 (.iaload) 1 = true ∧ dq NM 1053 (.invokevirtual 127) 3 = true ∧ dq NM 1056 (.pop) 1 = true ∧ dq NM 1057 (.aload_n 2) 1 = true ∧ dq NM 1058 (.aload_n 0) 1 = true ∧ dq NM 1059 (.iload_n 3) 1 = true ∧ dq NM 1060 (.iconst 1) 1 = true ∧ dq NM 1061 (.iadd) 1 = true := by decide +kernel
theorem dL_law_1040 : decode (mB NM) 1040 = .ok (.invokevirtual 126, 3) := dqo gL_law_1040.1
theorem dL_law_1043 : decode (mB NM) 1043 = .ok (.pop, 1) := dqo gL_law_1040.2.1
theorem dL_law_1044 : decode (mB NM) 1044 = .ok (.goto 468, 3) := dqo gL_law_1040.2.2.1
theorem dL_law_1047 : decode (mB NM) 1047 = .ok (.aload_n 1, 1) := dqo gL_law_1040.2.2.2.1
theorem dL_law_1048 : decode (mB NM) 1048 = .ok (.aload_n 0, 1) := dqo gL_law_1040.2.2.2.2.1
theorem dL_law_1049 : decode (mB NM) 1049 = .ok (.iload_n 3, 1) := dqo gL_law_1040.2.2.2.2.2.1
theorem dL_law_1050 : decode (mB NM) 1050 = .ok (.iconst 1, 1) := dqo gL_law_1040.2.2.2.2.2.2.1
theorem dL_law_1051 : decode (mB NM) 1051 = .ok (.iadd, 1) := dqo gL_law_1040.2.2.2.2.2.2.2.1
theorem dL_law_1052 : decode (mB NM) 1052 = .ok (.iaload, 1) := dqo gL_law_1040.2.2.2.2.2.2.2.2.1
theorem dL_law_1053 : decode (mB NM) 1053 = .ok (.invokevirtual 127, 3) := dqo gL_law_1040.2.2.2.2.2.2.2.2.2.1
theorem dL_law_1056 : decode (mB NM) 1056 = .ok (.pop, 1) := dqo gL_law_1040.2.2.2.2.2.2.2.2.2.2.1
theorem dL_law_1057 : decode (mB NM) 1057 = .ok (.aload_n 2, 1) := dqo gL_law_1040.2.2.2.2.2.2.2.2.2.2.2.1
theorem dL_law_1058 : decode (mB NM) 1058 = .ok (.aload_n 0, 1) := dqo gL_law_1040.2.2.2.2.2.2.2.2.2.2.2.2.1
theorem dL_law_1059 : decode (mB NM) 1059 = .ok (.iload_n 3, 1) := dqo gL_law_1040.2.2.2.2.2.2.2.2.2.2.2.2.2.1
theorem dL_law_1060 : decode (mB NM) 1060 = .ok (.iconst 1, 1) := dqo gL_law_1040.2.2.2.2.2.2.2.2.2.2.2.2.2.2.1
theorem dL_law_1061 : decode (mB NM) 1061 = .ok (.iadd, 1) := dqo gL_law_1040.2.2.2.2.2.2.2.2.2.2.2.2.2.2.2
theorem gL_law_1062 : dq NM 1062 (.iaload) 1 = true ∧ dq NM 1063 (.invokevirtual 130) 3 = true ∧ dq NM 1066 (.pop) 1 = true ∧ dq NM 1067 (.goto 445) 3 = true ∧ dq NM 1070 (.aload_n 1) 1 = true ∧ dq NM 1071 (.invokevirtual 131) 3 = true ∧ dq NM 1074 (.pop) 1 = true ∧ dq NM 1075 (.aload_n 2) 1 = true ∧ dq NM 1076 (.invokevirtual 134) 3 = true ∧ dq NM 1079 (.pop) 1 = true ∧ dq NM 1080 (.goto 432) 3 = true ∧ dq NM 1083 (.aload_n 1) 1 = true ∧ dq NM 1084 (.invokevirtual 135) 3 = true ∧ dq NM 1087 (.pop) 1 = true ∧ dq NM 1088 (.aload_n 2) 1 = true ∧ dq NM 1089 (.invokevirtual 138) 3 = true := by decide +kernel
theorem dL_law_1062 : decode (mB NM) 1062 = .ok (.iaload, 1) := dqo gL_law_1062.1
theorem dL_law_1063 : decode (mB NM) 1063 = .ok (.invokevirtual 130, 3) := dqo gL_law_1062.2.1
theorem dL_law_1066 : decode (mB NM) 1066 = .ok (.pop, 1) := dqo gL_law_1062.2.2.1
theorem dL_law_1067 : decode (mB NM) 1067 = .ok (.goto 445, 3) := dqo gL_law_1062.2.2.2.1
theorem dL_law_1070 : decode (mB NM) 1070 = .ok (.aload_n 1, 1) := dqo gL_law_1062.2.2.2.2.1
theorem dL_law_1071 : decode (mB NM) 1071 = .ok (.invokevirtual 131, 3) := dqo gL_law_1062.2.2.2.2.2.1
theorem dL_law_1074 : decode (mB NM) 1074 = .ok (.pop, 1) := dqo gL_law_1062.2.2.2.2.2.2.1
theorem dL_law_1075 : decode (mB NM) 1075 = .ok (.aload_n 2, 1) := dqo gL_law_1062.2.2.2.2.2.2.2.1
theorem dL_law_1076 : decode (mB NM) 1076 = .ok (.invokevirtual 134, 3) := dqo gL_law_1062.2.2.2.2.2.2.2.2.1
theorem dL_law_1079 : decode (mB NM) 1079 = .ok (.pop, 1) := dqo gL_law_1062.2.2.2.2.2.2.2.2.2.1
theorem dL_law_1080 : decode (mB NM) 1080 = .ok (.goto 432, 3) := dqo gL_law_1062.2.2.2.2.2.2.2.2.2.2.1
theorem dL_law_1083 : decode (mB NM) 1083 = .ok (.aload_n 1, 1) := dqo gL_law_1062.2.2.2.2.2.2.2.2.2.2.2.1
theorem dL_law_1084 : decode (mB NM) 1084 = .ok (.invokevirtual 135, 3) := dqo gL_law_1062.2.2.2.2.2.2.2.2.2.2.2.2.1
theorem dL_law_1087 : decode (mB NM) 1087 = .ok (.pop, 1) := dqo gL_law_1062.2.2.2.2.2.2.2.2.2.2.2.2.2.1
theorem dL_law_1088 : decode (mB NM) 1088 = .ok (.aload_n 2, 1) := dqo gL_law_1062.2.2.2.2.2.2.2.2.2.2.2.2.2.2.1
theorem dL_law_1089 : decode (mB NM) 1089 = .ok (.invokevirtual 138, 3) := dqo gL_law_1062.2.2.2.2.2.2.2.2.2.2.2.2.2.2.2
theorem gL_law_1092 : dq NM 1092 (.pop) 1 = true ∧ dq NM 1093 (.goto 419) 3 = true ∧ dq NM 1096 (.aload_n 1) 1 = true ∧ dq NM 1097 (.invokevirtual 139) 3 = true ∧ dq NM 1100 (.pop) 1 = true ∧ dq NM 1101 (.aload_n 2) 1 = true ∧ dq NM 1102 (.invokevirtual 142) 3 = true ∧ dq NM 1105 (.pop) 1 = true ∧ dq NM 1106 (.goto 406) 3 = true ∧ dq NM 1109 (.aload_n 1) 1 = true ∧ dq NM 1110 (.invokevirtual 143) 3 = true ∧ dq NM 1113 (.pop) 1 = true ∧ dq NM 1114 (.aload_n 2) 1 = true ∧ dq NM 1115 (.invokevirtual 146) 3 = true ∧ dq NM 1118 (.pop) 1 = true ∧ dq NM 1119 (.goto 393) 3 = true := by decide +kernel
theorem dL_law_1092 : decode (mB NM) 1092 = .ok (.pop, 1) := dqo gL_law_1092.1
theorem dL_law_1093 : decode (mB NM) 1093 = .ok (.goto 419, 3) := dqo gL_law_1092.2.1
theorem dL_law_1096 : decode (mB NM) 1096 = .ok (.aload_n 1, 1) := dqo gL_law_1092.2.2.1
theorem dL_law_1097 : decode (mB NM) 1097 = .ok (.invokevirtual 139, 3) := dqo gL_law_1092.2.2.2.1
theorem dL_law_1100 : decode (mB NM) 1100 = .ok (.pop, 1) := dqo gL_law_1092.2.2.2.2.1
theorem dL_law_1101 : decode (mB NM) 1101 = .ok (.aload_n 2, 1) := dqo gL_law_1092.2.2.2.2.2.1
theorem dL_law_1102 : decode (mB NM) 1102 = .ok (.invokevirtual 142, 3) := dqo gL_law_1092.2.2.2.2.2.2.1
theorem dL_law_1105 : decode (mB NM) 1105 = .ok (.pop, 1) := dqo gL_law_1092.2.2.2.2.2.2.2.1
theorem dL_law_1106 : decode (mB NM) 1106 = .ok (.goto 406, 3) := dqo gL_law_1092.2.2.2.2.2.2.2.2.1
theorem dL_law_1109 : decode (mB NM) 1109 = .ok (.aload_n 1, 1) := dqo gL_law_1092.2.2.2.2.2.2.2.2.2.1
theorem dL_law_1110 : decode (mB NM) 1110 = .ok (.invokevirtual 143, 3) := dqo gL_law_1092.2.2.2.2.2.2.2.2.2.2.1
theorem dL_law_1113 : decode (mB NM) 1113 = .ok (.pop, 1) := dqo gL_law_1092.2.2.2.2.2.2.2.2.2.2.2.1
theorem dL_law_1114 : decode (mB NM) 1114 = .ok (.aload_n 2, 1) := dqo gL_law_1092.2.2.2.2.2.2.2.2.2.2.2.2.1
theorem dL_law_1115 : decode (mB NM) 1115 = .ok (.invokevirtual 146, 3) := dqo gL_law_1092.2.2.2.2.2.2.2.2.2.2.2.2.2.1
theorem dL_law_1118 : decode (mB NM) 1118 = .ok (.pop, 1) := dqo gL_law_1092.2.2.2.2.2.2.2.2.2.2.2.2.2.2.1
theorem dL_law_1119 : decode (mB NM) 1119 = .ok (.goto 393, 3) := dqo gL_law_1092.2.2.2.2.2.2.2.2.2.2.2.2.2.2.2
theorem gL_law_1122 : dq NM 1122 (.aload_n 1) 1 = true ∧ dq NM 1123 (.aload_n 0) 1 = true ∧ dq NM 1124 (.iload_n 3) 1 = true ∧ dq NM 1125 (.iconst 1) 1 = true ∧ dq NM 1126 (.iadd) 1 = true ∧ dq NM 1127 (.iaload) 1 = true ∧ dq NM 1128 (.invokevirtual 147) 3 = true ∧ dq NM 1131 (.pop) 1 = true ∧ dq NM 1132 (.aload_n 2) 1 = true ∧ dq NM 1133 (.aload_n 0) 1 = true ∧ dq NM 1134 (.iload_n 3) 1 = true ∧ dq NM 1135 (.iconst 1) 1 = true ∧ dq NM 1136 (.iadd) 1 = true ∧ dq NM 1137 (.iaload) 1 = true ∧ dq NM 1138 (.invokevirtual 150) 3 = true ∧ dq NM 1141 (.pop) 1 = true := by decide +kernel
theorem dL_law_1122 : decode (mB NM) 1122 = .ok (.aload_n 1, 1) := dqo gL_law_1122.1
theorem dL_law_1123 : decode (mB NM) 1123 = .ok (.aload_n 0, 1) := dqo gL_law_1122.2.1
theorem dL_law_1124 : decode (mB NM) 1124 = .ok (.iload_n 3, 1) := dqo gL_law_1122.2.2.1
theorem dL_law_1125 : decode (mB NM) 1125 = .ok (.iconst 1, 1) := dqo gL_law_1122.2.2.2.1
theorem dL_law_1126 : decode (mB NM) 1126 = .ok (.iadd, 1) := dqo gL_law_1122.2.2.2.2.1
theorem dL_law_1127 : decode (mB NM) 1127 = .ok (.iaload, 1) := dqo gL_law_1122.2.2.2.2.2.1
theorem dL_law_1128 : decode (mB NM) 1128 = .ok (.invokevirtual 147, 3) := dqo gL_law_1122.2.2.2.2.2.2.1
theorem dL_law_1131 : decode (mB NM) 1131 = .ok (.pop, 1) := dqo gL_law_1122.2.2.2.2.2.2.2.1
theorem dL_law_1132 : decode (mB NM) 1132 = .ok (.aload_n 2, 1) := dqo gL_law_1122.2.2.2.2.2.2.2.2.1
theorem dL_law_1133 : decode (mB NM) 1133 = .ok (.aload_n 0, 1) := dqo gL_law_1122.2.2.2.2.2.2.2.2.2.1
theorem dL_law_1134 : decode (mB NM) 1134 = .ok (.iload_n 3, 1) := dqo gL_law_1122.2.2.2.2.2.2.2.2.2.2.1
theorem dL_law_1135 : decode (mB NM) 1135 = .ok (.iconst 1, 1) := dqo gL_law_1122.2.2.2.2.2.2.2.2.2.2.2.1
theorem dL_law_1136 : decode (mB NM) 1136 = .ok (.iadd, 1) := dqo gL_law_1122.2.2.2.2.2.2.2.2.2.2.2.2.1
theorem dL_law_1137 : decode (mB NM) 1137 = .ok (.iaload, 1) := dqo gL_law_1122.2.2.2.2.2.2.2.2.2.2.2.2.2.1
theorem dL_law_1138 : decode (mB NM) 1138 = .ok (.invokevirtual 150, 3) := dqo gL_law_1122.2.2.2.2.2.2.2.2.2.2.2.2.2.2.1
theorem dL_law_1141 : decode (mB NM) 1141 = .ok (.pop, 1) := dqo gL_law_1122.2.2.2.2.2.2.2.2.2.2.2.2.2.2.2
theorem gL_law_1142 : dq NM 1142 (.goto 370) 3 = true ∧ dq NM 1145 (.aload_n 1) 1 = true ∧ dq NM 1146 (.aload_n 0) 1 = true ∧ dq NM 1147 (.iload_n 3) 1 = true ∧ dq NM 1148 (.iconst 1) 1 = true ∧ dq NM 1149 (.iadd) 1 = true ∧ dq NM 1150 (.iaload) 1 = true ∧ dq NM 1151 (.aload_n 0) 1 = true ∧ dq NM 1152 (.iload_n 3) 1 = true ∧ dq NM 1153 (.iconst 2) 1 = true ∧ dq NM 1154 (.iadd) 1 = true ∧ dq NM 1155 (.iaload) 1 = true ∧ dq NM 1156 (.aload_n 0) 1 = true ∧ dq NM 1157 (.iload_n 3) 1 = true ∧ dq NM 1158 (.iconst 3) 1 = true ∧ dq NM 1159 (.iadd) 1 = true := by decide +kernel
theorem dL_law_1142 : decode (mB NM) 1142 = .ok (.goto 370, 3) := dqo gL_law_1142.1
theorem dL_law_1145 : decode (mB NM) 1145 = .ok (.aload_n 1, 1) := dqo gL_law_1142.2.1
theorem dL_law_1146 : decode (mB NM) 1146 = .ok (.aload_n 0, 1) := dqo gL_law_1142.2.2.1
theorem dL_law_1147 : decode (mB NM) 1147 = .ok (.iload_n 3, 1) := dqo gL_law_1142.2.2.2.1
theorem dL_law_1148 : decode (mB NM) 1148 = .ok (.iconst 1, 1) := dqo gL_law_1142.2.2.2.2.1
theorem dL_law_1149 : decode (mB NM) 1149 = .ok (.iadd, 1) := dqo gL_law_1142.2.2.2.2.2.1
theorem dL_law_1150 : decode (mB NM) 1150 = .ok (.iaload, 1) := dqo gL_law_1142.2.2.2.2.2.2.1
theorem dL_law_1151 : decode (mB NM) 1151 = .ok (.aload_n 0, 1) := dqo gL_law_1142.2.2.2.2.2.2.2.1
theorem dL_law_1152 : decode (mB NM) 1152 = .ok (.iload_n 3, 1) := dqo gL_law_1142.2.2.2.2.2.2.2.2.1
theorem dL_law_1153 : decode (mB NM) 1153 = .ok (.iconst 2, 1) := dqo gL_law_1142.2.2.2.2.2.2.2.2.2.1
theorem dL_law_1154 : decode (mB NM) 1154 = .ok (.iadd, 1) := dqo gL_law_1142.2.2.2.2.2.2.2.2.2.2.1
theorem dL_law_1155 : decode (mB NM) 1155 = .ok (.iaload, 1) := dqo gL_law_1142.2.2.2.2.2.2.2.2.2.2.2.1
theorem dL_law_1156 : decode (mB NM) 1156 = .ok (.aload_n 0, 1) := dqo gL_law_1142.2.2.2.2.2.2.2.2.2.2.2.2.1
theorem dL_law_1157 : decode (mB NM) 1157 = .ok (.iload_n 3, 1) := dqo gL_law_1142.2.2.2.2.2.2.2.2.2.2.2.2.2.1
theorem dL_law_1158 : decode (mB NM) 1158 = .ok (.iconst 3, 1) := dqo gL_law_1142.2.2.2.2.2.2.2.2.2.2.2.2.2.2.1
theorem dL_law_1159 : decode (mB NM) 1159 = .ok (.iadd, 1) := dqo gL_law_1142.2.2.2.2.2.2.2.2.2.2.2.2.2.2.2
theorem gL_law_1160 : dq NM 1160 (.iaload) 1 = true ∧ dq NM 1161 (.invokevirtual 151) 3 = true ∧ dq NM 1164 (.pop) 1 = true ∧ dq NM 1165 (.aload_n 2) 1 = true ∧ dq NM 1166 (.aload_n 0) 1 = true ∧ dq NM 1167 (.iload_n 3) 1 = true ∧ dq NM 1168 (.iconst 1) 1 = true ∧ dq NM 1169 (.iadd) 1 = true ∧ dq NM 1170 (.iaload) 1 = true ∧ dq NM 1171 (.aload_n 0) 1 = true ∧ dq NM 1172 (.iload_n 3) 1 = true ∧ dq NM 1173 (.iconst 2) 1 = true ∧ dq NM 1174 (.iadd) 1 = true ∧ dq NM 1175 (.iaload) 1 = true ∧ dq NM 1176 (.aload_n 0) 1 = true ∧ dq NM 1177 (.iload_n 3) 1 = true := by decide +kernel
theorem dL_law_1160 : decode (mB NM) 1160 = .ok (.iaload, 1) := dqo gL_law_1160.1
theorem dL_law_1161 : decode (mB NM) 1161 = .ok (.invokevirtual 151, 3) := dqo gL_law_1160.2.1
theorem dL_law_1164 : decode (mB NM) 1164 = .ok (.pop, 1) := dqo gL_law_1160.2.2.1
theorem dL_law_1165 : decode (mB NM) 1165 = .ok (.aload_n 2, 1) := dqo gL_law_1160.2.2.2.1
theorem dL_law_1166 : decode (mB NM) 1166 = .ok (.aload_n 0, 1) := dqo gL_law_1160.2.2.2.2.1
theorem dL_law_1167 : decode (mB NM) 1167 = .ok (.iload_n 3, 1) := dqo gL_law_1160.2.2.2.2.2.1
theorem dL_law_1168 : decode (mB NM) 1168 = .ok (.iconst 1, 1) := dqo gL_law_1160.2.2.2.2.2.2.1
theorem dL_law_1169 : decode (mB NM) 1169 = .ok (.iadd, 1) := dqo gL_law_1160.2.2.2.2.2.2.2.1
theorem dL_law_1170 : decode (mB NM) 1170 = .ok (.iaload, 1) := dqo gL_law_1160.2.2.2.2.2.2.2.2.1
theorem dL_law_1171 : decode (mB NM) 1171 = .ok (.aload_n 0, 1) := dqo gL_law_1160.2.2.2.2.2.2.2.2.2.1
theorem dL_law_1172 : decode (mB NM) 1172 = .ok (.iload_n 3, 1) := dqo gL_law_1160.2.2.2.2.2.2.2.2.2.2.1
theorem dL_law_1173 : decode (mB NM) 1173 = .ok (.iconst 2, 1) := dqo gL_law_1160.2.2.2.2.2.2.2.2.2.2.2.1
theorem dL_law_1174 : decode (mB NM) 1174 = .ok (.iadd, 1) := dqo gL_law_1160.2.2.2.2.2.2.2.2.2.2.2.2.1
theorem dL_law_1175 : decode (mB NM) 1175 = .ok (.iaload, 1) := dqo gL_law_1160.2.2.2.2.2.2.2.2.2.2.2.2.2.1
theorem dL_law_1176 : decode (mB NM) 1176 = .ok (.aload_n 0, 1) := dqo gL_law_1160.2.2.2.2.2.2.2.2.2.2.2.2.2.2.1
theorem dL_law_1177 : decode (mB NM) 1177 = .ok (.iload_n 3, 1) := dqo gL_law_1160.2.2.2.2.2.2.2.2.2.2.2.2.2.2.2
theorem gL_law_1178 : dq NM 1178 (.iconst 3) 1 = true ∧ dq NM 1179 (.iadd) 1 = true ∧ dq NM 1180 (.iaload) 1 = true ∧ dq NM 1181 (.invokevirtual 154) 3 = true ∧ dq NM 1184 (.pop) 1 = true ∧ dq NM 1185 (.goto 327) 3 = true ∧ dq NM 1188 (.aload_n 1) 1 = true ∧ dq NM 1189 (.aload_n 0) 1 = true ∧ dq NM 1190 (.iload_n 3) 1 = true ∧ dq NM 1191 (.iconst 1) 1 = true ∧ dq NM 1192 (.iadd) 1 = true ∧ dq NM 1193 (.iaload) 1 = true ∧ dq NM 1194 (.invokevirtual 155) 3 = true ∧ dq NM 1197 (.pop) 1 = true ∧ dq NM 1198 (.aload_n 2) 1 = true ∧ dq NM 1199 (.aload_n 0) 1 = true := by decide +kernel
theorem dL_law_1178 : decode (mB NM) 1178 = .ok (.iconst 3, 1) := dqo gL_law_1178.1
theorem dL_law_1179 : decode (mB NM) 1179 = .ok (.iadd, 1) := dqo gL_law_1178.2.1
theorem dL_law_1180 : decode (mB NM) 1180 = .ok (.iaload, 1) := dqo gL_law_1178.2.2.1
theorem dL_law_1181 : decode (mB NM) 1181 = .ok (.invokevirtual 154, 3) := dqo gL_law_1178.2.2.2.1
theorem dL_law_1184 : decode (mB NM) 1184 = .ok (.pop, 1) := dqo gL_law_1178.2.2.2.2.1
theorem dL_law_1185 : decode (mB NM) 1185 = .ok (.goto 327, 3) := dqo gL_law_1178.2.2.2.2.2.1
theorem dL_law_1188 : decode (mB NM) 1188 = .ok (.aload_n 1, 1) := dqo gL_law_1178.2.2.2.2.2.2.1
theorem dL_law_1189 : decode (mB NM) 1189 = .ok (.aload_n 0, 1) := dqo gL_law_1178.2.2.2.2.2.2.2.1
theorem dL_law_1190 : decode (mB NM) 1190 = .ok (.iload_n 3, 1) := dqo gL_law_1178.2.2.2.2.2.2.2.2.1
theorem dL_law_1191 : decode (mB NM) 1191 = .ok (.iconst 1, 1) := dqo gL_law_1178.2.2.2.2.2.2.2.2.2.1
theorem dL_law_1192 : decode (mB NM) 1192 = .ok (.iadd, 1) := dqo gL_law_1178.2.2.2.2.2.2.2.2.2.2.1
theorem dL_law_1193 : decode (mB NM) 1193 = .ok (.iaload, 1) := dqo gL_law_1178.2.2.2.2.2.2.2.2.2.2.2.1
theorem dL_law_1194 : decode (mB NM) 1194 = .ok (.invokevirtual 155, 3) := dqo gL_law_1178.2.2.2.2.2.2.2.2.2.2.2.2.1
theorem dL_law_1197 : decode (mB NM) 1197 = .ok (.pop, 1) := dqo gL_law_1178.2.2.2.2.2.2.2.2.2.2.2.2.2.1
theorem dL_law_1198 : decode (mB NM) 1198 = .ok (.aload_n 2, 1) := dqo gL_law_1178.2.2.2.2.2.2.2.2.2.2.2.2.2.2.1
theorem dL_law_1199 : decode (mB NM) 1199 = .ok (.aload_n 0, 1) := dqo gL_law_1178.2.2.2.2.2.2.2.2.2.2.2.2.2.2.2
theorem gL_law_1200 : dq NM 1200 (.iload_n 3) 1 = true ∧ dq NM 1201 (.iconst 1) 1 = true ∧ dq NM 1202 (.iadd) 1 = true ∧ dq NM 1203 (.iaload) 1 = true ∧ dq NM 1204 (.invokevirtual 158) 3 = true ∧ dq NM 1207 (.pop) 1 = true ∧ dq NM 1208 (.goto 304) 3 = true ∧ dq NM 1211 (.aload_n 1) 1 = true ∧ dq NM 1212 (.aload_n 0) 1 = true ∧ dq NM 1213 (.iload_n 3) 1 = true ∧ dq NM 1214 (.iconst 1) 1 = true ∧ dq NM 1215 (.iadd) 1 = true ∧ dq NM 1216 (.iaload) 1 = true ∧ dq NM 1217 (.aload_n 0) 1 = true ∧ dq NM 1218 (.iload_n 3) 1 = true ∧ dq NM 1219 (.iconst 2) 1 = true := by decide +kernel
theorem dL_law_1200 : decode (mB NM) 1200 = .ok (.iload_n 3, 1) := dqo gL_law_1200.1
theorem dL_law_1201 : decode (mB NM) 1201 = .ok (.iconst 1, 1) := dqo gL_law_1200.2.1
theorem dL_law_1202 : decode (mB NM) 1202 = .ok (.iadd, 1) := dqo gL_law_1200.2.2.1
theorem dL_law_1203 : decode (mB NM) 1203 = .ok (.iaload, 1) := dqo gL_law_1200.2.2.2.1
theorem dL_law_1204 : decode (mB NM) 1204 = .ok (.invokevirtual 158, 3) := dqo gL_law_1200.2.2.2.2.1
theorem dL_law_1207 : decode (mB NM) 1207 = .ok (.pop, 1) := dqo gL_law_1200.2.2.2.2.2.1
theorem dL_law_1208 : decode (mB NM) 1208 = .ok (.goto 304, 3) := dqo gL_law_1200.2.2.2.2.2.2.1
theorem dL_law_1211 : decode (mB NM) 1211 = .ok (.aload_n 1, 1) := dqo gL_law_1200.2.2.2.2.2.2.2.1
theorem dL_law_1212 : decode (mB NM) 1212 = .ok (.aload_n 0, 1) := dqo gL_law_1200.2.2.2.2.2.2.2.2.1
theorem dL_law_1213 : decode (mB NM) 1213 = .ok (.iload_n 3, 1) := dqo gL_law_1200.2.2.2.2.2.2.2.2.2.1
theorem dL_law_1214 : decode (mB NM) 1214 = .ok (.iconst 1, 1) := dqo gL_law_1200.2.2.2.2.2.2.2.2.2.2.1
theorem dL_law_1215 : decode (mB NM) 1215 = .ok (.iadd, 1) := dqo gL_law_1200.2.2.2.2.2.2.2.2.2.2.2.1
theorem dL_law_1216 : decode (mB NM) 1216 = .ok (.iaload, 1) := dqo gL_law_1200.2.2.2.2.2.2.2.2.2.2.2.2.1
theorem dL_law_1217 : decode (mB NM) 1217 = .ok (.aload_n 0, 1) := dqo gL_law_1200.2.2.2.2.2.2.2.2.2.2.2.2.2.1
theorem dL_law_1218 : decode (mB NM) 1218 = .ok (.iload_n 3, 1) := dqo gL_law_1200.2.2.2.2.2.2.2.2.2.2.2.2.2.2.1
theorem dL_law_1219 : decode (mB NM) 1219 = .ok (.iconst 2, 1) := dqo gL_law_1200.2.2.2.2.2.2.2.2.2.2.2.2.2.2.2
theorem gL_law_1220 : dq NM 1220 (.iadd) 1 = true ∧ dq NM 1221 (.iaload) 1 = true ∧ dq NM 1222 (.invokevirtual 159) 3 = true ∧ dq NM 1225 (.pop) 1 = true ∧ dq NM 1226 (.aload_n 2) 1 = true ∧ dq NM 1227 (.aload_n 0) 1 = true ∧ dq NM 1228 (.iload_n 3) 1 = true ∧ dq NM 1229 (.iconst 1) 1 = true ∧ dq NM 1230 (.iadd) 1 = true ∧ dq NM 1231 (.iaload) 1 = true ∧ dq NM 1232 (.aload_n 0) 1 = true ∧ dq NM 1233 (.iload_n 3) 1 = true ∧ dq NM 1234 (.iconst 2) 1 = true ∧ dq NM 1235 (.iadd) 1 = true ∧ dq NM 1236 (.iaload) 1 = true ∧ dq NM 1237 (.invokevirtual 162) 3 = true := by decide +kernel
theorem dL_law_1220 : decode (mB NM) 1220 = .ok (.iadd, 1) := dqo gL_law_1220.1
theorem dL_law_1221 : decode (mB NM) 1221 = .ok (.iaload, 1) := dqo gL_law_1220.2.1
theorem dL_law_1222 : decode (mB NM) 1222 = .ok (.invokevirtual 159, 3) := dqo gL_law_1220.2.2.1
theorem dL_law_1225 : decode (mB NM) 1225 = .ok (.pop, 1) := dqo gL_law_1220.2.2.2.1
theorem dL_law_1226 : decode (mB NM) 1226 = .ok (.aload_n 2, 1) := dqo gL_law_1220.2.2.2.2.1
theorem dL_law_1227 : decode (mB NM) 1227 = .ok (.aload_n 0, 1) := dqo gL_law_1220.2.2.2.2.2.1
theorem dL_law_1228 : decode (mB NM) 1228 = .ok (.iload_n 3, 1) := dqo gL_law_1220.2.2.2.2.2.2.1
theorem dL_law_1229 : decode (mB NM) 1229 = .ok (.iconst 1, 1) := dqo gL_law_1220.2.2.2.2.2.2.2.1
theorem dL_law_1230 : decode (mB NM) 1230 = .ok (.iadd, 1) := dqo gL_law_1220.2.2.2.2.2.2.2.2.1
theorem dL_law_1231 : decode (mB NM) 1231 = .ok (.iaload, 1) := dqo gL_law_1220.2.2.2.2.2.2.2.2.2.1
theorem dL_law_1232 : decode (mB NM) 1232 = .ok (.aload_n 0, 1) := dqo gL_law_1220.2.2.2.2.2.2.2.2.2.2.1
theorem dL_law_1233 : decode (mB NM) 1233 = .ok (.iload_n 3, 1) := dqo gL_law_1220.2.2.2.2.2.2.2.2.2.2.2.1
theorem dL_law_1234 : decode (mB NM) 1234 = .ok (.iconst 2, 1) := dqo gL_law_1220.2.2.2.2.2.2.2.2.2.2.2.2.1
theorem dL_law_1235 : decode (mB NM) 1235 = .ok (.iadd, 1) := dqo gL_law_1220.2.2.2.2.2.2.2.2.2.2.2.2.2.1
theorem dL_law_1236 : decode (mB NM) 1236 = .ok (.iaload, 1) := dqo gL_law_1220.2.2.2.2.2.2.2.2.2.2.2.2.2.2.1
theorem dL_law_1237 : decode (mB NM) 1237 = .ok (.invokevirtual 162, 3) := dqo gL_law_1220.2.2.2.2.2.2.2.2.2.2.2.2.2.2.2
theorem gL_law_1240 : dq NM 1240 (.pop) 1 = true ∧ dq NM 1241 (.goto 271) 3 = true ∧ dq NM 1244 (.aload_n 1) 1 = true ∧ dq NM 1245 (.aload_n 0) 1 = true ∧ dq NM 1246 (.iload_n 3) 1 = true ∧ dq NM 1247 (.iconst 1) 1 = true ∧ dq NM 1248 (.iadd) 1 = true ∧ dq NM 1249 (.iaload) 1 = true ∧ dq NM 1250 (.aload_n 0) 1 = true ∧ dq NM 1251 (.iload_n 3) 1 = true ∧ dq NM 1252 (.iconst 2) 1 = true ∧ dq NM 1253 (.iadd) 1 = true ∧ dq NM 1254 (.iaload) 1 = true ∧ dq NM 1255 (.aload_n 0) 1 = true ∧ dq NM 1256 (.iload_n 3) 1 = true ∧ dq NM 1257 (.iconst 3) 1 = true := by decide +kernel
theorem dL_law_1240 : decode (mB NM) 1240 = .ok (.pop, 1) := dqo gL_law_1240.1
theorem dL_law_1241 : decode (mB NM) 1241 = .ok (.goto 271, 3) := dqo gL_law_1240.2.1
theorem dL_law_1244 : decode (mB NM) 1244 = .ok (.aload_n 1, 1) := dqo gL_law_1240.2.2.1
theorem dL_law_1245 : decode (mB NM) 1245 = .ok (.aload_n 0, 1) := dqo gL_law_1240.2.2.2.1
theorem dL_law_1246 : decode (mB NM) 1246 = .ok (.iload_n 3, 1) := dqo gL_law_1240.2.2.2.2.1
theorem dL_law_1247 : decode (mB NM) 1247 = .ok (.iconst 1, 1) := dqo gL_law_1240.2.2.2.2.2.1
theorem dL_law_1248 : decode (mB NM) 1248 = .ok (.iadd, 1) := dqo gL_law_1240.2.2.2.2.2.2.1
theorem dL_law_1249 : decode (mB NM) 1249 = .ok (.iaload, 1) := dqo gL_law_1240.2.2.2.2.2.2.2.1
theorem dL_law_1250 : decode (mB NM) 1250 = .ok (.aload_n 0, 1) := dqo gL_law_1240.2.2.2.2.2.2.2.2.1
theorem dL_law_1251 : decode (mB NM) 1251 = .ok (.iload_n 3, 1) := dqo gL_law_1240.2.2.2.2.2.2.2.2.2.1
theorem dL_law_1252 : decode (mB NM) 1252 = .ok (.iconst 2, 1) := dqo gL_law_1240.2.2.2.2.2.2.2.2.2.2.1
theorem dL_law_1253 : decode (mB NM) 1253 = .ok (.iadd, 1) := dqo gL_law_1240.2.2.2.2.2.2.2.2.2.2.2.1
theorem dL_law_1254 : decode (mB NM) 1254 = .ok (.iaload, 1) := dqo gL_law_1240.2.2.2.2.2.2.2.2.2.2.2.2.1
theorem dL_law_1255 : decode (mB NM) 1255 = .ok (.aload_n 0, 1) := dqo gL_law_1240.2.2.2.2.2.2.2.2.2.2.2.2.2.1
theorem dL_law_1256 : decode (mB NM) 1256 = .ok (.iload_n 3, 1) := dqo gL_law_1240.2.2.2.2.2.2.2.2.2.2.2.2.2.2.1
theorem dL_law_1257 : decode (mB NM) 1257 = .ok (.iconst 3, 1) := dqo gL_law_1240.2.2.2.2.2.2.2.2.2.2.2.2.2.2.2
theorem gL_law_1258 : dq NM 1258 (.iadd) 1 = true ∧ dq NM 1259 (.iaload) 1 = true ∧ dq NM 1260 (.invokevirtual 163) 3 = true ∧ dq NM 1263 (.pop) 1 = true ∧ dq NM 1264 (.aload_n 2) 1 = true ∧ dq NM 1265 (.aload_n 0) 1 = true ∧ dq NM 1266 (.iload_n 3) 1 = true ∧ dq NM 1267 (.iconst 1) 1 = true ∧ dq NM 1268 (.iadd) 1 = true ∧ dq NM 1269 (.iaload) 1 = true ∧ dq NM 1270 (.aload_n 0) 1 = true ∧ dq NM 1271 (.iload_n 3) 1 = true ∧ dq NM 1272 (.iconst 2) 1 = true ∧ dq NM 1273 (.iadd) 1 = true ∧ dq NM 1274 (.iaload) 1 = true ∧ dq NM 1275 (.aload_n 0) 1 = true := by decide +kernel
theorem dL_law_1258 : decode (mB NM) 1258 = .ok (.iadd, 1) := dqo gL_law_1258.1
theorem dL_law_1259 : decode (mB NM) 1259 = .ok (.iaload, 1) := dqo gL_law_1258.2.1
theorem dL_law_1260 : decode (mB NM) 1260 = .ok (.invokevirtual 163, 3) := dqo gL_law_1258.2.2.1
theorem dL_law_1263 : decode (mB NM) 1263 = .ok (.pop, 1) := dqo gL_law_1258.2.2.2.1
theorem dL_law_1264 : decode (mB NM) 1264 = .ok (.aload_n 2, 1) := dqo gL_law_1258.2.2.2.2.1
theorem dL_law_1265 : decode (mB NM) 1265 = .ok (.aload_n 0, 1) := dqo gL_law_1258.2.2.2.2.2.1
theorem dL_law_1266 : decode (mB NM) 1266 = .ok (.iload_n 3, 1) := dqo gL_law_1258.2.2.2.2.2.2.1
theorem dL_law_1267 : decode (mB NM) 1267 = .ok (.iconst 1, 1) := dqo gL_law_1258.2.2.2.2.2.2.2.1
theorem dL_law_1268 : decode (mB NM) 1268 = .ok (.iadd, 1) := dqo gL_law_1258.2.2.2.2.2.2.2.2.1
theorem dL_law_1269 : decode (mB NM) 1269 = .ok (.iaload, 1) := dqo gL_law_1258.2.2.2.2.2.2.2.2.2.1
theorem dL_law_1270 : decode (mB NM) 1270 = .ok (.aload_n 0, 1) := dqo gL_law_1258.2.2.2.2.2.2.2.2.2.2.1
theorem dL_law_1271 : decode (mB NM) 1271 = .ok (.iload_n 3, 1) := dqo gL_law_1258.2.2.2.2.2.2.2.2.2.2.2.1
theorem dL_law_1272 : decode (mB NM) 1272 = .ok (.iconst 2, 1) := dqo gL_law_1258.2.2.2.2.2.2.2.2.2.2.2.2.1
theorem dL_law_1273 : decode (mB NM) 1273 = .ok (.iadd, 1) := dqo gL_law_1258.2.2.2.2.2.2.2.2.2.2.2.2.2.1
theorem dL_law_1274 : decode (mB NM) 1274 = .ok (.iaload, 1) := dqo gL_law_1258.2.2.2.2.2.2.2.2.2.2.2.2.2.2.1
theorem dL_law_1275 : decode (mB NM) 1275 = .ok (.aload_n 0, 1) := dqo gL_law_1258.2.2.2.2.2.2.2.2.2.2.2.2.2.2.2
theorem gL_law_1276 : dq NM 1276 (.iload_n 3) 1 = true ∧ dq NM 1277 (.iconst 3) 1 = true ∧ dq NM 1278 (.iadd) 1 = true ∧ dq NM 1279 (.iaload) 1 = true ∧ dq NM 1280 (.invokevirtual 166) 3 = true ∧ dq NM 1283 (.pop) 1 = true ∧ dq NM 1284 (.goto 228) 3 = true ∧ dq NM 1287 (.aload_n 1) 1 = true ∧ dq NM 1288 (.aload_n 0) 1 = true ∧ dq NM 1289 (.iload_n 3) 1 = true ∧ dq NM 1290 (.iconst 1) 1 = true ∧ dq NM 1291 (.iadd) 1 = true ∧ dq NM 1292 (.iaload) 1 = true ∧ dq NM 1293 (.aload_n 0) 1 = true ∧ dq NM 1294 (.iload_n 3) 1 = true ∧ dq NM 1295 (.iconst 2) 1 = true := by decide +kernel
theorem dL_law_1276 : decode (mB NM) 1276 = .ok (.iload_n 3, 1) := dqo gL_law_1276.1
theorem dL_law_1277 : decode (mB NM) 1277 = .ok (.iconst 3, 1) := dqo gL_law_1276.2.1
theorem dL_law_1278 : decode (mB NM) 1278 = .ok (.iadd, 1) := dqo gL_law_1276.2.2.1
theorem dL_law_1279 : decode (mB NM) 1279 = .ok (.iaload, 1) := dqo gL_law_1276.2.2.2.1
theorem dL_law_1280 : decode (mB NM) 1280 = .ok (.invokevirtual 166, 3) := dqo gL_law_1276.2.2.2.2.1
theorem dL_law_1283 : decode (mB NM) 1283 = .ok (.pop, 1) := dqo gL_law_1276.2.2.2.2.2.1
theorem dL_law_1284 : decode (mB NM) 1284 = .ok (.goto 228, 3) := dqo gL_law_1276.2.2.2.2.2.2.1
theorem dL_law_1287 : decode (mB NM) 1287 = .ok (.aload_n 1, 1) := dqo gL_law_1276.2.2.2.2.2.2.2.1
theorem dL_law_1288 : decode (mB NM) 1288 = .ok (.aload_n 0, 1) := dqo gL_law_1276.2.2.2.2.2.2.2.2.1
theorem dL_law_1289 : decode (mB NM) 1289 = .ok (.iload_n 3, 1) := dqo gL_law_1276.2.2.2.2.2.2.2.2.2.1
theorem dL_law_1290 : decode (mB NM) 1290 = .ok (.iconst 1, 1) := dqo gL_law_1276.2.2.2.2.2.2.2.2.2.2.1
theorem dL_law_1291 : decode (mB NM) 1291 = .ok (.iadd, 1) := dqo gL_law_1276.2.2.2.2.2.2.2.2.2.2.2.1
theorem dL_law_1292 : decode (mB NM) 1292 = .ok (.iaload, 1) := dqo gL_law_1276.2.2.2.2.2.2.2.2.2.2.2.2.1
theorem dL_law_1293 : decode (mB NM) 1293 = .ok (.aload_n 0, 1) := dqo gL_law_1276.2.2.2.2.2.2.2.2.2.2.2.2.2.1
theorem dL_law_1294 : decode (mB NM) 1294 = .ok (.iload_n 3, 1) := dqo gL_law_1276.2.2.2.2.2.2.2.2.2.2.2.2.2.2.1
theorem dL_law_1295 : decode (mB NM) 1295 = .ok (.iconst 2, 1) := dqo gL_law_1276.2.2.2.2.2.2.2.2.2.2.2.2.2.2.2
theorem gL_law_1296 : dq NM 1296 (.iadd) 1 = true ∧ dq NM 1297 (.iaload) 1 = true ∧ dq NM 1298 (.aload_n 0) 1 = true ∧ dq NM 1299 (.iload_n 3) 1 = true ∧ dq NM 1300 (.iconst 3) 1 = true ∧ dq NM 1301 (.iadd) 1 = true ∧ dq NM 1302 (.iaload) 1 = true ∧ dq NM 1303 (.i2l) 1 = true ∧ dq NM 1304 (.bipush 32) 2 = true ∧ dq NM 1306 (.lshl) 1 = true ∧ dq NM 1307 (.aload_n 0) 1 = true ∧ dq NM 1308 (.iload_n 3) 1 = true ∧ dq NM 1309 (.iconst 4) 1 = true ∧ dq NM 1310 (.iadd) 1 = true ∧ dq NM 1311 (.iaload) 1 = true ∧ dq NM 1312 (.i2l) 1 = true := by decide +kernel
theorem dL_law_1296 : decode (mB NM) 1296 = .ok (.iadd, 1) := dqo gL_law_1296.1
theorem dL_law_1297 : decode (mB NM) 1297 = .ok (.iaload, 1) := dqo gL_law_1296.2.1
theorem dL_law_1298 : decode (mB NM) 1298 = .ok (.aload_n 0, 1) := dqo gL_law_1296.2.2.1
theorem dL_law_1299 : decode (mB NM) 1299 = .ok (.iload_n 3, 1) := dqo gL_law_1296.2.2.2.1
theorem dL_law_1300 : decode (mB NM) 1300 = .ok (.iconst 3, 1) := dqo gL_law_1296.2.2.2.2.1
theorem dL_law_1301 : decode (mB NM) 1301 = .ok (.iadd, 1) := dqo gL_law_1296.2.2.2.2.2.1
theorem dL_law_1302 : decode (mB NM) 1302 = .ok (.iaload, 1) := dqo gL_law_1296.2.2.2.2.2.2.1
theorem dL_law_1303 : decode (mB NM) 1303 = .ok (.i2l, 1) := dqo gL_law_1296.2.2.2.2.2.2.2.1
theorem dL_law_1304 : decode (mB NM) 1304 = .ok (.bipush 32, 2) := dqo gL_law_1296.2.2.2.2.2.2.2.2.1
theorem dL_law_1306 : decode (mB NM) 1306 = .ok (.lshl, 1) := dqo gL_law_1296.2.2.2.2.2.2.2.2.2.1
theorem dL_law_1307 : decode (mB NM) 1307 = .ok (.aload_n 0, 1) := dqo gL_law_1296.2.2.2.2.2.2.2.2.2.2.1
theorem dL_law_1308 : decode (mB NM) 1308 = .ok (.iload_n 3, 1) := dqo gL_law_1296.2.2.2.2.2.2.2.2.2.2.2.1
theorem dL_law_1309 : decode (mB NM) 1309 = .ok (.iconst 4, 1) := dqo gL_law_1296.2.2.2.2.2.2.2.2.2.2.2.2.1
theorem dL_law_1310 : decode (mB NM) 1310 = .ok (.iadd, 1) := dqo gL_law_1296.2.2.2.2.2.2.2.2.2.2.2.2.2.1
theorem dL_law_1311 : decode (mB NM) 1311 = .ok (.iaload, 1) := dqo gL_law_1296.2.2.2.2.2.2.2.2.2.2.2.2.2.2.1
theorem dL_law_1312 : decode (mB NM) 1312 = .ok (.i2l, 1) := dqo gL_law_1296.2.2.2.2.2.2.2.2.2.2.2.2.2.2.2
theorem gL_law_1313 : dq NM 1313 (.ldc2_w 167) 3 = true ∧ dq NM 1316 (.land) 1 = true ∧ dq NM 1317 (.lor) 1 = true ∧ dq NM 1318 (.invokevirtual 169) 3 = true ∧ dq NM 1321 (.pop) 1 = true ∧ dq NM 1322 (.aload_n 2) 1 = true ∧ dq NM 1323 (.aload_n 0) 1 = true ∧ dq NM 1324 (.iload_n 3) 1 = true ∧ dq NM 1325 (.iconst 1) 1 = true ∧ dq NM 1326 (.iadd) 1 = true ∧ dq NM 1327 (.iaload) 1 = true ∧ dq NM 1328 (.aload_n 0) 1 = true ∧ dq NM 1329 (.iload_n 3) 1 = true ∧ dq NM 1330 (.iconst 2) 1 = true ∧ dq NM 1331 (.iadd) 1 = true ∧ dq NM 1332 (.iaload) 1 = true := by decide +kernel
theorem dL_law_1313 : decode (mB NM) 1313 = .ok (.ldc2_w 167, 3) := dqo gL_law_1313.1
theorem dL_law_1316 : decode (mB NM) 1316 = .ok (.land, 1) := dqo gL_law_1313.2.1
theorem dL_law_1317 : decode (mB NM) 1317 = .ok (.lor, 1) := dqo gL_law_1313.2.2.1
theorem dL_law_1318 : decode (mB NM) 1318 = .ok (.invokevirtual 169, 3) := dqo gL_law_1313.2.2.2.1
theorem dL_law_1321 : decode (mB NM) 1321 = .ok (.pop, 1) := dqo gL_law_1313.2.2.2.2.1
theorem dL_law_1322 : decode (mB NM) 1322 = .ok (.aload_n 2, 1) := dqo gL_law_1313.2.2.2.2.2.1
theorem dL_law_1323 : decode (mB NM) 1323 = .ok (.aload_n 0, 1) := dqo gL_law_1313.2.2.2.2.2.2.1
theorem dL_law_1324 : decode (mB NM) 1324 = .ok (.iload_n 3, 1) := dqo gL_law_1313.2.2.2.2.2.2.2.1
theorem dL_law_1325 : decode (mB NM) 1325 = .ok (.iconst 1, 1) := dqo gL_law_1313.2.2.2.2.2.2.2.2.1
theorem dL_law_1326 : decode (mB NM) 1326 = .ok (.iadd, 1) := dqo gL_law_1313.2.2.2.2.2.2.2.2.2.1
theorem dL_law_1327 : decode (mB NM) 1327 = .ok (.iaload, 1) := dqo gL_law_1313.2.2.2.2.2.2.2.2.2.2.1
theorem dL_law_1328 : decode (mB NM) 1328 = .ok (.aload_n 0, 1) := dqo gL_law_1313.2.2.2.2.2.2.2.2.2.2.2.1
theorem dL_law_1329 : decode (mB NM) 1329 = .ok (.iload_n 3, 1) := dqo gL_law_1313.2.2.2.2.2.2.2.2.2.2.2.2.1
theorem dL_law_1330 : decode (mB NM) 1330 = .ok (.iconst 2, 1) := dqo gL_law_1313.2.2.2.2.2.2.2.2.2.2.2.2.2.1
theorem dL_law_1331 : decode (mB NM) 1331 = .ok (.iadd, 1) := dqo gL_law_1313.2.2.2.2.2.2.2.2.2.2.2.2.2.2.1
theorem dL_law_1332 : decode (mB NM) 1332 = .ok (.iaload, 1) := dqo gL_law_1313.2.2.2.2.2.2.2.2.2.2.2.2.2.2.2
theorem gL_law_1333 : dq NM 1333 (.aload_n 0) 1 = true ∧ dq NM 1334 (.iload_n 3) 1 = true ∧ dq NM 1335 (.iconst 3) 1 = true ∧ dq NM 1336 (.iadd) 1 = true ∧ dq NM 1337 (.iaload) 1 = true ∧ dq NM 1338 (.i2l) 1 = true ∧ dq NM 1339 (.bipush 32) 2 = true ∧ dq NM 1341 (.lshl) 1 = true ∧ dq NM 1342 (.aload_n 0) 1 = true ∧ dq NM 1343 (.iload_n 3) 1 = true ∧ dq NM 1344 (.iconst 4) 1 = true ∧ dq NM 1345 (.iadd) 1 = true ∧ dq NM 1346 (.iaload) 1 = true ∧ dq NM 1347 (.i2l) 1 = true ∧ dq NM 1348 (.ldc2_w 167) 3 = true ∧ dq NM 1351 (.land) 1 = true := by decide +kernel
theorem dL_law_1333 : decode (mB NM) 1333 = .ok (.aload_n 0, 1) := dqo gL_law_1333.1
theorem dL_law_1334 : decode (mB NM) 1334 = .ok (.iload_n 3, 1) := dqo gL_law_1333.2.1
theorem dL_law_1335 : decode (mB NM) 1335 = .ok (.iconst 3, 1) := dqo gL_law_1333.2.2.1
theorem dL_law_1336 : decode (mB NM) 1336 = .ok (.iadd, 1) := dqo gL_law_1333.2.2.2.1
theorem dL_law_1337 : decode (mB NM) 1337 = .ok (.iaload, 1) := dqo gL_law_1333.2.2.2.2.1
theorem dL_law_1338 : decode (mB NM) 1338 = .ok (.i2l, 1) := dqo gL_law_1333.2.2.2.2.2.1
theorem dL_law_1339 : decode (mB NM) 1339 = .ok (.bipush 32, 2) := dqo gL_law_1333.2.2.2.2.2.2.1
theorem dL_law_1341 : decode (mB NM) 1341 = .ok (.lshl, 1) := dqo gL_law_1333.2.2.2.2.2.2.2.1
theorem dL_law_1342 : decode (mB NM) 1342 = .ok (.aload_n 0, 1) := dqo gL_law_1333.2.2.2.2.2.2.2.2.1
theorem dL_law_1343 : decode (mB NM) 1343 = .ok (.iload_n 3, 1) := dqo gL_law_1333.2.2.2.2.2.2.2.2.2.1
theorem dL_law_1344 : decode (mB NM) 1344 = .ok (.iconst 4, 1) := dqo gL_law_1333.2.2.2.2.2.2.2.2.2.2.1
theorem dL_law_1345 : decode (mB NM) 1345 = .ok (.iadd, 1) := dqo gL_law_1333.2.2.2.2.2.2.2.2.2.2.2.1
theorem dL_law_1346 : decode (mB NM) 1346 = .ok (.iaload, 1) := dqo gL_law_1333.2.2.2.2.2.2.2.2.2.2.2.2.1
theorem dL_law_1347 : decode (mB NM) 1347 = .ok (.i2l, 1) := dqo gL_law_1333.2.2.2.2.2.2.2.2.2.2.2.2.2.1
theorem dL_law_1348 : decode (mB NM) 1348 = .ok (.ldc2_w 167, 3) := dqo gL_law_1333.2.2.2.2.2.2.2.2.2.2.2.2.2.2.1
theorem dL_law_1351 : decode (mB NM) 1351 = .ok (.land, 1) := dqo gL_law_1333.2.2.2.2.2.2.2.2.2.2.2.2.2.2.2
theorem gL_law_1352 : dq NM 1352 (.lor) 1 = true ∧ dq NM 1353 (.invokevirtual 173) 3 = true ∧ dq NM 1356 (.pop) 1 = true ∧ dq NM 1357 (.goto 155) 3 = true ∧ dq NM 1360 (.aload_n 1) 1 = true ∧ dq NM 1361 (.aload_n 0) 1 = true ∧ dq NM 1362 (.iload_n 3) 1 = true ∧ dq NM 1363 (.iconst 1) 1 = true ∧ dq NM 1364 (.iadd) 1 = true ∧ dq NM 1365 (.iaload) 1 = true ∧ dq NM 1366 (.aload_n 0) 1 = true ∧ dq NM 1367 (.iload_n 3) 1 = true ∧ dq NM 1368 (.iconst 2) 1 = true ∧ dq NM 1369 (.iadd) 1 = true ∧ dq NM 1370 (.iaload) 1 = true ∧ dq NM 1371 (.invokevirtual 174) 3 = true := by decide +kernel
theorem dL_law_1352 : decode (mB NM) 1352 = .ok (.lor, 1) := dqo gL_law_1352.1
theorem dL_law_1353 : decode (mB NM) 1353 = .ok (.invokevirtual 173, 3) := dqo gL_law_1352.2.1
theorem dL_law_1356 : decode (mB NM) 1356 = .ok (.pop, 1) := dqo gL_law_1352.2.2.1
theorem dL_law_1357 : decode (mB NM) 1357 = .ok (.goto 155, 3) := dqo gL_law_1352.2.2.2.1
theorem dL_law_1360 : decode (mB NM) 1360 = .ok (.aload_n 1, 1) := dqo gL_law_1352.2.2.2.2.1
theorem dL_law_1361 : decode (mB NM) 1361 = .ok (.aload_n 0, 1) := dqo gL_law_1352.2.2.2.2.2.1
theorem dL_law_1362 : decode (mB NM) 1362 = .ok (.iload_n 3, 1) := dqo gL_law_1352.2.2.2.2.2.2.1
theorem dL_law_1363 : decode (mB NM) 1363 = .ok (.iconst 1, 1) := dqo gL_law_1352.2.2.2.2.2.2.2.1
theorem dL_law_1364 : decode (mB NM) 1364 = .ok (.iadd, 1) := dqo gL_law_1352.2.2.2.2.2.2.2.2.1
theorem dL_law_1365 : decode (mB NM) 1365 = .ok (.iaload, 1) := dqo gL_law_1352.2.2.2.2.2.2.2.2.2.1
theorem dL_law_1366 : decode (mB NM) 1366 = .ok (.aload_n 0, 1) := dqo gL_law_1352.2.2.2.2.2.2.2.2.2.2.1
theorem dL_law_1367 : decode (mB NM) 1367 = .ok (.iload_n 3, 1) := dqo gL_law_1352.2.2.2.2.2.2.2.2.2.2.2.1
theorem dL_law_1368 : decode (mB NM) 1368 = .ok (.iconst 2, 1) := dqo gL_law_1352.2.2.2.2.2.2.2.2.2.2.2.2.1
theorem dL_law_1369 : decode (mB NM) 1369 = .ok (.iadd, 1) := dqo gL_law_1352.2.2.2.2.2.2.2.2.2.2.2.2.2.1
theorem dL_law_1370 : decode (mB NM) 1370 = .ok (.iaload, 1) := dqo gL_law_1352.2.2.2.2.2.2.2.2.2.2.2.2.2.2.1
theorem dL_law_1371 : decode (mB NM) 1371 = .ok (.invokevirtual 174, 3) := dqo gL_law_1352.2.2.2.2.2.2.2.2.2.2.2.2.2.2.2
theorem gL_law_1374 : dq NM 1374 (.pop2) 1 = true ∧ dq NM 1375 (.aload_n 2) 1 = true ∧ dq NM 1376 (.aload_n 0) 1 = true ∧ dq NM 1377 (.iload_n 3) 1 = true ∧ dq NM 1378 (.iconst 1) 1 = true ∧ dq NM 1379 (.iadd) 1 = true ∧ dq NM 1380 (.iaload) 1 = true ∧ dq NM 1381 (.aload_n 0) 1 = true ∧ dq NM 1382 (.iload_n 3) 1 = true ∧ dq NM 1383 (.iconst 2) 1 = true ∧ dq NM 1384 (.iadd) 1 = true ∧ dq NM 1385 (.iaload) 1 = true ∧ dq NM 1386 (.invokevirtual 177) 3 = true ∧ dq NM 1389 (.pop2) 1 = true ∧ dq NM 1390 (.goto 122) 3 = true ∧ dq NM 1393 (.aload_n 1) 1 = true := by decide +kernel
theorem dL_law_1374 : decode (mB NM) 1374 = .ok (.pop2, 1) := dqo gL_law_1374.1
theorem dL_law_1375 : decode (mB NM) 1375 = .ok (.aload_n 2, 1) := dqo gL_law_1374.2.1
theorem dL_law_1376 : decode (mB NM) 1376 = .ok (.aload_n 0, 1) := dqo gL_law_1374.2.2.1
theorem dL_law_1377 : decode (mB NM) 1377 = .ok (.iload_n 3, 1) := dqo gL_law_1374.2.2.2.1
theorem dL_law_1378 : decode (mB NM) 1378 = .ok (.iconst 1, 1) := dqo gL_law_1374.2.2.2.2.1
theorem dL_law_1379 : decode (mB NM) 1379 = .ok (.iadd, 1) := dqo gL_law_1374.2.2.2.2.2.1
theorem dL_law_1380 : decode (mB NM) 1380 = .ok (.iaload, 1) := dqo gL_law_1374.2.2.2.2.2.2.1
theorem dL_law_1381 : decode (mB NM) 1381 = .ok (.aload_n 0, 1) := dqo gL_law_1374.2.2.2.2.2.2.2.1
theorem dL_law_1382 : decode (mB NM) 1382 = .ok (.iload_n 3, 1) := dqo gL_law_1374.2.2.2.2.2.2.2.2.1
theorem dL_law_1383 : decode (mB NM) 1383 = .ok (.iconst 2, 1) := dqo gL_law_1374.2.2.2.2.2.2.2.2.2.1
theorem dL_law_1384 : decode (mB NM) 1384 = .ok (.iadd, 1) := dqo gL_law_1374.2.2.2.2.2.2.2.2.2.2.1
theorem dL_law_1385 : decode (mB NM) 1385 = .ok (.iaload, 1) := dqo gL_law_1374.2.2.2.2.2.2.2.2.2.2.2.1
theorem dL_law_1386 : decode (mB NM) 1386 = .ok (.invokevirtual 177, 3) := dqo gL_law_1374.2.2.2.2.2.2.2.2.2.2.2.2.1
theorem dL_law_1389 : decode (mB NM) 1389 = .ok (.pop2, 1) := dqo gL_law_1374.2.2.2.2.2.2.2.2.2.2.2.2.2.1
theorem dL_law_1390 : decode (mB NM) 1390 = .ok (.goto 122, 3) := dqo gL_law_1374.2.2.2.2.2.2.2.2.2.2.2.2.2.2.1
theorem dL_law_1393 : decode (mB NM) 1393 = .ok (.aload_n 1, 1) := dqo gL_law_1374.2.2.2.2.2.2.2.2.2.2.2.2.2.2.2
theorem gL_law_1394 : dq NM 1394 (.aload_n 0) 1 = true ∧ dq NM 1395 (.iload_n 3) 1 = true ∧ dq NM 1396 (.iconst 1) 1 = true ∧ dq NM 1397 (.iadd) 1 = true ∧ dq NM 1398 (.iaload) 1 = true ∧ dq NM 1399 (.aload_n 0) 1 = true ∧ dq NM 1400 (.iload_n 3) 1 = true ∧ dq NM 1401 (.iconst 2) 1 = true ∧ dq NM 1402 (.iadd) 1 = true ∧ dq NM 1403 (.iaload) 1 = true ∧ dq NM 1404 (.aload_n 0) 1 = true ∧ dq NM 1405 (.iload_n 3) 1 = true ∧ dq NM 1406 (.iconst 3) 1 = true ∧ dq NM 1407 (.iadd) 1 = true ∧ dq NM 1408 (.iaload) 1 = true ∧ dq NM 1409 (.aload_n 0) 1 = true := by decide +kernel
theorem dL_law_1394 : decode (mB NM) 1394 = .ok (.aload_n 0, 1) := dqo gL_law_1394.1
theorem dL_law_1395 : decode (mB NM) 1395 = .ok (.iload_n 3, 1) := dqo gL_law_1394.2.1
theorem dL_law_1396 : decode (mB NM) 1396 = .ok (.iconst 1, 1) := dqo gL_law_1394.2.2.1
theorem dL_law_1397 : decode (mB NM) 1397 = .ok (.iadd, 1) := dqo gL_law_1394.2.2.2.1
theorem dL_law_1398 : decode (mB NM) 1398 = .ok (.iaload, 1) := dqo gL_law_1394.2.2.2.2.1
theorem dL_law_1399 : decode (mB NM) 1399 = .ok (.aload_n 0, 1) := dqo gL_law_1394.2.2.2.2.2.1
theorem dL_law_1400 : decode (mB NM) 1400 = .ok (.iload_n 3, 1) := dqo gL_law_1394.2.2.2.2.2.2.1
theorem dL_law_1401 : decode (mB NM) 1401 = .ok (.iconst 2, 1) := dqo gL_law_1394.2.2.2.2.2.2.2.1
theorem dL_law_1402 : decode (mB NM) 1402 = .ok (.iadd, 1) := dqo gL_law_1394.2.2.2.2.2.2.2.2.1
theorem dL_law_1403 : decode (mB NM) 1403 = .ok (.iaload, 1) := dqo gL_law_1394.2.2.2.2.2.2.2.2.2.1
theorem dL_law_1404 : decode (mB NM) 1404 = .ok (.aload_n 0, 1) := dqo gL_law_1394.2.2.2.2.2.2.2.2.2.2.1
theorem dL_law_1405 : decode (mB NM) 1405 = .ok (.iload_n 3, 1) := dqo gL_law_1394.2.2.2.2.2.2.2.2.2.2.2.1
theorem dL_law_1406 : decode (mB NM) 1406 = .ok (.iconst 3, 1) := dqo gL_law_1394.2.2.2.2.2.2.2.2.2.2.2.2.1
theorem dL_law_1407 : decode (mB NM) 1407 = .ok (.iadd, 1) := dqo gL_law_1394.2.2.2.2.2.2.2.2.2.2.2.2.2.1
theorem dL_law_1408 : decode (mB NM) 1408 = .ok (.iaload, 1) := dqo gL_law_1394.2.2.2.2.2.2.2.2.2.2.2.2.2.2.1
theorem dL_law_1409 : decode (mB NM) 1409 = .ok (.aload_n 0, 1) := dqo gL_law_1394.2.2.2.2.2.2.2.2.2.2.2.2.2.2.2
theorem gL_law_1410 : dq NM 1410 (.iload_n 3) 1 = true ∧ dq NM 1411 (.iconst 4) 1 = true ∧ dq NM 1412 (.iadd) 1 = true ∧ dq NM 1413 (.iaload) 1 = true ∧ dq NM 1414 (.aload_n 0) 1 = true ∧ dq NM 1415 (.iload_n 3) 1 = true ∧ dq NM 1416 (.iconst 5) 1 = true ∧ dq NM 1417 (.iadd) 1 = true ∧ dq NM 1418 (.iaload) 1 = true ∧ dq NM 1419 (.invokevirtual 178) 3 = true ∧ dq NM 1422 (.pop) 1 = true ∧ dq NM 1423 (.aload_n 2) 1 = true ∧ dq NM 1424 (.aload_n 0) 1 = true ∧ dq NM 1425 (.iload_n 3) 1 = true ∧ dq NM 1426 (.iconst 1) 1 = true ∧ dq NM 1427 (.iadd) 1 = true := by decide +kernel
theorem dL_law_1410 : decode (mB NM) 1410 = .ok (.iload_n 3, 1) := dqo gL_law_1410.1
theorem dL_law_1411 : decode (mB NM) 1411 = .ok (.iconst 4, 1) := dqo gL_law_1410.2.1
theorem dL_law_1412 : decode (mB NM) 1412 = .ok (.iadd, 1) := dqo gL_law_1410.2.2.1
theorem dL_law_1413 : decode (mB NM) 1413 = .ok (.iaload, 1) := dqo gL_law_1410.2.2.2.1
theorem dL_law_1414 : decode (mB NM) 1414 = .ok (.aload_n 0, 1) := dqo gL_law_1410.2.2.2.2.1
theorem dL_law_1415 : decode (mB NM) 1415 = .ok (.iload_n 3, 1) := dqo gL_law_1410.2.2.2.2.2.1
theorem dL_law_1416 : decode (mB NM) 1416 = .ok (.iconst 5, 1) := dqo gL_law_1410.2.2.2.2.2.2.1
theorem dL_law_1417 : decode (mB NM) 1417 = .ok (.iadd, 1) := dqo gL_law_1410.2.2.2.2.2.2.2.1
theorem dL_law_1418 : decode (mB NM) 1418 = .ok (.iaload, 1) := dqo gL_law_1410.2.2.2.2.2.2.2.2.1
theorem dL_law_1419 : decode (mB NM) 1419 = .ok (.invokevirtual 178, 3) := dqo gL_law_1410.2.2.2.2.2.2.2.2.2.1
theorem dL_law_1422 : decode (mB NM) 1422 = .ok (.pop, 1) := dqo gL_law_1410.2.2.2.2.2.2.2.2.2.2.1
theorem dL_law_1423 : decode (mB NM) 1423 = .ok (.aload_n 2, 1) := dqo gL_law_1410.2.2.2.2.2.2.2.2.2.2.2.1
theorem dL_law_1424 : decode (mB NM) 1424 = .ok (.aload_n 0, 1) := dqo gL_law_1410.2.2.2.2.2.2.2.2.2.2.2.2.1
theorem dL_law_1425 : decode (mB NM) 1425 = .ok (.iload_n 3, 1) := dqo gL_law_1410.2.2.2.2.2.2.2.2.2.2.2.2.2.1
theorem dL_law_1426 : decode (mB NM) 1426 = .ok (.iconst 1, 1) := dqo gL_law_1410.2.2.2.2.2.2.2.2.2.2.2.2.2.2.1
theorem dL_law_1427 : decode (mB NM) 1427 = .ok (.iadd, 1) := dqo gL_law_1410.2.2.2.2.2.2.2.2.2.2.2.2.2.2.2
theorem gL_law_1428 : dq NM 1428 (.iaload) 1 = true ∧ dq NM 1429 (.aload_n 0) 1 = true ∧ dq NM 1430 (.iload_n 3) 1 = true ∧ dq NM 1431 (.iconst 2) 1 = true ∧ dq NM 1432 (.iadd) 1 = true ∧ dq NM 1433 (.iaload) 1 = true ∧ dq NM 1434 (.aload_n 0) 1 = true ∧ dq NM 1435 (.iload_n 3) 1 = true ∧ dq NM 1436 (.iconst 3) 1 = true ∧ dq NM 1437 (.iadd) 1 = true ∧ dq NM 1438 (.iaload) 1 = true ∧ dq NM 1439 (.aload_n 0) 1 = true ∧ dq NM 1440 (.iload_n 3) 1 = true ∧ dq NM 1441 (.iconst 4) 1 = true ∧ dq NM 1442 (.iadd) 1 = true ∧ dq NM 1443 (.iaload) 1 = true := by decide +kernel
theorem dL_law_1428 : decode (mB NM) 1428 = .ok (.iaload, 1) := dqo gL_law_1428.1
theorem dL_law_1429 : decode (mB NM) 1429 = .ok (.aload_n 0, 1) := dqo gL_law_1428.2.1
theorem dL_law_1430 : decode (mB NM) 1430 = .ok (.iload_n 3, 1) := dqo gL_law_1428.2.2.1
theorem dL_law_1431 : decode (mB NM) 1431 = .ok (.iconst 2, 1) := dqo gL_law_1428.2.2.2.1
theorem dL_law_1432 : decode (mB NM) 1432 = .ok (.iadd, 1) := dqo gL_law_1428.2.2.2.2.1
theorem dL_law_1433 : decode (mB NM) 1433 = .ok (.iaload, 1) := dqo gL_law_1428.2.2.2.2.2.1
theorem dL_law_1434 : decode (mB NM) 1434 = .ok (.aload_n 0, 1) := dqo gL_law_1428.2.2.2.2.2.2.1
theorem dL_law_1435 : decode (mB NM) 1435 = .ok (.iload_n 3, 1) := dqo gL_law_1428.2.2.2.2.2.2.2.1
theorem dL_law_1436 : decode (mB NM) 1436 = .ok (.iconst 3, 1) := dqo gL_law_1428.2.2.2.2.2.2.2.2.1
theorem dL_law_1437 : decode (mB NM) 1437 = .ok (.iadd, 1) := dqo gL_law_1428.2.2.2.2.2.2.2.2.2.1
theorem dL_law_1438 : decode (mB NM) 1438 = .ok (.iaload, 1) := dqo gL_law_1428.2.2.2.2.2.2.2.2.2.2.1
theorem dL_law_1439 : decode (mB NM) 1439 = .ok (.aload_n 0, 1) := dqo gL_law_1428.2.2.2.2.2.2.2.2.2.2.2.1
theorem dL_law_1440 : decode (mB NM) 1440 = .ok (.iload_n 3, 1) := dqo gL_law_1428.2.2.2.2.2.2.2.2.2.2.2.2.1
theorem dL_law_1441 : decode (mB NM) 1441 = .ok (.iconst 4, 1) := dqo gL_law_1428.2.2.2.2.2.2.2.2.2.2.2.2.2.1
theorem dL_law_1442 : decode (mB NM) 1442 = .ok (.iadd, 1) := dqo gL_law_1428.2.2.2.2.2.2.2.2.2.2.2.2.2.2.1
theorem dL_law_1443 : decode (mB NM) 1443 = .ok (.iaload, 1) := dqo gL_law_1428.2.2.2.2.2.2.2.2.2.2.2.2.2.2.2
theorem gL_law_1444 : dq NM 1444 (.aload_n 0) 1 = true ∧ dq NM 1445 (.iload_n 3) 1 = true ∧ dq NM 1446 (.iconst 5) 1 = true ∧ dq NM 1447 (.iadd) 1 = true ∧ dq NM 1448 (.iaload) 1 = true ∧ dq NM 1449 (.invokevirtual 182) 3 = true ∧ dq NM 1452 (.pop) 1 = true ∧ dq NM 1453 (.goto 59) 3 = true ∧ dq NM 1456 (.aload_n 1) 1 = true ∧ dq NM 1457 (.aload_n 0) 1 = true ∧ dq NM 1458 (.iload_n 3) 1 = true ∧ dq NM 1459 (.iconst 1) 1 = true ∧ dq NM 1460 (.iadd) 1 = true ∧ dq NM 1461 (.iaload) 1 = true ∧ dq NM 1462 (.aload_n 0) 1 = true ∧ dq NM 1463 (.iload_n 3) 1 = true := by decide +kernel
theorem dL_law_1444 : decode (mB NM) 1444 = .ok (.aload_n 0, 1) := dqo gL_law_1444.1
theorem dL_law_1445 : decode (mB NM) 1445 = .ok (.iload_n 3, 1) := dqo gL_law_1444.2.1
theorem dL_law_1446 : decode (mB NM) 1446 = .ok (.iconst 5, 1) := dqo gL_law_1444.2.2.1
theorem dL_law_1447 : decode (mB NM) 1447 = .ok (.iadd, 1) := dqo gL_law_1444.2.2.2.1
theorem dL_law_1448 : decode (mB NM) 1448 = .ok (.iaload, 1) := dqo gL_law_1444.2.2.2.2.1
theorem dL_law_1449 : decode (mB NM) 1449 = .ok (.invokevirtual 182, 3) := dqo gL_law_1444.2.2.2.2.2.1
theorem dL_law_1452 : decode (mB NM) 1452 = .ok (.pop, 1) := dqo gL_law_1444.2.2.2.2.2.2.1
theorem dL_law_1453 : decode (mB NM) 1453 = .ok (.goto 59, 3) := dqo gL_law_1444.2.2.2.2.2.2.2.1
theorem dL_law_1456 : decode (mB NM) 1456 = .ok (.aload_n 1, 1) := dqo gL_law_1444.2.2.2.2.2.2.2.2.1
theorem dL_law_1457 : decode (mB NM) 1457 = .ok (.aload_n 0, 1) := dqo gL_law_1444.2.2.2.2.2.2.2.2.2.1
theorem dL_law_1458 : decode (mB NM) 1458 = .ok (.iload_n 3, 1) := dqo gL_law_1444.2.2.2.2.2.2.2.2.2.2.1
theorem dL_law_1459 : decode (mB NM) 1459 = .ok (.iconst 1, 1) := dqo gL_law_1444.2.2.2.2.2.2.2.2.2.2.2.1
theorem dL_law_1460 : decode (mB NM) 1460 = .ok (.iadd, 1) := dqo gL_law_1444.2.2.2.2.2.2.2.2.2.2.2.2.1
theorem dL_law_1461 : decode (mB NM) 1461 = .ok (.iaload, 1) := dqo gL_law_1444.2.2.2.2.2.2.2.2.2.2.2.2.2.1
theorem dL_law_1462 : decode (mB NM) 1462 = .ok (.aload_n 0, 1) := dqo gL_law_1444.2.2.2.2.2.2.2.2.2.2.2.2.2.2.1
theorem dL_law_1463 : decode (mB NM) 1463 = .ok (.iload_n 3, 1) := dqo gL_law_1444.2.2.2.2.2.2.2.2.2.2.2.2.2.2.2
theorem gL_law_1464 : dq NM 1464 (.iconst 2) 1 = true ∧ dq NM 1465 (.iadd) 1 = true ∧ dq NM 1466 (.iaload) 1 = true ∧ dq NM 1467 (.invokevirtual 183) 3 = true ∧ dq NM 1470 (.aload_n 2) 1 = true ∧ dq NM 1471 (.aload_n 0) 1 = true ∧ dq NM 1472 (.iload_n 3) 1 = true ∧ dq NM 1473 (.iconst 1) 1 = true ∧ dq NM 1474 (.iadd) 1 = true ∧ dq NM 1475 (.iaload) 1 = true ∧ dq NM 1476 (.aload_n 0) 1 = true ∧ dq NM 1477 (.iload_n 3) 1 = true ∧ dq NM 1478 (.iconst 2) 1 = true ∧ dq NM 1479 (.iadd) 1 = true ∧ dq NM 1480 (.iaload) 1 = true ∧ dq NM 1481 (.invokevirtual 186) 3 = true := by decide +kernel
theorem dL_law_1464 : decode (mB NM) 1464 = .ok (.iconst 2, 1) := dqo gL_law_1464.1
theorem dL_law_1465 : decode (mB NM) 1465 = .ok (.iadd, 1) := dqo gL_law_1464.2.1
theorem dL_law_1466 : decode (mB NM) 1466 = .ok (.iaload, 1) := dqo gL_law_1464.2.2.1
theorem dL_law_1467 : decode (mB NM) 1467 = .ok (.invokevirtual 183, 3) := dqo gL_law_1464.2.2.2.1
theorem dL_law_1470 : decode (mB NM) 1470 = .ok (.aload_n 2, 1) := dqo gL_law_1464.2.2.2.2.1
theorem dL_law_1471 : decode (mB NM) 1471 = .ok (.aload_n 0, 1) := dqo gL_law_1464.2.2.2.2.2.1
theorem dL_law_1472 : decode (mB NM) 1472 = .ok (.iload_n 3, 1) := dqo gL_law_1464.2.2.2.2.2.2.1
theorem dL_law_1473 : decode (mB NM) 1473 = .ok (.iconst 1, 1) := dqo gL_law_1464.2.2.2.2.2.2.2.1
theorem dL_law_1474 : decode (mB NM) 1474 = .ok (.iadd, 1) := dqo gL_law_1464.2.2.2.2.2.2.2.2.1
theorem dL_law_1475 : decode (mB NM) 1475 = .ok (.iaload, 1) := dqo gL_law_1464.2.2.2.2.2.2.2.2.2.1
theorem dL_law_1476 : decode (mB NM) 1476 = .ok (.aload_n 0, 1) := dqo gL_law_1464.2.2.2.2.2.2.2.2.2.2.1
theorem dL_law_1477 : decode (mB NM) 1477 = .ok (.iload_n 3, 1) := dqo gL_law_1464.2.2.2.2.2.2.2.2.2.2.2.1
theorem dL_law_1478 : decode (mB NM) 1478 = .ok (.iconst 2, 1) := dqo gL_law_1464.2.2.2.2.2.2.2.2.2.2.2.2.1
theorem dL_law_1479 : decode (mB NM) 1479 = .ok (.iadd, 1) := dqo gL_law_1464.2.2.2.2.2.2.2.2.2.2.2.2.2.1
theorem dL_law_1480 : decode (mB NM) 1480 = .ok (.iaload, 1) := dqo gL_law_1464.2.2.2.2.2.2.2.2.2.2.2.2.2.2.1
theorem dL_law_1481 : decode (mB NM) 1481 = .ok (.invokevirtual 186, 3) := dqo gL_law_1464.2.2.2.2.2.2.2.2.2.2.2.2.2.2.2
theorem gL_law_1484 : dq NM 1484 (.if_icmp .eq 28) 3 = true ∧ dq NM 1487 (.iconst 0) 1 = true ∧ dq NM 1488 (.ireturn) 1 = true ∧ dq NM 1489 (.aload_n 1) 1 = true ∧ dq NM 1490 (.aload_n 0) 1 = true ∧ dq NM 1491 (.iload_n 3) 1 = true ∧ dq NM 1492 (.iconst 1) 1 = true ∧ dq NM 1493 (.iadd) 1 = true ∧ dq NM 1494 (.iaload) 1 = true ∧ dq NM 1495 (.invokevirtual 187) 3 = true ∧ dq NM 1498 (.pop) 1 = true ∧ dq NM 1499 (.aload_n 2) 1 = true ∧ dq NM 1500 (.aload_n 0) 1 = true ∧ dq NM 1501 (.iload_n 3) 1 = true ∧ dq NM 1502 (.iconst 1) 1 = true ∧ dq NM 1503 (.iadd) 1 = true := by decide +kernel
theorem dL_law_1484 : decode (mB NM) 1484 = .ok (.if_icmp .eq 28, 3) := dqo gL_law_1484.1
theorem dL_law_1487 : decode (mB NM) 1487 = .ok (.iconst 0, 1) := dqo gL_law_1484.2.1
theorem dL_law_1488 : decode (mB NM) 1488 = .ok (.ireturn, 1) := dqo gL_law_1484.2.2.1
theorem dL_law_1489 : decode (mB NM) 1489 = .ok (.aload_n 1, 1) := dqo gL_law_1484.2.2.2.1
theorem dL_law_1490 : decode (mB NM) 1490 = .ok (.aload_n 0, 1) := dqo gL_law_1484.2.2.2.2.1
theorem dL_law_1491 : decode (mB NM) 1491 = .ok (.iload_n 3, 1) := dqo gL_law_1484.2.2.2.2.2.1
theorem dL_law_1492 : decode (mB NM) 1492 = .ok (.iconst 1, 1) := dqo gL_law_1484.2.2.2.2.2.2.1
theorem dL_law_1493 : decode (mB NM) 1493 = .ok (.iadd, 1) := dqo gL_law_1484.2.2.2.2.2.2.2.1
theorem dL_law_1494 : decode (mB NM) 1494 = .ok (.iaload, 1) := dqo gL_law_1484.2.2.2.2.2.2.2.2.1
theorem dL_law_1495 : decode (mB NM) 1495 = .ok (.invokevirtual 187, 3) := dqo gL_law_1484.2.2.2.2.2.2.2.2.2.1
theorem dL_law_1498 : decode (mB NM) 1498 = .ok (.pop, 1) := dqo gL_law_1484.2.2.2.2.2.2.2.2.2.2.1
theorem dL_law_1499 : decode (mB NM) 1499 = .ok (.aload_n 2, 1) := dqo gL_law_1484.2.2.2.2.2.2.2.2.2.2.2.1
theorem dL_law_1500 : decode (mB NM) 1500 = .ok (.aload_n 0, 1) := dqo gL_law_1484.2.2.2.2.2.2.2.2.2.2.2.2.1
theorem dL_law_1501 : decode (mB NM) 1501 = .ok (.iload_n 3, 1) := dqo gL_law_1484.2.2.2.2.2.2.2.2.2.2.2.2.2.1
theorem dL_law_1502 : decode (mB NM) 1502 = .ok (.iconst 1, 1) := dqo gL_law_1484.2.2.2.2.2.2.2.2.2.2.2.2.2.2.1
theorem dL_law_1503 : decode (mB NM) 1503 = .ok (.iadd, 1) := dqo gL_law_1484.2.2.2.2.2.2.2.2.2.2.2.2.2.2.2
theorem gL_law_1504 : dq NM 1504 (.iaload) 1 = true ∧ dq NM 1505 (.invokevirtual 190) 3 = true ∧ dq NM 1508 (.pop) 1 = true ∧ dq NM 1509 (.goto 3) 3 = true ∧ dq NM 1512 (.iinc 3 6) 3 = true ∧ dq NM 1515 (.goto (-1497)) 3 = true ∧ dq NM 1518 (.iconst 1) 1 = true ∧ dq NM 1519 (.ireturn) 1 = true := by decide +kernel
theorem dL_law_1504 : decode (mB NM) 1504 = .ok (.iaload, 1) := dqo gL_law_1504.1
theorem dL_law_1505 : decode (mB NM) 1505 = .ok (.invokevirtual 190, 3) := dqo gL_law_1504.2.1
theorem dL_law_1508 : decode (mB NM) 1508 = .ok (.pop, 1) := dqo gL_law_1504.2.2.1
theorem dL_law_1509 : decode (mB NM) 1509 = .ok (.goto 3, 3) := dqo gL_law_1504.2.2.2.1
theorem dL_law_1512 : decode (mB NM) 1512 = .ok (.iinc 3 6, 3) := dqo gL_law_1504.2.2.2.2.1
theorem dL_law_1515 : decode (mB NM) 1515 = .ok (.goto (-1497), 3) := dqo gL_law_1504.2.2.2.2.2.1
theorem dL_law_1518 : decode (mB NM) 1518 = .ok (.iconst 1, 1) := dqo gL_law_1504.2.2.2.2.2.2.1
theorem dL_law_1519 : decode (mB NM) 1519 = .ok (.ireturn, 1) := dqo gL_law_1504.2.2.2.2.2.2.2
