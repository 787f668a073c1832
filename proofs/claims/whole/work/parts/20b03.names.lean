theorem dX3_merges_211 : decode cX3_merges 211 = .ok (.aload_n 0, 1) := by decide +kernel
theorem dX3_merges_212 : decode cX3_merges 212 = .ok (.getfield 14, 3) := by decide +kernel
theorem dX3_merges_215 : decode cX3_merges 215 = .ok (.iload_n 1, 1) := by decide +kernel
theorem dX3_merges_216 : decode cX3_merges 216 = .ok (.iload 4, 2) := by decide +kernel
theorem dX3_merges_218 : decode cX3_merges 218 = .ok (.invokestatic 48, 3) := by decide +kernel
theorem dX3_merges_221 : decode cX3_merges 221 = .ok (.iload 5, 2) := by decide +kernel
theorem dX3_merges_223 : decode cX3_merges 223 = .ok (.aload_n 0, 1) := by decide +kernel
theorem dX3_merges_224 : decode cX3_merges 224 = .ok (.getfield 14, 3) := by decide +kernel
theorem dX3_merges_227 : decode cX3_merges 227 = .ok (.iload_n 1, 1) := by decide +kernel
theorem dX3_merges_228 : decode cX3_merges 228 = .ok (.iload 4, 2) := by decide +kernel
theorem dX3_merges_230 : decode cX3_merges 230 = .ok (.invokestatic 48, 3) := by decide +kernel
theorem dX3_merges_233 : decode cX3_merges 233 = .ok (.iaload, 1) := by decide +kernel
theorem dX3_merges_234 : decode cX3_merges 234 = .ok (.if_icmp .le 8, 3) := by decide +kernel
theorem dX3_merges_237 : decode cX3_merges 237 = .ok (.iload 5, 2) := by decide +kernel
theorem dX3_merges_239 : decode cX3_merges 239 = .ok (.goto 14, 3) := by decide +kernel
theorem dX3_merges_242 : decode cX3_merges 242 = .ok (.aload_n 0, 1) := by decide +kernel
theorem dX3_merges_243 : decode cX3_merges 243 = .ok (.getfield 14, 3) := by decide +kernel
theorem dX3_merges_246 : decode cX3_merges 246 = .ok (.iload_n 1, 1) := by decide +kernel
theorem dX3_merges_247 : decode cX3_merges 247 = .ok (.iload 4, 2) := by decide +kernel
theorem dX3_merges_249 : decode cX3_merges 249 = .ok (.invokestatic 48, 3) := by decide +kernel
theorem dX3_merges_252 : decode cX3_merges 252 = .ok (.iaload, 1) := by decide +kernel
theorem dX3_merges_253 : decode cX3_merges 253 = .ok (.iastore, 1) := by decide +kernel
theorem dX3_merges_254 : decode cX3_merges 254 = .ok (.iinc 4 1, 3) := by decide +kernel
theorem dX3_merges_257 : decode cX3_merges 257 = .ok (.goto (-66), 3) := by decide +kernel
theorem dX3_merges_260 : decode cX3_merges 260 = .ok (.iconst 0, 1) := by decide +kernel
theorem dX3_merges_261 : decode cX3_merges 261 = .ok (.istore 4, 2) := by decide +kernel
theorem dX3_merges_263 : decode cX3_merges 263 = .ok (.iload 4, 2) := by decide +kernel
theorem dX3_merges_265 : decode cX3_merges 265 = .ok (.bipush 48, 2) := by decide +kernel
theorem dX3_merges_267 : decode cX3_merges 267 = .ok (.if_icmp .ge 70, 3) := by decide +kernel
theorem dX3_merges_270 : decode cX3_merges 270 = .ok (.aload_n 0, 1) := by decide +kernel
theorem dX3_merges_271 : decode cX3_merges 271 = .ok (.getfield 21, 3) := by decide +kernel
theorem dX3_merges_274 : decode cX3_merges 274 = .ok (.bipush 48, 2) := by decide +kernel
theorem dX3_merges_276 : decode cX3_merges 276 = .ok (.iload_n 2, 1) := by decide +kernel
theorem dX3_merges_277 : decode cX3_merges 277 = .ok (.imul, 1) := by decide +kernel
theorem dX3_merges_278 : decode cX3_merges 278 = .ok (.iload 4, 2) := by decide +kernel
theorem dX3_merges_280 : decode cX3_merges 280 = .ok (.iadd, 1) := by decide +kernel
theorem dX3_merges_281 : decode cX3_merges 281 = .ok (.laload, 1) := by decide +kernel
theorem dX3_merges_282 : decode cX3_merges 282 = .ok (.lstore 5, 2) := by decide +kernel
theorem dX3_merges_284 : decode cX3_merges 284 = .ok (.aload_n 0, 1) := by decide +kernel
theorem dX3_merges_285 : decode cX3_merges 285 = .ok (.getfield 21, 3) := by decide +kernel
theorem dX3_merges_288 : decode cX3_merges 288 = .ok (.bipush 48, 2) := by decide +kernel
theorem dX3_merges_290 : decode cX3_merges 290 = .ok (.iload_n 1, 1) := by decide +kernel
theorem dX3_merges_291 : decode cX3_merges 291 = .ok (.imul, 1) := by decide +kernel
theorem dX3_merges_292 : decode cX3_merges 292 = .ok (.iload 4, 2) := by decide +kernel
theorem dX3_merges_294 : decode cX3_merges 294 = .ok (.iadd, 1) := by decide +kernel
theorem dX3_merges_295 : decode cX3_merges 295 = .ok (.lload 5, 2) := by decide +kernel
theorem dX3_merges_297 : decode cX3_merges 297 = .ok (.aload_n 0, 1) := by decide +kernel
theorem dX3_merges_298 : decode cX3_merges 298 = .ok (.getfield 21, 3) := by decide +kernel
theorem dX3_merges_301 : decode cX3_merges 301 = .ok (.bipush 48, 2) := by decide +kernel
theorem dX3_merges_303 : decode cX3_merges 303 = .ok (.iload_n 1, 1) := by decide +kernel
theorem dX3_merges_304 : decode cX3_merges 304 = .ok (.imul, 1) := by decide +kernel
theorem dX3_merges_305 : decode cX3_merges 305 = .ok (.iload 4, 2) := by decide +kernel
theorem dX3_merges_307 : decode cX3_merges 307 = .ok (.iadd, 1) := by decide +kernel
theorem dX3_merges_308 : decode cX3_merges 308 = .ok (.laload, 1) := by decide +kernel
theorem dX3_merges_309 : decode cX3_merges 309 = .ok (.lcmp, 1) := by decide +kernel
theorem dX3_merges_310 : decode cX3_merges 310 = .ok (.ifCond .le 8, 3) := by decide +kernel
theorem dX3_merges_313 : decode cX3_merges 313 = .ok (.lload 5, 2) := by decide +kernel
theorem dX3_merges_315 : decode cX3_merges 315 = .ok (.goto 15, 3) := by decide +kernel
theorem dX3_merges_318 : decode cX3_merges 318 = .ok (.aload_n 0, 1) := by decide +kernel
theorem dX3_merges_319 : decode cX3_merges 319 = .ok (.getfield 21, 3) := by decide +kernel
theorem dX3_merges_322 : decode cX3_merges 322 = .ok (.bipush 48, 2) := by decide +kernel
theorem dX3_merges_324 : decode cX3_merges 324 = .ok (.iload_n 1, 1) := by decide +kernel
theorem dX3_merges_325 : decode cX3_merges 325 = .ok (.imul, 1) := by decide +kernel
theorem dX3_merges_326 : decode cX3_merges 326 = .ok (.iload 4, 2) := by decide +kernel
theorem dX3_merges_328 : decode cX3_merges 328 = .ok (.iadd, 1) := by decide +kernel
theorem dX3_merges_329 : decode cX3_merges 329 = .ok (.laload, 1) := by decide +kernel
theorem dX3_merges_330 : decode cX3_merges 330 = .ok (.lastore, 1) := by decide +kernel
theorem dX3_merges_331 : decode cX3_merges 331 = .ok (.iinc 4 1, 3) := by decide +kernel
theorem dX3_merges_334 : decode cX3_merges 334 = .ok (.goto (-71), 3) := by decide +kernel
theorem dX3_merges_337 : decode cX3_merges 337 = .ok (.iload_n 3, 1) := by decide +kernel
theorem dX3_merges_338 : decode cX3_merges 338 = .ok (.ireturn, 1) := by decide +kernel
set_option maxRecDepth 20000 in
theorem ggX3_deliver_X3_isMessage : GoodIn wsX3_deliver wsX3_isMessage := goodIn_r _ [6, 7, 35, 36, 37, 38, 39, 40, 41, 42] (by decide +kernel) (by decide +kernel)
set_option maxRecDepth 20000 in
theorem gX3_deliver_X3_isMessage : GoodIn wsX3_deliver (wsV RX3 75 RX3 yX3_isMessage wsX3_isMessage) := goodIn_app (goodIn_of _ (by decide +kernel)) ggX3_deliver_X3_isMessage
set_option maxRecDepth 20000 in
theorem ggX3_deliver_X3_refuses : GoodIn wsX3_deliver wsX3_refuses := goodIn_r _ [11, 12, 35, 36, 37, 38, 39, 40, 41, 42] (by decide +kernel) (by decide +kernel)
set_option maxRecDepth 20000 in
theorem gX3_deliver_X3_refuses : GoodIn wsX3_deliver (wsV RX3 38 RX3 yX3_refuses wsX3_refuses) := goodIn_app (goodIn_of _ (by decide +kernel)) ggX3_deliver_X3_refuses
set_option maxRecDepth 20000 in
theorem ggX3_deliver_X3_merges : GoodIn wsX3_deliver wsX3_merges := goodIn_r _ [16, 17, 18, 19, 20, 21, 5, 22, 23, 24, 25, 35, 36, 37, 38, 39, 40, 41, 42] (by decide +kernel) (by decide +kernel)
set_option maxRecDepth 20000 in
theorem gX3_deliver_X3_merges : GoodIn wsX3_deliver (wsV RX3 78 RX3 yX3_merges wsX3_merges) := goodIn_app (goodIn_of _ (by decide +kernel)) ggX3_deliver_X3_merges
set_option maxRecDepth 20000 in
theorem ggX3_deliver_X3_gone : GoodIn wsX3_deliver wsX3_gone := goodIn_r _ [29, 7, 30, 1, 31, 32, 33, 5, 34, 17, 18, 19, 35, 36, 37, 38, 39, 40, 41, 42] (by decide +kernel) (by decide +kernel)
set_option maxRecDepth 20000 in
theorem gX3_deliver_X3_gone : GoodIn wsX3_deliver (wsV RX3 81 RX3 yX3_gone wsX3_gone) := goodIn_app (goodIn_of _ (by decide +kernel)) ggX3_deliver_X3_gone
theorem dX3_deliver_0 : decode cX3_deliver 0 = .ok (.aload_n 0, 1) := by decide +kernel
theorem dX3_deliver_1 : decode cX3_deliver 1 = .ok (.aload_n 0, 1) := by decide +kernel
theorem dX3_deliver_2 : decode cX3_deliver 2 = .ok (.iload_n 1, 1) := by decide +kernel
theorem dX3_deliver_3 : decode cX3_deliver 3 = .ok (.invokevirtual 75, 3) := by decide +kernel
theorem dX3_deliver_6 : decode cX3_deliver 6 = .ok (.ifCond .eq 7, 3) := by decide +kernel
theorem dX3_deliver_9 : decode cX3_deliver 9 = .ok (.iconst 0, 1) := by decide +kernel
theorem dX3_deliver_10 : decode cX3_deliver 10 = .ok (.goto 4, 3) := by decide +kernel
theorem dX3_deliver_13 : decode cX3_deliver 13 = .ok (.iconst 1, 1) := by decide +kernel
theorem dX3_deliver_14 : decode cX3_deliver 14 = .ok (.invokevirtual 38, 3) := by decide +kernel
theorem dX3_deliver_17 : decode cX3_deliver 17 = .ok (.ifCond .eq 5, 3) := by decide +kernel
theorem dX3_deliver_20 : decode cX3_deliver 20 = .ok (.iconst 0, 1) := by decide +kernel
theorem dX3_deliver_21 : decode cX3_deliver 21 = .ok (.ireturn, 1) := by decide +kernel
theorem dX3_deliver_22 : decode cX3_deliver 22 = .ok (.aload_n 0, 1) := by decide +kernel
theorem dX3_deliver_23 : decode cX3_deliver 23 = .ok (.aload_n 0, 1) := by decide +kernel
theorem dX3_deliver_24 : decode cX3_deliver 24 = .ok (.getfield 28, 3) := by decide +kernel
theorem dX3_deliver_27 : decode cX3_deliver 27 = .ok (.iload_n 1, 1) := by decide +kernel
theorem dX3_deliver_28 : decode cX3_deliver 28 = .ok (.iaload, 1) := by decide +kernel
theorem dX3_deliver_29 : decode cX3_deliver 29 = .ok (.bipush 6, 2) := by decide +kernel
theorem dX3_deliver_31 : decode cX3_deliver 31 = .ok (.iload_n 1, 1) := by decide +kernel
theorem dX3_deliver_32 : decode cX3_deliver 32 = .ok (.iadd, 1) := by decide +kernel
theorem dX3_deliver_33 : decode cX3_deliver 33 = .ok (.invokevirtual 78, 3) := by decide +kernel
theorem dX3_deliver_36 : decode cX3_deliver 36 = .ok (.istore_n 2, 1) := by decide +kernel
theorem dX3_deliver_37 : decode cX3_deliver 37 = .ok (.aload_n 0, 1) := by decide +kernel
theorem dX3_deliver_38 : decode cX3_deliver 38 = .ok (.iload_n 1, 1) := by decide +kernel
theorem dX3_deliver_39 : decode cX3_deliver 39 = .ok (.invokevirtual 81, 3) := by decide +kernel
theorem dX3_deliver_42 : decode cX3_deliver 42 = .ok (.iload_n 2, 1) := by decide +kernel
theorem dX3_deliver_43 : decode cX3_deliver 43 = .ok (.ireturn, 1) := by decide +kernel
set_option maxRecDepth 20000 in
theorem ggX3_drop_X3_isMessage : GoodIn wsX3_drop wsX3_isMessage := goodIn_r _ [6, 7, 25, 26, 27, 28, 29, 30, 31, 32] (by decide +kernel) (by decide +kernel)
set_option maxRecDepth 20000 in
theorem gX3_drop_X3_isMessage : GoodIn wsX3_drop (wsV RX3 75 RX3 yX3_isMessage wsX3_isMessage) := goodIn_app (goodIn_of _ (by decide +kernel)) ggX3_drop_X3_isMessage
set_option maxRecDepth 20000 in
theorem ggX3_drop_X3_refuses : GoodIn wsX3_drop wsX3_refuses := goodIn_r _ [11, 12, 25, 26, 27, 28, 29, 30, 31, 32] (by decide +kernel) (by decide +kernel)
set_option maxRecDepth 20000 in
theorem gX3_drop_X3_refuses : GoodIn wsX3_drop (wsV RX3 38 RX3 yX3_refuses wsX3_refuses) := goodIn_app (goodIn_of _ (by decide +kernel)) ggX3_drop_X3_refuses
set_option maxRecDepth 20000 in
theorem ggX3_drop_X3_gone : GoodIn wsX3_drop wsX3_gone := goodIn_r _ [16, 7, 17, 1, 18, 19, 20, 5, 21, 22, 23, 24, 25, 26, 27, 28, 29, 30, 31, 32] (by decide +kernel) (by decide +kernel)
set_option maxRecDepth 20000 in
theorem gX3_drop_X3_gone : GoodIn wsX3_drop (wsV RX3 81 RX3 yX3_gone wsX3_gone) := goodIn_app (goodIn_of _ (by decide +kernel)) ggX3_drop_X3_gone
theorem dX3_drop_0 : decode cX3_drop 0 = .ok (.aload_n 0, 1) := by decide +kernel
theorem dX3_drop_1 : decode cX3_drop 1 = .ok (.aload_n 0, 1) := by decide +kernel
theorem dX3_drop_2 : decode cX3_drop 2 = .ok (.iload_n 1, 1) := by decide +kernel
theorem dX3_drop_3 : decode cX3_drop 3 = .ok (.invokevirtual 75, 3) := by decide +kernel
theorem dX3_drop_6 : decode cX3_drop 6 = .ok (.ifCond .eq 7, 3) := by decide +kernel
theorem dX3_drop_9 : decode cX3_drop 9 = .ok (.iconst 0, 1) := by decide +kernel
theorem dX3_drop_10 : decode cX3_drop 10 = .ok (.goto 4, 3) := by decide +kernel
theorem dX3_drop_13 : decode cX3_drop 13 = .ok (.iconst 1, 1) := by decide +kernel
theorem dX3_drop_14 : decode cX3_drop 14 = .ok (.invokevirtual 38, 3) := by decide +kernel
theorem dX3_drop_17 : decode cX3_drop 17 = .ok (.ifCond .eq 5, 3) := by decide +kernel
theorem dX3_drop_20 : decode cX3_drop 20 = .ok (.iconst 0, 1) := by decide +kernel
theorem dX3_drop_21 : decode cX3_drop 21 = .ok (.ireturn, 1) := by decide +kernel
theorem dX3_drop_22 : decode cX3_drop 22 = .ok (.aload_n 0, 1) := by decide +kernel
theorem dX3_drop_23 : decode cX3_drop 23 = .ok (.getfield 28, 3) := by decide +kernel
theorem dX3_drop_26 : decode cX3_drop 26 = .ok (.iload_n 1, 1) := by decide +kernel
theorem dX3_drop_27 : decode cX3_drop 27 = .ok (.iaload, 1) := by decide +kernel
theorem dX3_drop_28 : decode cX3_drop 28 = .ok (.istore_n 2, 1) := by decide +kernel
theorem dX3_drop_29 : decode cX3_drop 29 = .ok (.aload_n 0, 1) := by decide +kernel
theorem dX3_drop_30 : decode cX3_drop 30 = .ok (.iload_n 1, 1) := by decide +kernel
theorem dX3_drop_31 : decode cX3_drop 31 = .ok (.invokevirtual 81, 3) := by decide +kernel
theorem dX3_drop_34 : decode cX3_drop 34 = .ok (.iload_n 2, 1) := by decide +kernel
theorem dX3_drop_35 : decode cX3_drop 35 = .ok (.ireturn, 1) := by decide +kernel
set_option maxRecDepth 20000 in
theorem ggX3_copy_X3_isMessage : GoodIn wsX3_copy wsX3_isMessage := goodIn_r _ [8, 1, 21, 22, 23, 24, 25, 26, 27, 28] (by decide +kernel) (by decide +kernel)
set_option maxRecDepth 20000 in
theorem gX3_copy_X3_isMessage : GoodIn wsX3_copy (wsV RX3 75 RX3 yX3_isMessage wsX3_isMessage) := goodIn_app (goodIn_of _ (by decide +kernel)) ggX3_copy_X3_isMessage
set_option maxRecDepth 20000 in
theorem ggX3_copy_X3_refuses : GoodIn wsX3_copy wsX3_refuses := goodIn_r _ [12, 13, 21, 22, 23, 24, 25, 26, 27, 28] (by decide +kernel) (by decide +kernel)
set_option maxRecDepth 20000 in
theorem gX3_copy_X3_refuses : GoodIn wsX3_copy (wsV RX3 38 RX3 yX3_refuses wsX3_refuses) := goodIn_app (goodIn_of _ (by decide +kernel)) ggX3_copy_X3_refuses
set_option maxRecDepth 20000 in
theorem ggX3_copy_X3_copies : GoodIn wsX3_copy wsX3_copies := goodIn_r _ [17, 18, 19, 20, 21, 22, 23, 24, 25, 26, 27, 28] (by decide +kernel) (by decide +kernel)
set_option maxRecDepth 20000 in
theorem gX3_copy_X3_copies : GoodIn wsX3_copy (wsV RX3 72 RX3 yX3_copies wsX3_copies) := goodIn_app (goodIn_of _ (by decide +kernel)) ggX3_copy_X3_copies
theorem dX3_copy_0 : decode cX3_copy 0 = .ok (.aload_n 0, 1) := by decide +kernel
theorem dX3_copy_1 : decode cX3_copy 1 = .ok (.aload_n 0, 1) := by decide +kernel
theorem dX3_copy_2 : decode cX3_copy 2 = .ok (.iload_n 1, 1) := by decide +kernel
theorem dX3_copy_3 : decode cX3_copy 3 = .ok (.invokevirtual 75, 3) := by decide +kernel
theorem dX3_copy_6 : decode cX3_copy 6 = .ok (.ifCond .eq 7, 3) := by decide +kernel
theorem dX3_copy_9 : decode cX3_copy 9 = .ok (.iconst 0, 1) := by decide +kernel
theorem dX3_copy_10 : decode cX3_copy 10 = .ok (.goto 4, 3) := by decide +kernel
theorem dX3_copy_13 : decode cX3_copy 13 = .ok (.iconst 1, 1) := by decide +kernel
theorem dX3_copy_14 : decode cX3_copy 14 = .ok (.invokevirtual 38, 3) := by decide +kernel
theorem dX3_copy_17 : decode cX3_copy 17 = .ok (.ifCond .ne 12, 3) := by decide +kernel
theorem dX3_copy_20 : decode cX3_copy 20 = .ok (.aload_n 0, 1) := by decide +kernel
theorem dX3_copy_21 : decode cX3_copy 21 = .ok (.getfield 41, 3) := by decide +kernel
theorem dX3_copy_24 : decode cX3_copy 24 = .ok (.bipush 100, 2) := by decide +kernel
theorem dX3_copy_26 : decode cX3_copy 26 = .ok (.if_icmp .ne 5, 3) := by decide +kernel
theorem dX3_copy_29 : decode cX3_copy 29 = .ok (.iconst 0, 1) := by decide +kernel
theorem dX3_copy_30 : decode cX3_copy 30 = .ok (.ireturn, 1) := by decide +kernel
theorem dX3_copy_31 : decode cX3_copy 31 = .ok (.aload_n 0, 1) := by decide +kernel
theorem dX3_copy_32 : decode cX3_copy 32 = .ok (.bipush 6, 2) := by decide +kernel
theorem dX3_copy_34 : decode cX3_copy 34 = .ok (.iload_n 1, 1) := by decide +kernel
theorem dX3_copy_35 : decode cX3_copy 35 = .ok (.iadd, 1) := by decide +kernel
theorem dX3_copy_36 : decode cX3_copy 36 = .ok (.bipush 6, 2) := by decide +kernel
theorem dX3_copy_38 : decode cX3_copy 38 = .ok (.aload_n 0, 1) := by decide +kernel
theorem dX3_copy_39 : decode cX3_copy 39 = .ok (.getfield 41, 3) := by decide +kernel
theorem dX3_copy_42 : decode cX3_copy 42 = .ok (.iadd, 1) := by decide +kernel
theorem dX3_copy_43 : decode cX3_copy 43 = .ok (.invokevirtual 72, 3) := by decide +kernel
theorem dX3_copy_46 : decode cX3_copy 46 = .ok (.aload_n 0, 1) := by decide +kernel
theorem dX3_copy_47 : decode cX3_copy 47 = .ok (.getfield 25, 3) := by decide +kernel
theorem dX3_copy_50 : decode cX3_copy 50 = .ok (.aload_n 0, 1) := by decide +kernel
theorem dX3_copy_51 : decode cX3_copy 51 = .ok (.getfield 41, 3) := by decide +kernel
theorem dX3_copy_54 : decode cX3_copy 54 = .ok (.aload_n 0, 1) := by decide +kernel
theorem dX3_copy_55 : decode cX3_copy 55 = .ok (.getfield 25, 3) := by decide +kernel
theorem dX3_copy_58 : decode cX3_copy 58 = .ok (.iload_n 1, 1) := by decide +kernel
theorem dX3_copy_59 : decode cX3_copy 59 = .ok (.iaload, 1) := by decide +kernel
theorem dX3_copy_60 : decode cX3_copy 60 = .ok (.iastore, 1) := by decide +kernel
theorem dX3_copy_61 : decode cX3_copy 61 = .ok (.aload_n 0, 1) := by decide +kernel
theorem dX3_copy_62 : decode cX3_copy 62 = .ok (.getfield 28, 3) := by decide +kernel
theorem dX3_copy_65 : decode cX3_copy 65 = .ok (.aload_n 0, 1) := by decide +kernel
theorem dX3_copy_66 : decode cX3_copy 66 = .ok (.getfield 41, 3) := by decide +kernel
theorem dX3_copy_69 : decode cX3_copy 69 = .ok (.aload_n 0, 1) := by decide +kernel
theorem dX3_copy_70 : decode cX3_copy 70 = .ok (.getfield 28, 3) := by decide +kernel
theorem dX3_copy_73 : decode cX3_copy 73 = .ok (.iload_n 1, 1) := by decide +kernel
theorem dX3_copy_74 : decode cX3_copy 74 = .ok (.iaload, 1) := by decide +kernel
theorem dX3_copy_75 : decode cX3_copy 75 = .ok (.iastore, 1) := by decide +kernel
theorem dX3_copy_76 : decode cX3_copy 76 = .ok (.aload_n 0, 1) := by decide +kernel
theorem dX3_copy_77 : decode cX3_copy 77 = .ok (.dup, 1) := by decide +kernel
theorem dX3_copy_78 : decode cX3_copy 78 = .ok (.getfield 41, 3) := by decide +kernel
theorem dX3_copy_81 : decode cX3_copy 81 = .ok (.iconst 1, 1) := by decide +kernel
theorem dX3_copy_82 : decode cX3_copy 82 = .ok (.iadd, 1) := by decide +kernel
theorem dX3_copy_83 : decode cX3_copy 83 = .ok (.putfield 41, 3) := by decide +kernel
theorem dX3_copy_86 : decode cX3_copy 86 = .ok (.iconst 1, 1) := by decide +kernel
theorem dX3_copy_87 : decode cX3_copy 87 = .ok (.ireturn, 1) := by decide +kernel
set_option maxRecDepth 20000 in
theorem ggX3_turn_X3_isMessage : GoodIn wsX3_turn wsX3_isMessage := goodIn_r _ [6, 7, 18, 19, 20, 21, 22, 23, 24, 25] (by decide +kernel) (by decide +kernel)
set_option maxRecDepth 20000 in
theorem gX3_turn_X3_isMessage : GoodIn wsX3_turn (wsV RX3 75 RX3 yX3_isMessage wsX3_isMessage) := goodIn_app (goodIn_of _ (by decide +kernel)) ggX3_turn_X3_isMessage
set_option maxRecDepth 20000 in
theorem ggX3_turn_X3_isReplica : GoodIn wsX3_turn wsX3_isReplica := goodIn_r _ [11, 12, 18, 19, 20, 21, 22, 23, 24, 25] (by decide +kernel) (by decide +kernel)
set_option maxRecDepth 20000 in
theorem gX3_turn_X3_isReplica : GoodIn wsX3_turn (wsV RX3 34 RX3 yX3_isReplica wsX3_isReplica) := goodIn_app (goodIn_of _ (by decide +kernel)) ggX3_turn_X3_isReplica
set_option maxRecDepth 20000 in
theorem ggX3_turn_X3_refuses : GoodIn wsX3_turn wsX3_refuses := goodIn_r _ [16, 17, 18, 19, 20, 21, 22, 23, 24, 25] (by decide +kernel) (by decide +kernel)
set_option maxRecDepth 20000 in
theorem gX3_turn_X3_refuses : GoodIn wsX3_turn (wsV RX3 38 RX3 yX3_refuses wsX3_refuses) := goodIn_app (goodIn_of _ (by decide +kernel)) ggX3_turn_X3_refuses
theorem dX3_turn_0 : decode cX3_turn 0 = .ok (.aload_n 0, 1) := by decide +kernel
theorem dX3_turn_1 : decode cX3_turn 1 = .ok (.aload_n 0, 1) := by decide +kernel
theorem dX3_turn_2 : decode cX3_turn 2 = .ok (.iload_n 1, 1) := by decide +kernel
theorem dX3_turn_3 : decode cX3_turn 3 = .ok (.invokevirtual 75, 3) := by decide +kernel
theorem dX3_turn_6 : decode cX3_turn 6 = .ok (.ifCond .eq 15, 3) := by decide +kernel
theorem dX3_turn_9 : decode cX3_turn 9 = .ok (.aload_n 0, 1) := by decide +kernel
theorem dX3_turn_10 : decode cX3_turn 10 = .ok (.iload_n 2, 1) := by decide +kernel
theorem dX3_turn_11 : decode cX3_turn 11 = .ok (.invokevirtual 34, 3) := by decide +kernel
theorem dX3_turn_14 : decode cX3_turn 14 = .ok (.ifCond .eq 7, 3) := by decide +kernel
theorem dX3_turn_17 : decode cX3_turn 17 = .ok (.iconst 0, 1) := by decide +kernel
theorem dX3_turn_18 : decode cX3_turn 18 = .ok (.goto 4, 3) := by decide +kernel
theorem dX3_turn_21 : decode cX3_turn 21 = .ok (.iconst 1, 1) := by decide +kernel
theorem dX3_turn_22 : decode cX3_turn 22 = .ok (.invokevirtual 38, 3) := by decide +kernel
theorem dX3_turn_25 : decode cX3_turn 25 = .ok (.ifCond .ne 10, 3) := by decide +kernel
theorem dX3_turn_28 : decode cX3_turn 28 = .ok (.aload_n 0, 1) := by decide +kernel
theorem dX3_turn_29 : decode cX3_turn 29 = .ok (.getfield 28, 3) := by decide +kernel
theorem dX3_turn_32 : decode cX3_turn 32 = .ok (.iload_n 1, 1) := by decide +kernel
theorem dX3_turn_33 : decode cX3_turn 33 = .ok (.iload_n 2, 1) := by decide +kernel
theorem dX3_turn_34 : decode cX3_turn 34 = .ok (.iastore, 1) := by decide +kernel
theorem dX3_turn_35 : decode cX3_turn 35 = .ok (.return_, 1) := by decide +kernel
set_option maxRecDepth 20000 in
theorem ggX3_contains_X3_isElement : GoodIn wsX3_contains wsX3_isElement := goodIn_r _ [5, 6, 7, 8, 4, 9, 10, 24, 25, 26, 27, 28, 29, 30, 31] (by decide +kernel) (by decide +kernel)
set_option maxRecDepth 20000 in
theorem gX3_contains_X3_isElement : GoodIn wsX3_contains (wsV RX3 55 RX3 yX3_isElement wsX3_isElement) := goodIn_app (goodIn_of _ (by decide +kernel)) ggX3_contains_X3_isElement
set_option maxRecDepth 20000 in
theorem ggX3_contains_X3_refuses : GoodIn wsX3_contains wsX3_refuses := goodIn_r _ [14, 15, 24, 25, 26, 27, 28, 29, 30, 31] (by decide +kernel) (by decide +kernel)
set_option maxRecDepth 20000 in
theorem gX3_contains_X3_refuses : GoodIn wsX3_contains (wsV RX3 38 RX3 yX3_refuses wsX3_refuses) := goodIn_app (goodIn_of _ (by decide +kernel)) ggX3_contains_X3_refuses
set_option maxRecDepth 20000 in
theorem ggX3_contains_X3_many : GoodIn wsX3_contains wsX3_many := goodIn_r _ [19, 20, 21, 22, 4, 23, 24, 25, 26, 27, 28, 29, 30, 31] (by decide +kernel) (by decide +kernel)
set_option maxRecDepth 20000 in
theorem gX3_contains_X3_many : GoodIn wsX3_contains (wsV RX3 62 RX3 yX3_many wsX3_many) := goodIn_app (goodIn_of _ (by decide +kernel)) ggX3_contains_X3_many
theorem dX3_contains_0 : decode cX3_contains 0 = .ok (.aload_n 0, 1) := by decide +kernel
theorem dX3_contains_1 : decode cX3_contains 1 = .ok (.aload_n 0, 1) := by decide +kernel
theorem dX3_contains_2 : decode cX3_contains 2 = .ok (.iload_n 1, 1) := by decide +kernel
theorem dX3_contains_3 : decode cX3_contains 3 = .ok (.iload_n 2, 1) := by decide +kernel
theorem dX3_contains_4 : decode cX3_contains 4 = .ok (.iload_n 3, 1) := by decide +kernel
theorem dX3_contains_5 : decode cX3_contains 5 = .ok (.invokevirtual 55, 3) := by decide +kernel
theorem dX3_contains_8 : decode cX3_contains 8 = .ok (.ifCond .eq 7, 3) := by decide +kernel
theorem dX3_contains_11 : decode cX3_contains 11 = .ok (.iconst 0, 1) := by decide +kernel
theorem dX3_contains_12 : decode cX3_contains 12 = .ok (.goto 4, 3) := by decide +kernel
theorem dX3_contains_15 : decode cX3_contains 15 = .ok (.iconst 1, 1) := by decide +kernel
theorem dX3_contains_16 : decode cX3_contains 16 = .ok (.invokevirtual 38, 3) := by decide +kernel
theorem dX3_contains_19 : decode cX3_contains 19 = .ok (.ifCond .ne 21, 3) := by decide +kernel
theorem dX3_contains_22 : decode cX3_contains 22 = .ok (.aload_n 0, 1) := by decide +kernel
theorem dX3_contains_23 : decode cX3_contains 23 = .ok (.iload_n 1, 1) := by decide +kernel
theorem dX3_contains_24 : decode cX3_contains 24 = .ok (.bipush 16, 2) := by decide +kernel
theorem dX3_contains_26 : decode cX3_contains 26 = .ok (.iload_n 2, 1) := by decide +kernel
theorem dX3_contains_27 : decode cX3_contains 27 = .ok (.imul, 1) := by decide +kernel
theorem dX3_contains_28 : decode cX3_contains 28 = .ok (.iload_n 3, 1) := by decide +kernel
theorem dX3_contains_29 : decode cX3_contains 29 = .ok (.iadd, 1) := by decide +kernel
theorem dX3_contains_30 : decode cX3_contains 30 = .ok (.invokevirtual 62, 3) := by decide +kernel
theorem dX3_contains_33 : decode cX3_contains 33 = .ok (.ifCond .le 7, 3) := by decide +kernel
theorem dX3_contains_36 : decode cX3_contains 36 = .ok (.iconst 1, 1) := by decide +kernel
theorem dX3_contains_37 : decode cX3_contains 37 = .ok (.goto 4, 3) := by decide +kernel
theorem dX3_contains_40 : decode cX3_contains 40 = .ok (.iconst 0, 1) := by decide +kernel
theorem dX3_contains_41 : decode cX3_contains 41 = .ok (.ireturn, 1) := by decide +kernel
set_option maxRecDepth 20000 in
theorem ggX3_size_X3_isElement : GoodIn wsX3_size wsX3_isElement := goodIn_r _ [5, 6, 7, 8, 4, 9, 10, 24, 25, 26, 27, 28, 29, 30, 31] (by decide +kernel) (by decide +kernel)
set_option maxRecDepth 20000 in
theorem gX3_size_X3_isElement : GoodIn wsX3_size (wsV RX3 55 RX3 yX3_isElement wsX3_isElement) := goodIn_app (goodIn_of _ (by decide +kernel)) ggX3_size_X3_isElement
set_option maxRecDepth 20000 in
theorem ggX3_size_X3_refuses : GoodIn wsX3_size wsX3_refuses := goodIn_r _ [14, 15, 24, 25, 26, 27, 28, 29, 30, 31] (by decide +kernel) (by decide +kernel)
set_option maxRecDepth 20000 in
theorem gX3_size_X3_refuses : GoodIn wsX3_size (wsV RX3 38 RX3 yX3_refuses wsX3_refuses) := goodIn_app (goodIn_of _ (by decide +kernel)) ggX3_size_X3_refuses
set_option maxRecDepth 20000 in
theorem ggX3_size_X3_many : GoodIn wsX3_size wsX3_many := goodIn_r _ [19, 20, 21, 22, 4, 23, 24, 25, 26, 27, 28, 29, 30, 31] (by decide +kernel) (by decide +kernel)
set_option maxRecDepth 20000 in
theorem gX3_size_X3_many : GoodIn wsX3_size (wsV RX3 62 RX3 yX3_many wsX3_many) := goodIn_app (goodIn_of _ (by decide +kernel)) ggX3_size_X3_many
theorem dX3_size_0 : decode cX3_size 0 = .ok (.aload_n 0, 1) := by decide +kernel
theorem dX3_size_1 : decode cX3_size 1 = .ok (.aload_n 0, 1) := by decide +kernel
theorem dX3_size_2 : decode cX3_size 2 = .ok (.iload_n 1, 1) := by decide +kernel
theorem dX3_size_3 : decode cX3_size 3 = .ok (.iload_n 2, 1) := by decide +kernel
theorem dX3_size_4 : decode cX3_size 4 = .ok (.iconst 0, 1) := by decide +kernel
theorem dX3_size_5 : decode cX3_size 5 = .ok (.invokevirtual 55, 3) := by decide +kernel
theorem dX3_size_8 : decode cX3_size 8 = .ok (.ifCond .eq 7, 3) := by decide +kernel
theorem dX3_size_11 : decode cX3_size 11 = .ok (.iconst 0, 1) := by decide +kernel
theorem dX3_size_12 : decode cX3_size 12 = .ok (.goto 4, 3) := by decide +kernel
theorem dX3_size_15 : decode cX3_size 15 = .ok (.iconst 1, 1) := by decide +kernel
theorem dX3_size_16 : decode cX3_size 16 = .ok (.invokevirtual 38, 3) := by decide +kernel
theorem dX3_size_19 : decode cX3_size 19 = .ok (.ifCond .eq 5, 3) := by decide +kernel
theorem dX3_size_22 : decode cX3_size 22 = .ok (.iconst 0, 1) := by decide +kernel
theorem dX3_size_23 : decode cX3_size 23 = .ok (.ireturn, 1) := by decide +kernel
theorem dX3_size_24 : decode cX3_size 24 = .ok (.iconst 0, 1) := by decide +kernel
theorem dX3_size_25 : decode cX3_size 25 = .ok (.istore_n 3, 1) := by decide +kernel
theorem dX3_size_26 : decode cX3_size 26 = .ok (.iconst 0, 1) := by decide +kernel
theorem dX3_size_27 : decode cX3_size 27 = .ok (.istore 4, 2) := by decide +kernel
theorem dX3_size_29 : decode cX3_size 29 = .ok (.iload 4, 2) := by decide +kernel
theorem dX3_size_31 : decode cX3_size 31 = .ok (.bipush 16, 2) := by decide +kernel
theorem dX3_size_33 : decode cX3_size 33 = .ok (.if_icmp .ge 32, 3) := by decide +kernel
theorem dX3_size_36 : decode cX3_size 36 = .ok (.iload_n 3, 1) := by decide +kernel
theorem dX3_size_37 : decode cX3_size 37 = .ok (.aload_n 0, 1) := by decide +kernel
theorem dX3_size_38 : decode cX3_size 38 = .ok (.iload_n 1, 1) := by decide +kernel
theorem dX3_size_39 : decode cX3_size 39 = .ok (.bipush 16, 2) := by decide +kernel
theorem dX3_size_41 : decode cX3_size 41 = .ok (.iload_n 2, 1) := by decide +kernel
theorem dX3_size_42 : decode cX3_size 42 = .ok (.imul, 1) := by decide +kernel
theorem dX3_size_43 : decode cX3_size 43 = .ok (.iload 4, 2) := by decide +kernel
theorem dX3_size_45 : decode cX3_size 45 = .ok (.iadd, 1) := by decide +kernel
theorem dX3_size_46 : decode cX3_size 46 = .ok (.invokevirtual 62, 3) := by decide +kernel
theorem dX3_size_49 : decode cX3_size 49 = .ok (.ifCond .le 7, 3) := by decide +kernel
theorem dX3_size_52 : decode cX3_size 52 = .ok (.iconst 1, 1) := by decide +kernel
theorem dX3_size_53 : decode cX3_size 53 = .ok (.goto 4, 3) := by decide +kernel
theorem dX3_size_56 : decode cX3_size 56 = .ok (.iconst 0, 1) := by decide +kernel
theorem dX3_size_57 : decode cX3_size 57 = .ok (.iadd, 1) := by decide +kernel
theorem dX3_size_58 : decode cX3_size 58 = .ok (.istore_n 3, 1) := by decide +kernel
theorem dX3_size_59 : decode cX3_size 59 = .ok (.iinc 4 1, 3) := by decide +kernel
theorem dX3_size_62 : decode cX3_size 62 = .ok (.goto (-33), 3) := by decide +kernel
theorem dX3_size_65 : decode cX3_size 65 = .ok (.iload_n 3, 1) := by decide +kernel
theorem dX3_size_66 : decode cX3_size 66 = .ok (.ireturn, 1) := by decide +kernel
set_option maxRecDepth 20000 in
theorem ggX3_origin_X3_dots : GoodIn wsX3_origin wsX3_dots := goodIn_r _ [5] (by decide +kernel) (by decide +kernel)
set_option maxRecDepth 20000 in
theorem gX3_origin_X3_dots : GoodIn wsX3_origin (va_wsS RX3 44 yX3_dots wsX3_dots) := goodIn_app (goodIn_of _ (by decide +kernel)) ggX3_origin_X3_dots
theorem dX3_origin_0 : decode cX3_origin 0 = .ok (.iload_n 3, 1) := by decide +kernel
theorem dX3_origin_1 : decode cX3_origin 1 = .ok (.istore 4, 2) := by decide +kernel
theorem dX3_origin_3 : decode cX3_origin 3 = .ok (.iconst 0, 1) := by decide +kernel
theorem dX3_origin_4 : decode cX3_origin 4 = .ok (.istore 5, 2) := by decide +kernel
theorem dX3_origin_6 : decode cX3_origin 6 = .ok (.iload 5, 2) := by decide +kernel
theorem dX3_origin_8 : decode cX3_origin 8 = .ok (.bipush 6, 2) := by decide +kernel
theorem dX3_origin_10 : decode cX3_origin 10 = .ok (.if_icmp .ge 41, 3) := by decide +kernel
theorem dX3_origin_13 : decode cX3_origin 13 = .ok (.iload 4, 2) := by decide +kernel
theorem dX3_origin_15 : decode cX3_origin 15 = .ok (.ifCond .lt 36, 3) := by decide +kernel
theorem dX3_origin_18 : decode cX3_origin 18 = .ok (.aload_n 0, 1) := by decide +kernel
theorem dX3_origin_19 : decode cX3_origin 19 = .ok (.getfield 14, 3) := by decide +kernel
theorem dX3_origin_22 : decode cX3_origin 22 = .ok (.iload_n 1, 1) := by decide +kernel
theorem dX3_origin_23 : decode cX3_origin 23 = .ok (.iload_n 2, 1) := by decide +kernel
theorem dX3_origin_24 : decode cX3_origin 24 = .ok (.invokestatic 44, 3) := by decide +kernel
theorem dX3_origin_27 : decode cX3_origin 27 = .ok (.iload 5, 2) := by decide +kernel
theorem dX3_origin_29 : decode cX3_origin 29 = .ok (.iadd, 1) := by decide +kernel
theorem dX3_origin_30 : decode cX3_origin 30 = .ok (.iaload, 1) := by decide +kernel
theorem dX3_origin_31 : decode cX3_origin 31 = .ok (.ifCond .le 14, 3) := by decide +kernel
theorem dX3_origin_34 : decode cX3_origin 34 = .ok (.iload 4, 2) := by decide +kernel
theorem dX3_origin_36 : decode cX3_origin 36 = .ok (.ifCond .ne 6, 3) := by decide +kernel
theorem dX3_origin_39 : decode cX3_origin 39 = .ok (.iload 5, 2) := by decide +kernel
theorem dX3_origin_41 : decode cX3_origin 41 = .ok (.ireturn, 1) := by decide +kernel
theorem dX3_origin_42 : decode cX3_origin 42 = .ok (.iinc 4 (-1), 3) := by decide +kernel
theorem dX3_origin_45 : decode cX3_origin 45 = .ok (.iinc 5 1, 3) := by decide +kernel
theorem dX3_origin_48 : decode cX3_origin 48 = .ok (.goto (-42), 3) := by decide +kernel
theorem dX3_origin_51 : decode cX3_origin 51 = .ok (.iconst (-1), 1) := by decide +kernel
theorem dX3_origin_52 : decode cX3_origin 52 = .ok (.ireturn, 1) := by decide +kernel
set_option maxRecDepth 20000 in
theorem ggX3_dot_X3_isElement : GoodIn wsX3_dot wsX3_isElement := goodIn_r _ [6, 7, 8, 9, 5, 10, 11, 24, 25, 26, 27, 28, 29, 30, 31] (by decide +kernel) (by decide +kernel)
set_option maxRecDepth 20000 in
theorem gX3_dot_X3_isElement : GoodIn wsX3_dot (wsV RX3 55 RX3 yX3_isElement wsX3_isElement) := goodIn_app (goodIn_of _ (by decide +kernel)) ggX3_dot_X3_isElement
set_option maxRecDepth 20000 in
theorem ggX3_dot_X3_refuses : GoodIn wsX3_dot wsX3_refuses := goodIn_r _ [15, 16, 24, 25, 26, 27, 28, 29, 30, 31] (by decide +kernel) (by decide +kernel)
set_option maxRecDepth 20000 in
theorem gX3_dot_X3_refuses : GoodIn wsX3_dot (wsV RX3 38 RX3 yX3_refuses wsX3_refuses) := goodIn_app (goodIn_of _ (by decide +kernel)) ggX3_dot_X3_refuses
set_option maxRecDepth 20000 in
theorem ggX3_dot_X3_origin : GoodIn wsX3_dot wsX3_origin := goodIn_r _ [20, 1, 21, 22, 5, 23, 24, 25, 26, 27, 28, 29, 30, 31] (by decide +kernel) (by decide +kernel)
set_option maxRecDepth 20000 in
theorem gX3_dot_X3_origin : GoodIn wsX3_dot (wsV RX3 85 RX3 yX3_origin wsX3_origin) := goodIn_app (goodIn_of _ (by decide +kernel)) ggX3_dot_X3_origin
set_option maxRecDepth 20000 in
theorem ggX3_dot_X3_dots : GoodIn wsX3_dot wsX3_dots := goodIn_r _ [23] (by decide +kernel) (by decide +kernel)
set_option maxRecDepth 20000 in
theorem gX3_dot_X3_dots : GoodIn wsX3_dot (va_wsS RX3 44 yX3_dots wsX3_dots) := goodIn_app (goodIn_of _ (by decide +kernel)) ggX3_dot_X3_dots
theorem dX3_dot_0 : decode cX3_dot 0 = .ok (.aload_n 0, 1) := by decide +kernel
theorem dX3_dot_1 : decode cX3_dot 1 = .ok (.aload_n 0, 1) := by decide +kernel
theorem dX3_dot_2 : decode cX3_dot 2 = .ok (.iload_n 1, 1) := by decide +kernel
theorem dX3_dot_3 : decode cX3_dot 3 = .ok (.iload_n 2, 1) := by decide +kernel
theorem dX3_dot_4 : decode cX3_dot 4 = .ok (.iload_n 3, 1) := by decide +kernel
theorem dX3_dot_5 : decode cX3_dot 5 = .ok (.invokevirtual 55, 3) := by decide +kernel
theorem dX3_dot_8 : decode cX3_dot 8 = .ok (.ifCond .eq 18, 3) := by decide +kernel
theorem dX3_dot_11 : decode cX3_dot 11 = .ok (.iload 5, 2) := by decide +kernel
theorem dX3_dot_13 : decode cX3_dot 13 = .ok (.ifCond .lt 13, 3) := by decide +kernel
theorem dX3_dot_16 : decode cX3_dot 16 = .ok (.iload 5, 2) := by decide +kernel
theorem dX3_dot_18 : decode cX3_dot 18 = .ok (.iconst 2, 1) := by decide +kernel
theorem dX3_dot_19 : decode cX3_dot 19 = .ok (.if_icmp .ge 7, 3) := by decide +kernel
theorem dX3_dot_22 : decode cX3_dot 22 = .ok (.iconst 0, 1) := by decide +kernel
theorem dX3_dot_23 : decode cX3_dot 23 = .ok (.goto 4, 3) := by decide +kernel
theorem dX3_dot_26 : decode cX3_dot 26 = .ok (.iconst 1, 1) := by decide +kernel
theorem dX3_dot_27 : decode cX3_dot 27 = .ok (.invokevirtual 38, 3) := by decide +kernel
theorem dX3_dot_30 : decode cX3_dot 30 = .ok (.ifCond .eq 5, 3) := by decide +kernel
theorem dX3_dot_33 : decode cX3_dot 33 = .ok (.iconst 0, 1) := by decide +kernel
theorem dX3_dot_34 : decode cX3_dot 34 = .ok (.ireturn, 1) := by decide +kernel
theorem dX3_dot_35 : decode cX3_dot 35 = .ok (.bipush 16, 2) := by decide +kernel
theorem dX3_dot_37 : decode cX3_dot 37 = .ok (.iload_n 2, 1) := by decide +kernel
theorem dX3_dot_38 : decode cX3_dot 38 = .ok (.imul, 1) := by decide +kernel
theorem dX3_dot_39 : decode cX3_dot 39 = .ok (.iload_n 3, 1) := by decide +kernel
theorem dX3_dot_40 : decode cX3_dot 40 = .ok (.iadd, 1) := by decide +kernel
theorem dX3_dot_41 : decode cX3_dot 41 = .ok (.istore 6, 2) := by decide +kernel
theorem dX3_dot_43 : decode cX3_dot 43 = .ok (.aload_n 0, 1) := by decide +kernel
theorem dX3_dot_44 : decode cX3_dot 44 = .ok (.iload_n 1, 1) := by decide +kernel
theorem dX3_dot_45 : decode cX3_dot 45 = .ok (.iload 6, 2) := by decide +kernel
theorem dX3_dot_47 : decode cX3_dot 47 = .ok (.iload 4, 2) := by decide +kernel
theorem dX3_dot_49 : decode cX3_dot 49 = .ok (.invokevirtual 85, 3) := by decide +kernel
theorem dX3_dot_52 : decode cX3_dot 52 = .ok (.istore 7, 2) := by decide +kernel
theorem dX3_dot_54 : decode cX3_dot 54 = .ok (.iload 7, 2) := by decide +kernel
theorem dX3_dot_56 : decode cX3_dot 56 = .ok (.iconst (-1), 1) := by decide +kernel
theorem dX3_dot_57 : decode cX3_dot 57 = .ok (.if_icmp .eq 8, 3) := by decide +kernel
theorem dX3_dot_60 : decode cX3_dot 60 = .ok (.iload 5, 2) := by decide +kernel
theorem dX3_dot_62 : decode cX3_dot 62 = .ok (.ifCond .ne 8, 3) := by decide +kernel
theorem dX3_dot_65 : decode cX3_dot 65 = .ok (.iload 7, 2) := by decide +kernel
theorem dX3_dot_67 : decode cX3_dot 67 = .ok (.goto 17, 3) := by decide +kernel
theorem dX3_dot_70 : decode cX3_dot 70 = .ok (.aload_n 0, 1) := by decide +kernel
theorem dX3_dot_71 : decode cX3_dot 71 = .ok (.getfield 14, 3) := by decide +kernel
theorem dX3_dot_74 : decode cX3_dot 74 = .ok (.iload_n 1, 1) := by decide +kernel
theorem dX3_dot_75 : decode cX3_dot 75 = .ok (.iload 6, 2) := by decide +kernel
theorem dX3_dot_77 : decode cX3_dot 77 = .ok (.invokestatic 44, 3) := by decide +kernel
theorem dX3_dot_80 : decode cX3_dot 80 = .ok (.iload 7, 2) := by decide +kernel
theorem dX3_dot_82 : decode cX3_dot 82 = .ok (.iadd, 1) := by decide +kernel
theorem dX3_dot_83 : decode cX3_dot 83 = .ok (.iaload, 1) := by decide +kernel
theorem dX3_dot_84 : decode cX3_dot 84 = .ok (.ireturn, 1) := by decide +kernel
set_option maxRecDepth 20000 in
theorem ggX3_value_X3_isRegister : GoodIn wsX3_value wsX3_isRegister := goodIn_r _ [7, 8, 9, 10, 6, 11, 12, 25, 26, 27, 28, 29, 30, 31, 32] (by decide +kernel) (by decide +kernel)
set_option maxRecDepth 20000 in
theorem gX3_value_X3_isRegister : GoodIn wsX3_value (wsV RX3 65 RX3 yX3_isRegister wsX3_isRegister) := goodIn_app (goodIn_of _ (by decide +kernel)) ggX3_value_X3_isRegister
set_option maxRecDepth 20000 in
theorem ggX3_value_X3_refuses : GoodIn wsX3_value wsX3_refuses := goodIn_r _ [16, 17, 25, 26, 27, 28, 29, 30, 31, 32] (by decide +kernel) (by decide +kernel)
set_option maxRecDepth 20000 in
theorem gX3_value_X3_refuses : GoodIn wsX3_value (wsV RX3 38 RX3 yX3_refuses wsX3_refuses) := goodIn_app (goodIn_of _ (by decide +kernel)) ggX3_value_X3_refuses
set_option maxRecDepth 20000 in
theorem ggX3_value_X3_origin : GoodIn wsX3_value wsX3_origin := goodIn_r _ [21, 1, 22, 23, 6, 24, 25, 26, 27, 28, 29, 30, 31, 32] (by decide +kernel) (by decide +kernel)
set_option maxRecDepth 20000 in
theorem gX3_value_X3_origin : GoodIn wsX3_value (wsV RX3 85 RX3 yX3_origin wsX3_origin) := goodIn_app (goodIn_of _ (by decide +kernel)) ggX3_value_X3_origin
set_option maxRecDepth 20000 in
theorem ggX3_value_X3_dots : GoodIn wsX3_value wsX3_dots := goodIn_r _ [24] (by decide +kernel) (by decide +kernel)
set_option maxRecDepth 20000 in
theorem gX3_value_X3_dots : GoodIn wsX3_value (va_wsS RX3 44 yX3_dots wsX3_dots) := goodIn_app (goodIn_of _ (by decide +kernel)) ggX3_value_X3_dots
theorem dX3_value_0 : decode cX3_value 0 = .ok (.aload_n 0, 1) := by decide +kernel
theorem dX3_value_1 : decode cX3_value 1 = .ok (.aload_n 0, 1) := by decide +kernel
theorem dX3_value_2 : decode cX3_value 2 = .ok (.iload_n 1, 1) := by decide +kernel
theorem dX3_value_3 : decode cX3_value 3 = .ok (.iload_n 2, 1) := by decide +kernel
theorem dX3_value_4 : decode cX3_value 4 = .ok (.invokevirtual 65, 3) := by decide +kernel
theorem dX3_value_7 : decode cX3_value 7 = .ok (.ifCond .eq 18, 3) := by decide +kernel
theorem dX3_value_10 : decode cX3_value 10 = .ok (.iload 4, 2) := by decide +kernel
theorem dX3_value_12 : decode cX3_value 12 = .ok (.ifCond .lt 13, 3) := by decide +kernel
theorem dX3_value_15 : decode cX3_value 15 = .ok (.iload 4, 2) := by decide +kernel
theorem dX3_value_17 : decode cX3_value 17 = .ok (.iconst 3, 1) := by decide +kernel
theorem dX3_value_18 : decode cX3_value 18 = .ok (.if_icmp .ge 7, 3) := by decide +kernel
theorem dX3_value_21 : decode cX3_value 21 = .ok (.iconst 0, 1) := by decide +kernel
theorem dX3_value_22 : decode cX3_value 22 = .ok (.goto 4, 3) := by decide +kernel
theorem dX3_value_25 : decode cX3_value 25 = .ok (.iconst 1, 1) := by decide +kernel
theorem dX3_value_26 : decode cX3_value 26 = .ok (.invokevirtual 38, 3) := by decide +kernel
theorem dX3_value_29 : decode cX3_value 29 = .ok (.ifCond .eq 5, 3) := by decide +kernel
theorem dX3_value_32 : decode cX3_value 32 = .ok (.iconst 0, 1) := by decide +kernel
theorem dX3_value_33 : decode cX3_value 33 = .ok (.ireturn, 1) := by decide +kernel
theorem dX3_value_34 : decode cX3_value 34 = .ok (.aload_n 0, 1) := by decide +kernel
theorem dX3_value_35 : decode cX3_value 35 = .ok (.iload_n 1, 1) := by decide +kernel
theorem dX3_value_36 : decode cX3_value 36 = .ok (.bipush 64, 2) := by decide +kernel
theorem dX3_value_38 : decode cX3_value 38 = .ok (.iload_n 2, 1) := by decide +kernel
theorem dX3_value_39 : decode cX3_value 39 = .ok (.iadd, 1) := by decide +kernel
theorem dX3_value_40 : decode cX3_value 40 = .ok (.iload_n 3, 1) := by decide +kernel
theorem dX3_value_41 : decode cX3_value 41 = .ok (.invokevirtual 85, 3) := by decide +kernel
theorem dX3_value_44 : decode cX3_value 44 = .ok (.istore 5, 2) := by decide +kernel
theorem dX3_value_46 : decode cX3_value 46 = .ok (.iload 5, 2) := by decide +kernel
theorem dX3_value_48 : decode cX3_value 48 = .ok (.iconst (-1), 1) := by decide +kernel
theorem dX3_value_49 : decode cX3_value 49 = .ok (.if_icmp .ne 15, 3) := by decide +kernel
theorem dX3_value_52 : decode cX3_value 52 = .ok (.iload 4, 2) := by decide +kernel
theorem dX3_value_54 : decode cX3_value 54 = .ok (.iconst 2, 1) := by decide +kernel
theorem dX3_value_55 : decode cX3_value 55 = .ok (.if_icmp .ne 7, 3) := by decide +kernel
theorem dX3_value_58 : decode cX3_value 58 = .ok (.iconst 0, 1) := by decide +kernel
theorem dX3_value_59 : decode cX3_value 59 = .ok (.goto 4, 3) := by decide +kernel
theorem dX3_value_62 : decode cX3_value 62 = .ok (.iconst (-1), 1) := by decide +kernel
theorem dX3_value_63 : decode cX3_value 63 = .ok (.ireturn, 1) := by decide +kernel
theorem dX3_value_64 : decode cX3_value 64 = .ok (.iload 4, 2) := by decide +kernel
theorem dX3_value_66 : decode cX3_value 66 = .ok (.ifCond .ne 8, 3) := by decide +kernel
theorem dX3_value_69 : decode cX3_value 69 = .ok (.iload 5, 2) := by decide +kernel
theorem dX3_value_71 : decode cX3_value 71 = .ok (.goto 45, 3) := by decide +kernel
theorem dX3_value_74 : decode cX3_value 74 = .ok (.iload 4, 2) := by decide +kernel
theorem dX3_value_76 : decode cX3_value 76 = .ok (.iconst 1, 1) := by decide +kernel
theorem dX3_value_77 : decode cX3_value 77 = .ok (.if_icmp .ne 22, 3) := by decide +kernel
theorem dX3_value_80 : decode cX3_value 80 = .ok (.aload_n 0, 1) := by decide +kernel
theorem dX3_value_81 : decode cX3_value 81 = .ok (.getfield 14, 3) := by decide +kernel
theorem dX3_value_84 : decode cX3_value 84 = .ok (.iload_n 1, 1) := by decide +kernel
theorem dX3_value_85 : decode cX3_value 85 = .ok (.bipush 64, 2) := by decide +kernel
theorem dX3_value_87 : decode cX3_value 87 = .ok (.iload_n 2, 1) := by decide +kernel
theorem dX3_value_88 : decode cX3_value 88 = .ok (.iadd, 1) := by decide +kernel
theorem dX3_value_89 : decode cX3_value 89 = .ok (.invokestatic 44, 3) := by decide +kernel
theorem dX3_value_92 : decode cX3_value 92 = .ok (.iload 5, 2) := by decide +kernel
theorem dX3_value_94 : decode cX3_value 94 = .ok (.iadd, 1) := by decide +kernel
theorem dX3_value_95 : decode cX3_value 95 = .ok (.iaload, 1) := by decide +kernel
theorem dX3_value_96 : decode cX3_value 96 = .ok (.goto 20, 3) := by decide +kernel
theorem dX3_value_99 : decode cX3_value 99 = .ok (.aload_n 0, 1) := by decide +kernel
theorem dX3_value_100 : decode cX3_value 100 = .ok (.getfield 18, 3) := by decide +kernel
theorem dX3_value_103 : decode cX3_value 103 = .ok (.bipush 24, 2) := by decide +kernel
theorem dX3_value_105 : decode cX3_value 105 = .ok (.iload_n 1, 1) := by decide +kernel
theorem dX3_value_106 : decode cX3_value 106 = .ok (.imul, 1) := by decide +kernel
theorem dX3_value_107 : decode cX3_value 107 = .ok (.bipush 6, 2) := by decide +kernel
theorem dX3_value_109 : decode cX3_value 109 = .ok (.iload_n 2, 1) := by decide +kernel
theorem dX3_value_110 : decode cX3_value 110 = .ok (.imul, 1) := by decide +kernel
theorem dX3_value_111 : decode cX3_value 111 = .ok (.iadd, 1) := by decide +kernel
theorem dX3_value_112 : decode cX3_value 112 = .ok (.iload 5, 2) := by decide +kernel
theorem dX3_value_114 : decode cX3_value 114 = .ok (.iadd, 1) := by decide +kernel
theorem dX3_value_115 : decode cX3_value 115 = .ok (.iaload, 1) := by decide +kernel
theorem dX3_value_116 : decode cX3_value 116 = .ok (.ireturn, 1) := by decide +kernel
set_option maxRecDepth 20000 in
theorem ggX3_values_X3_isRegister : GoodIn wsX3_values wsX3_isRegister := goodIn_r _ [5, 6, 7, 8, 4, 9, 10, 24, 25, 26, 27, 28, 29, 30, 31] (by decide +kernel) (by decide +kernel)
set_option maxRecDepth 20000 in
theorem gX3_values_X3_isRegister : GoodIn wsX3_values (wsV RX3 65 RX3 yX3_isRegister wsX3_isRegister) := goodIn_app (goodIn_of _ (by decide +kernel)) ggX3_values_X3_isRegister
set_option maxRecDepth 20000 in
theorem ggX3_values_X3_refuses : GoodIn wsX3_values wsX3_refuses := goodIn_r _ [14, 15, 24, 25, 26, 27, 28, 29, 30, 31] (by decide +kernel) (by decide +kernel)
set_option maxRecDepth 20000 in
theorem gX3_values_X3_refuses : GoodIn wsX3_values (wsV RX3 38 RX3 yX3_refuses wsX3_refuses) := goodIn_app (goodIn_of _ (by decide +kernel)) ggX3_values_X3_refuses
set_option maxRecDepth 20000 in
theorem ggX3_values_X3_many : GoodIn wsX3_values wsX3_many := goodIn_r _ [19, 20, 21, 22, 4, 23, 24, 25, 26, 27, 28, 29, 30, 31] (by decide +kernel) (by decide +kernel)
set_option maxRecDepth 20000 in
theorem gX3_values_X3_many : GoodIn wsX3_values (wsV RX3 62 RX3 yX3_many wsX3_many) := goodIn_app (goodIn_of _ (by decide +kernel)) ggX3_values_X3_many
theorem dX3_values_0 : decode cX3_values 0 = .ok (.aload_n 0, 1) := by decide +kernel
theorem dX3_values_1 : decode cX3_values 1 = .ok (.aload_n 0, 1) := by decide +kernel
theorem dX3_values_2 : decode cX3_values 2 = .ok (.iload_n 1, 1) := by decide +kernel
theorem dX3_values_3 : decode cX3_values 3 = .ok (.iload_n 2, 1) := by decide +kernel
theorem dX3_values_4 : decode cX3_values 4 = .ok (.invokevirtual 65, 3) := by decide +kernel
theorem dX3_values_7 : decode cX3_values 7 = .ok (.ifCond .eq 7, 3) := by decide +kernel
theorem dX3_values_10 : decode cX3_values 10 = .ok (.iconst 0, 1) := by decide +kernel
theorem dX3_values_11 : decode cX3_values 11 = .ok (.goto 4, 3) := by decide +kernel
theorem dX3_values_14 : decode cX3_values 14 = .ok (.iconst 1, 1) := by decide +kernel
theorem dX3_values_15 : decode cX3_values 15 = .ok (.invokevirtual 38, 3) := by decide +kernel
theorem dX3_values_18 : decode cX3_values 18 = .ok (.ifCond .eq 7, 3) := by decide +kernel
theorem dX3_values_21 : decode cX3_values 21 = .ok (.iconst 0, 1) := by decide +kernel
theorem dX3_values_22 : decode cX3_values 22 = .ok (.goto 12, 3) := by decide +kernel
theorem dX3_values_25 : decode cX3_values 25 = .ok (.aload_n 0, 1) := by decide +kernel
theorem dX3_values_26 : decode cX3_values 26 = .ok (.iload_n 1, 1) := by decide +kernel
theorem dX3_values_27 : decode cX3_values 27 = .ok (.bipush 64, 2) := by decide +kernel
theorem dX3_values_29 : decode cX3_values 29 = .ok (.iload_n 2, 1) := by decide +kernel
theorem dX3_values_30 : decode cX3_values 30 = .ok (.iadd, 1) := by decide +kernel
theorem dX3_values_31 : decode cX3_values 31 = .ok (.invokevirtual 62, 3) := by decide +kernel
theorem dX3_values_34 : decode cX3_values 34 = .ok (.ireturn, 1) := by decide +kernel
set_option maxRecDepth 20000 in
theorem ggX3_total_X3_isRegister : GoodIn wsX3_total wsX3_isRegister := goodIn_r _ [5, 6, 7, 8, 4, 9, 10, 21, 22, 23, 24, 25, 26, 27, 28] (by decide +kernel) (by decide +kernel)
set_option maxRecDepth 20000 in
theorem gX3_total_X3_isRegister : GoodIn wsX3_total (wsV RX3 65 RX3 yX3_isRegister wsX3_isRegister) := goodIn_app (goodIn_of _ (by decide +kernel)) ggX3_total_X3_isRegister
set_option maxRecDepth 20000 in
theorem ggX3_total_X3_refuses : GoodIn wsX3_total wsX3_refuses := goodIn_r _ [14, 15, 21, 22, 23, 24, 25, 26, 27, 28] (by decide +kernel) (by decide +kernel)
set_option maxRecDepth 20000 in
theorem gX3_total_X3_refuses : GoodIn wsX3_total (wsV RX3 38 RX3 yX3_refuses wsX3_refuses) := goodIn_app (goodIn_of _ (by decide +kernel)) ggX3_total_X3_refuses
set_option maxRecDepth 20000 in
theorem ggX3_total_X3_sum : GoodIn wsX3_total wsX3_sum := goodIn_r _ [19, 20, 21, 22, 23, 24, 25, 26, 27, 28] (by decide +kernel) (by decide +kernel)
set_option maxRecDepth 20000 in
theorem gX3_total_X3_sum : GoodIn wsX3_total (wsV RX3 69 RX3 yX3_sum wsX3_sum) := goodIn_app (goodIn_of _ (by decide +kernel)) ggX3_total_X3_sum
theorem dX3_total_0 : decode cX3_total 0 = .ok (.aload_n 0, 1) := by decide +kernel
theorem dX3_total_1 : decode cX3_total 1 = .ok (.aload_n 0, 1) := by decide +kernel
theorem dX3_total_2 : decode cX3_total 2 = .ok (.iload_n 1, 1) := by decide +kernel
theorem dX3_total_3 : decode cX3_total 3 = .ok (.iload_n 2, 1) := by decide +kernel
theorem dX3_total_4 : decode cX3_total 4 = .ok (.invokevirtual 65, 3) := by decide +kernel
theorem dX3_total_7 : decode cX3_total 7 = .ok (.ifCond .eq 7, 3) := by decide +kernel
theorem dX3_total_10 : decode cX3_total 10 = .ok (.iconst 0, 1) := by decide +kernel
theorem dX3_total_11 : decode cX3_total 11 = .ok (.goto 4, 3) := by decide +kernel
theorem dX3_total_14 : decode cX3_total 14 = .ok (.iconst 1, 1) := by decide +kernel
theorem dX3_total_15 : decode cX3_total 15 = .ok (.invokevirtual 38, 3) := by decide +kernel
theorem dX3_total_18 : decode cX3_total 18 = .ok (.ifCond .eq 7, 3) := by decide +kernel
theorem dX3_total_21 : decode cX3_total 21 = .ok (.iconst 0, 1) := by decide +kernel
theorem dX3_total_22 : decode cX3_total 22 = .ok (.goto 9, 3) := by decide +kernel
theorem dX3_total_25 : decode cX3_total 25 = .ok (.aload_n 0, 1) := by decide +kernel
theorem dX3_total_26 : decode cX3_total 26 = .ok (.iload_n 1, 1) := by decide +kernel
theorem dX3_total_27 : decode cX3_total 27 = .ok (.iload_n 2, 1) := by decide +kernel
theorem dX3_total_28 : decode cX3_total 28 = .ok (.invokevirtual 69, 3) := by decide +kernel
theorem dX3_total_31 : decode cX3_total 31 = .ok (.ireturn, 1) := by decide +kernel
set_option maxRecDepth 20000 in
theorem ggX3_vector_X3_isReplica : GoodIn wsX3_vector wsX3_isReplica := goodIn_r _ [6, 7, 16, 17, 18, 19, 20, 21, 22, 23] (by decide +kernel) (by decide +kernel)
set_option maxRecDepth 20000 in
theorem gX3_vector_X3_isReplica : GoodIn wsX3_vector (wsV RX3 34 RX3 yX3_isReplica wsX3_isReplica) := goodIn_app (goodIn_of _ (by decide +kernel)) ggX3_vector_X3_isReplica
set_option maxRecDepth 20000 in
theorem ggX3_vector_X3_refuses : GoodIn wsX3_vector wsX3_refuses := goodIn_r _ [11, 12, 16, 17, 18, 19, 20, 21, 22, 23] (by decide +kernel) (by decide +kernel)
set_option maxRecDepth 20000 in
theorem gX3_vector_X3_refuses : GoodIn wsX3_vector (wsV RX3 38 RX3 yX3_refuses wsX3_refuses) := goodIn_app (goodIn_of _ (by decide +kernel)) ggX3_vector_X3_refuses
set_option maxRecDepth 20000 in
theorem ggX3_vector_X3_vectorAt : GoodIn wsX3_vector wsX3_vectorAt := goodIn_r _ [15] (by decide +kernel) (by decide +kernel)
set_option maxRecDepth 20000 in
theorem gX3_vector_X3_vectorAt : GoodIn wsX3_vector (va_wsS RX3 48 yX3_vectorAt wsX3_vectorAt) := goodIn_app (goodIn_of _ (by decide +kernel)) ggX3_vector_X3_vectorAt
theorem dX3_vector_0 : decode cX3_vector 0 = .ok (.aload_n 0, 1) := by decide +kernel
theorem dX3_vector_1 : decode cX3_vector 1 = .ok (.aload_n 0, 1) := by decide +kernel
theorem dX3_vector_2 : decode cX3_vector 2 = .ok (.iload_n 1, 1) := by decide +kernel
theorem dX3_vector_3 : decode cX3_vector 3 = .ok (.invokevirtual 34, 3) := by decide +kernel
theorem dX3_vector_6 : decode cX3_vector 6 = .ok (.ifCond .eq 15, 3) := by decide +kernel
theorem dX3_vector_9 : decode cX3_vector 9 = .ok (.aload_n 0, 1) := by decide +kernel
theorem dX3_vector_10 : decode cX3_vector 10 = .ok (.iload_n 2, 1) := by decide +kernel
theorem dX3_vector_11 : decode cX3_vector 11 = .ok (.invokevirtual 34, 3) := by decide +kernel
theorem dX3_vector_14 : decode cX3_vector 14 = .ok (.ifCond .eq 7, 3) := by decide +kernel
theorem dX3_vector_17 : decode cX3_vector 17 = .ok (.iconst 0, 1) := by decide +kernel
theorem dX3_vector_18 : decode cX3_vector 18 = .ok (.goto 4, 3) := by decide +kernel
theorem dX3_vector_21 : decode cX3_vector 21 = .ok (.iconst 1, 1) := by decide +kernel
theorem dX3_vector_22 : decode cX3_vector 22 = .ok (.invokevirtual 38, 3) := by decide +kernel
theorem dX3_vector_25 : decode cX3_vector 25 = .ok (.ifCond .eq 7, 3) := by decide +kernel
theorem dX3_vector_28 : decode cX3_vector 28 = .ok (.iconst 0, 1) := by decide +kernel
theorem dX3_vector_29 : decode cX3_vector 29 = .ok (.goto 13, 3) := by decide +kernel
theorem dX3_vector_32 : decode cX3_vector 32 = .ok (.aload_n 0, 1) := by decide +kernel
theorem dX3_vector_33 : decode cX3_vector 33 = .ok (.getfield 14, 3) := by decide +kernel
theorem dX3_vector_36 : decode cX3_vector 36 = .ok (.iload_n 1, 1) := by decide +kernel
theorem dX3_vector_37 : decode cX3_vector 37 = .ok (.iload_n 2, 1) := by decide +kernel
theorem dX3_vector_38 : decode cX3_vector 38 = .ok (.invokestatic 48, 3) := by decide +kernel
theorem dX3_vector_41 : decode cX3_vector 41 = .ok (.iaload, 1) := by decide +kernel
theorem dX3_vector_42 : decode cX3_vector 42 = .ok (.ireturn, 1) := by decide +kernel
set_option maxRecDepth 20000 in
theorem ggX3_same_X3_isReplica : GoodIn wsX3_same wsX3_isReplica := goodIn_r _ [8, 9, 18, 19, 20, 21, 22, 23, 24, 25] (by decide +kernel) (by decide +kernel)
set_option maxRecDepth 20000 in
theorem gX3_same_X3_isReplica : GoodIn wsX3_same (wsV RX3 34 RX3 yX3_isReplica wsX3_isReplica) := goodIn_app (goodIn_of _ (by decide +kernel)) ggX3_same_X3_isReplica
set_option maxRecDepth 20000 in
theorem ggX3_same_X3_refuses : GoodIn wsX3_same wsX3_refuses := goodIn_r _ [13, 14, 18, 19, 20, 21, 22, 23, 24, 25] (by decide +kernel) (by decide +kernel)
set_option maxRecDepth 20000 in
theorem gX3_same_X3_refuses : GoodIn wsX3_same (wsV RX3 38 RX3 yX3_refuses wsX3_refuses) := goodIn_app (goodIn_of _ (by decide +kernel)) ggX3_same_X3_refuses
set_option maxRecDepth 20000 in
theorem ggX3_same_X3_dots : GoodIn wsX3_same wsX3_dots := goodIn_r _ [17] (by decide +kernel) (by decide +kernel)
set_option maxRecDepth 20000 in
theorem gX3_same_X3_dots : GoodIn wsX3_same (va_wsS RX3 44 yX3_dots wsX3_dots) := goodIn_app (goodIn_of _ (by decide +kernel)) ggX3_same_X3_dots
theorem dX3_same_0 : decode cX3_same 0 = .ok (.aload_n 0, 1) := by decide +kernel
theorem dX3_same_1 : decode cX3_same 1 = .ok (.aload_n 0, 1) := by decide +kernel
theorem dX3_same_2 : decode cX3_same 2 = .ok (.iload_n 1, 1) := by decide +kernel
theorem dX3_same_3 : decode cX3_same 3 = .ok (.invokevirtual 34, 3) := by decide +kernel
theorem dX3_same_6 : decode cX3_same 6 = .ok (.ifCond .eq 15, 3) := by decide +kernel
theorem dX3_same_9 : decode cX3_same 9 = .ok (.aload_n 0, 1) := by decide +kernel
theorem dX3_same_10 : decode cX3_same 10 = .ok (.iload_n 2, 1) := by decide +kernel
theorem dX3_same_11 : decode cX3_same 11 = .ok (.invokevirtual 34, 3) := by decide +kernel
theorem dX3_same_14 : decode cX3_same 14 = .ok (.ifCond .eq 7, 3) := by decide +kernel
theorem dX3_same_17 : decode cX3_same 17 = .ok (.iconst 0, 1) := by decide +kernel
theorem dX3_same_18 : decode cX3_same 18 = .ok (.goto 4, 3) := by decide +kernel
theorem dX3_same_21 : decode cX3_same 21 = .ok (.iconst 1, 1) := by decide +kernel
theorem dX3_same_22 : decode cX3_same 22 = .ok (.invokevirtual 38, 3) := by decide +kernel
theorem dX3_same_25 : decode cX3_same 25 = .ok (.ifCond .eq 5, 3) := by decide +kernel
theorem dX3_same_28 : decode cX3_same 28 = .ok (.iconst 0, 1) := by decide +kernel
theorem dX3_same_29 : decode cX3_same 29 = .ok (.ireturn, 1) := by decide +kernel
theorem dX3_same_30 : decode cX3_same 30 = .ok (.iconst 1, 1) := by decide +kernel
theorem dX3_same_31 : decode cX3_same 31 = .ok (.istore_n 3, 1) := by decide +kernel
theorem dX3_same_32 : decode cX3_same 32 = .ok (.iconst 0, 1) := by decide +kernel
theorem dX3_same_33 : decode cX3_same 33 = .ok (.istore 4, 2) := by decide +kernel
theorem dX3_same_35 : decode cX3_same 35 = .ok (.iload 4, 2) := by decide +kernel
theorem dX3_same_37 : decode cX3_same 37 = .ok (.sipush 414, 3) := by decide +kernel
theorem dX3_same_40 : decode cX3_same 40 = .ok (.if_icmp .ge 48, 3) := by decide +kernel
theorem dX3_same_43 : decode cX3_same 43 = .ok (.iload_n 3, 1) := by decide +kernel
theorem dX3_same_44 : decode cX3_same 44 = .ok (.ifCond .eq 36, 3) := by decide +kernel
theorem dX3_same_47 : decode cX3_same 47 = .ok (.aload_n 0, 1) := by decide +kernel
theorem dX3_same_48 : decode cX3_same 48 = .ok (.getfield 14, 3) := by decide +kernel
theorem dX3_same_51 : decode cX3_same 51 = .ok (.sipush 414, 3) := by decide +kernel
theorem dX3_same_54 : decode cX3_same 54 = .ok (.iload_n 1, 1) := by decide +kernel
theorem dX3_same_55 : decode cX3_same 55 = .ok (.imul, 1) := by decide +kernel
theorem dX3_same_56 : decode cX3_same 56 = .ok (.iload 4, 2) := by decide +kernel
theorem dX3_same_58 : decode cX3_same 58 = .ok (.iadd, 1) := by decide +kernel
theorem dX3_same_59 : decode cX3_same 59 = .ok (.iaload, 1) := by decide +kernel
theorem dX3_same_60 : decode cX3_same 60 = .ok (.aload_n 0, 1) := by decide +kernel
theorem dX3_same_61 : decode cX3_same 61 = .ok (.getfield 14, 3) := by decide +kernel
theorem dX3_same_64 : decode cX3_same 64 = .ok (.sipush 414, 3) := by decide +kernel
theorem dX3_same_67 : decode cX3_same 67 = .ok (.iload_n 2, 1) := by decide +kernel
theorem dX3_same_68 : decode cX3_same 68 = .ok (.imul, 1) := by decide +kernel
theorem dX3_same_69 : decode cX3_same 69 = .ok (.iload 4, 2) := by decide +kernel
theorem dX3_same_71 : decode cX3_same 71 = .ok (.iadd, 1) := by decide +kernel
theorem dX3_same_72 : decode cX3_same 72 = .ok (.iaload, 1) := by decide +kernel
theorem dX3_same_73 : decode cX3_same 73 = .ok (.if_icmp .ne 7, 3) := by decide +kernel
theorem dX3_same_76 : decode cX3_same 76 = .ok (.iconst 1, 1) := by decide +kernel
theorem dX3_same_77 : decode cX3_same 77 = .ok (.goto 4, 3) := by decide +kernel
theorem dX3_same_80 : decode cX3_same 80 = .ok (.iconst 0, 1) := by decide +kernel
theorem dX3_same_81 : decode cX3_same 81 = .ok (.istore_n 3, 1) := by decide +kernel
theorem dX3_same_82 : decode cX3_same 82 = .ok (.iinc 4 1, 3) := by decide +kernel
theorem dX3_same_85 : decode cX3_same 85 = .ok (.goto (-50), 3) := by decide +kernel
theorem dX3_same_88 : decode cX3_same 88 = .ok (.iconst 0, 1) := by decide +kernel
theorem dX3_same_89 : decode cX3_same 89 = .ok (.istore 4, 2) := by decide +kernel
theorem dX3_same_91 : decode cX3_same 91 = .ok (.iload 4, 2) := by decide +kernel
theorem dX3_same_93 : decode cX3_same 93 = .ok (.bipush 24, 2) := by decide +kernel
theorem dX3_same_95 : decode cX3_same 95 = .ok (.if_icmp .ge 75, 3) := by decide +kernel
theorem dX3_same_98 : decode cX3_same 98 = .ok (.aload_n 0, 1) := by decide +kernel
theorem dX3_same_99 : decode cX3_same 99 = .ok (.getfield 14, 3) := by decide +kernel
theorem dX3_same_102 : decode cX3_same 102 = .ok (.iload_n 1, 1) := by decide +kernel
theorem dX3_same_103 : decode cX3_same 103 = .ok (.bipush 64, 2) := by decide +kernel
theorem dX3_same_105 : decode cX3_same 105 = .ok (.invokestatic 44, 3) := by decide +kernel
theorem dX3_same_108 : decode cX3_same 108 = .ok (.iload 4, 2) := by decide +kernel
theorem dX3_same_110 : decode cX3_same 110 = .ok (.iadd, 1) := by decide +kernel
theorem dX3_same_111 : decode cX3_same 111 = .ok (.iaload, 1) := by decide +kernel
theorem dX3_same_112 : decode cX3_same 112 = .ok (.ifCond .le 7, 3) := by decide +kernel
theorem dX3_same_115 : decode cX3_same 115 = .ok (.iconst 1, 1) := by decide +kernel
theorem dX3_same_116 : decode cX3_same 116 = .ok (.goto 4, 3) := by decide +kernel
theorem dX3_same_119 : decode cX3_same 119 = .ok (.iconst 0, 1) := by decide +kernel
theorem dX3_same_120 : decode cX3_same 120 = .ok (.istore 5, 2) := by decide +kernel
theorem dX3_same_122 : decode cX3_same 122 = .ok (.iload_n 3, 1) := by decide +kernel
theorem dX3_same_123 : decode cX3_same 123 = .ok (.ifCond .eq 39, 3) := by decide +kernel
theorem dX3_same_126 : decode cX3_same 126 = .ok (.iload 5, 2) := by decide +kernel
theorem dX3_same_128 : decode cX3_same 128 = .ok (.ifCond .eq 30, 3) := by decide +kernel
theorem dX3_same_131 : decode cX3_same 131 = .ok (.aload_n 0, 1) := by decide +kernel
theorem dX3_same_132 : decode cX3_same 132 = .ok (.getfield 18, 3) := by decide +kernel
theorem dX3_same_135 : decode cX3_same 135 = .ok (.bipush 24, 2) := by decide +kernel
theorem dX3_same_137 : decode cX3_same 137 = .ok (.iload_n 1, 1) := by decide +kernel
theorem dX3_same_138 : decode cX3_same 138 = .ok (.imul, 1) := by decide +kernel
theorem dX3_same_139 : decode cX3_same 139 = .ok (.iload 4, 2) := by decide +kernel
theorem dX3_same_141 : decode cX3_same 141 = .ok (.iadd, 1) := by decide +kernel
theorem dX3_same_142 : decode cX3_same 142 = .ok (.iaload, 1) := by decide +kernel
theorem dX3_same_143 : decode cX3_same 143 = .ok (.aload_n 0, 1) := by decide +kernel
theorem dX3_same_144 : decode cX3_same 144 = .ok (.getfield 18, 3) := by decide +kernel
theorem dX3_same_147 : decode cX3_same 147 = .ok (.bipush 24, 2) := by decide +kernel
theorem dX3_same_149 : decode cX3_same 149 = .ok (.iload_n 2, 1) := by decide +kernel
theorem dX3_same_150 : decode cX3_same 150 = .ok (.imul, 1) := by decide +kernel
theorem dX3_same_151 : decode cX3_same 151 = .ok (.iload 4, 2) := by decide +kernel
theorem dX3_same_153 : decode cX3_same 153 = .ok (.iadd, 1) := by decide +kernel
theorem dX3_same_154 : decode cX3_same 154 = .ok (.iaload, 1) := by decide +kernel
theorem dX3_same_155 : decode cX3_same 155 = .ok (.if_icmp .ne 7, 3) := by decide +kernel
theorem dX3_same_158 : decode cX3_same 158 = .ok (.iconst 1, 1) := by decide +kernel
theorem dX3_same_159 : decode cX3_same 159 = .ok (.goto 4, 3) := by decide +kernel
theorem dX3_same_162 : decode cX3_same 162 = .ok (.iconst 0, 1) := by decide +kernel
theorem dX3_same_163 : decode cX3_same 163 = .ok (.istore_n 3, 1) := by decide +kernel
theorem dX3_same_164 : decode cX3_same 164 = .ok (.iinc 4 1, 3) := by decide +kernel
theorem dX3_same_167 : decode cX3_same 167 = .ok (.goto (-76), 3) := by decide +kernel
theorem dX3_same_170 : decode cX3_same 170 = .ok (.iconst 0, 1) := by decide +kernel
theorem dX3_same_171 : decode cX3_same 171 = .ok (.istore 4, 2) := by decide +kernel
theorem dX3_same_173 : decode cX3_same 173 = .ok (.iload 4, 2) := by decide +kernel
theorem dX3_same_175 : decode cX3_same 175 = .ok (.bipush 48, 2) := by decide +kernel
theorem dX3_same_177 : decode cX3_same 177 = .ok (.if_icmp .ge 47, 3) := by decide +kernel
theorem dX3_same_180 : decode cX3_same 180 = .ok (.iload_n 3, 1) := by decide +kernel
theorem dX3_same_181 : decode cX3_same 181 = .ok (.ifCond .eq 35, 3) := by decide +kernel
theorem dX3_same_184 : decode cX3_same 184 = .ok (.aload_n 0, 1) := by decide +kernel
theorem dX3_same_185 : decode cX3_same 185 = .ok (.getfield 21, 3) := by decide +kernel
theorem dX3_same_188 : decode cX3_same 188 = .ok (.bipush 48, 2) := by decide +kernel
theorem dX3_same_190 : decode cX3_same 190 = .ok (.iload_n 1, 1) := by decide +kernel
theorem dX3_same_191 : decode cX3_same 191 = .ok (.imul, 1) := by decide +kernel
theorem dX3_same_192 : decode cX3_same 192 = .ok (.iload 4, 2) := by decide +kernel
theorem dX3_same_194 : decode cX3_same 194 = .ok (.iadd, 1) := by decide +kernel
theorem dX3_same_195 : decode cX3_same 195 = .ok (.laload, 1) := by decide +kernel
theorem dX3_same_196 : decode cX3_same 196 = .ok (.aload_n 0, 1) := by decide +kernel
theorem dX3_same_197 : decode cX3_same 197 = .ok (.getfield 21, 3) := by decide +kernel
theorem dX3_same_200 : decode cX3_same 200 = .ok (.bipush 48, 2) := by decide +kernel
theorem dX3_same_202 : decode cX3_same 202 = .ok (.iload_n 2, 1) := by decide +kernel
theorem dX3_same_203 : decode cX3_same 203 = .ok (.imul, 1) := by decide +kernel
theorem dX3_same_204 : decode cX3_same 204 = .ok (.iload 4, 2) := by decide +kernel
theorem dX3_same_206 : decode cX3_same 206 = .ok (.iadd, 1) := by decide +kernel
theorem dX3_same_207 : decode cX3_same 207 = .ok (.laload, 1) := by decide +kernel
theorem dX3_same_208 : decode cX3_same 208 = .ok (.lcmp, 1) := by decide +kernel
theorem dX3_same_209 : decode cX3_same 209 = .ok (.ifCond .ne 7, 3) := by decide +kernel
theorem dX3_same_212 : decode cX3_same 212 = .ok (.iconst 1, 1) := by decide +kernel
theorem dX3_same_213 : decode cX3_same 213 = .ok (.goto 4, 3) := by decide +kernel
theorem dX3_same_216 : decode cX3_same 216 = .ok (.iconst 0, 1) := by decide +kernel
theorem dX3_same_217 : decode cX3_same 217 = .ok (.istore_n 3, 1) := by decide +kernel
theorem dX3_same_218 : decode cX3_same 218 = .ok (.iinc 4 1, 3) := by decide +kernel
theorem dX3_same_221 : decode cX3_same 221 = .ok (.goto (-48), 3) := by decide +kernel
theorem dX3_same_224 : decode cX3_same 224 = .ok (.iload_n 3, 1) := by decide +kernel
theorem dX3_same_225 : decode cX3_same 225 = .ok (.ireturn, 1) := by decide +kernel
set_option maxRecDepth 20000 in
theorem ggX3_message_X3_isMessage : GoodIn wsX3_message wsX3_isMessage := goodIn_r _ [11, 3, 19, 20, 21, 22, 23, 24, 25, 26] (by decide +kernel) (by decide +kernel)
set_option maxRecDepth 20000 in
theorem gX3_message_X3_isMessage : GoodIn wsX3_message (wsV RX3 75 RX3 yX3_isMessage wsX3_isMessage) := goodIn_app (goodIn_of _ (by decide +kernel)) ggX3_message_X3_isMessage
set_option maxRecDepth 20000 in
theorem ggX3_message_X3_refuses : GoodIn wsX3_message wsX3_refuses := goodIn_r _ [15, 1, 19, 20, 21, 22, 23, 24, 25, 26] (by decide +kernel) (by decide +kernel)
set_option maxRecDepth 20000 in
theorem gX3_message_X3_refuses : GoodIn wsX3_message (wsV RX3 38 RX3 yX3_refuses wsX3_refuses) := goodIn_app (goodIn_of _ (by decide +kernel)) ggX3_message_X3_refuses
set_option maxRecDepth 20000 in
theorem ggX3_message_X3_vectorAt : GoodIn wsX3_message wsX3_vectorAt := goodIn_r _ [18] (by decide +kernel) (by decide +kernel)
set_option maxRecDepth 20000 in
theorem gX3_message_X3_vectorAt : GoodIn wsX3_message (va_wsS RX3 48 yX3_vectorAt wsX3_vectorAt) := goodIn_app (goodIn_of _ (by decide +kernel)) ggX3_message_X3_vectorAt
theorem dX3_message_0 : decode cX3_message 0 = .ok (.iload_n 2, 1) := by decide +kernel
theorem dX3_message_1 : decode cX3_message 1 = .ok (.iconst (-1), 1) := by decide +kernel
theorem dX3_message_2 : decode cX3_message 2 = .ok (.if_icmp .eq 9, 3) := by decide +kernel
theorem dX3_message_5 : decode cX3_message 5 = .ok (.iload_n 2, 1) := by decide +kernel
theorem dX3_message_6 : decode cX3_message 6 = .ok (.bipush (-2), 2) := by decide +kernel
theorem dX3_message_8 : decode cX3_message 8 = .ok (.if_icmp .ne 25, 3) := by decide +kernel
theorem dX3_message_11 : decode cX3_message 11 = .ok (.aload_n 0, 1) := by decide +kernel
theorem dX3_message_12 : decode cX3_message 12 = .ok (.iconst 0, 1) := by decide +kernel
theorem dX3_message_13 : decode cX3_message 13 = .ok (.putfield 31, 3) := by decide +kernel
theorem dX3_message_16 : decode cX3_message 16 = .ok (.iload_n 2, 1) := by decide +kernel
theorem dX3_message_17 : decode cX3_message 17 = .ok (.iconst (-1), 1) := by decide +kernel
theorem dX3_message_18 : decode cX3_message 18 = .ok (.if_icmp .ne 10, 3) := by decide +kernel
theorem dX3_message_21 : decode cX3_message 21 = .ok (.aload_n 0, 1) := by decide +kernel
theorem dX3_message_22 : decode cX3_message 22 = .ok (.getfield 7, 3) := by decide +kernel
theorem dX3_message_25 : decode cX3_message 25 = .ok (.goto 7, 3) := by decide +kernel
theorem dX3_message_28 : decode cX3_message 28 = .ok (.aload_n 0, 1) := by decide +kernel
theorem dX3_message_29 : decode cX3_message 29 = .ok (.getfield 41, 3) := by decide +kernel
theorem dX3_message_32 : decode cX3_message 32 = .ok (.ireturn, 1) := by decide +kernel
theorem dX3_message_33 : decode cX3_message 33 = .ok (.aload_n 0, 1) := by decide +kernel
theorem dX3_message_34 : decode cX3_message 34 = .ok (.aload_n 0, 1) := by decide +kernel
theorem dX3_message_35 : decode cX3_message 35 = .ok (.iload_n 1, 1) := by decide +kernel
theorem dX3_message_36 : decode cX3_message 36 = .ok (.invokevirtual 75, 3) := by decide +kernel
theorem dX3_message_39 : decode cX3_message 39 = .ok (.ifCond .eq 21, 3) := by decide +kernel
theorem dX3_message_42 : decode cX3_message 42 = .ok (.iload_n 2, 1) := by decide +kernel
theorem dX3_message_43 : decode cX3_message 43 = .ok (.ifCond .lt 17, 3) := by decide +kernel
theorem dX3_message_46 : decode cX3_message 46 = .ok (.iload_n 2, 1) := by decide +kernel
theorem dX3_message_47 : decode cX3_message 47 = .ok (.aload_n 0, 1) := by decide +kernel
theorem dX3_message_48 : decode cX3_message 48 = .ok (.getfield 7, 3) := by decide +kernel
theorem dX3_message_51 : decode cX3_message 51 = .ok (.iconst 2, 1) := by decide +kernel
theorem dX3_message_52 : decode cX3_message 52 = .ok (.iadd, 1) := by decide +kernel
