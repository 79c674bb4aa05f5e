theorem dX12_next_250 : decode cX12_next 250 = .ok (.invokevirtual 135, 3) := by decide +kernel
theorem dX12_next_253 : decode cX12_next 253 = .ok (.iadd, 1) := by decide +kernel
theorem dX12_next_254 : decode cX12_next 254 = .ok (.bipush 48, 2) := by decide +kernel
theorem dX12_next_256 : decode cX12_next 256 = .ok (.isub, 1) := by decide +kernel
theorem dX12_next_257 : decode cX12_next 257 = .ok (.putfield 157, 3) := by decide +kernel
theorem dX12_next_260 : decode cX12_next 260 = .ok (.aload_n 0, 1) := by decide +kernel
theorem dX12_next_261 : decode cX12_next 261 = .ok (.dup, 1) := by decide +kernel
theorem dX12_next_262 : decode cX12_next 262 = .ok (.getfield 129, 3) := by decide +kernel
theorem dX12_next_265 : decode cX12_next 265 = .ok (.iconst 1, 1) := by decide +kernel
theorem dX12_next_266 : decode cX12_next 266 = .ok (.iadd, 1) := by decide +kernel
theorem dX12_next_267 : decode cX12_next 267 = .ok (.putfield 129, 3) := by decide +kernel
theorem dX12_next_270 : decode cX12_next 270 = .ok (.goto (-60), 3) := by decide +kernel
theorem dX12_next_273 : decode cX12_next 273 = .ok (.aload_n 0, 1) := by decide +kernel
theorem dX12_next_274 : decode cX12_next 274 = .ok (.aload_n 0, 1) := by decide +kernel
theorem dX12_next_275 : decode cX12_next 275 = .ok (.getfield 129, 3) := by decide +kernel
theorem dX12_next_278 : decode cX12_next 278 = .ok (.aload_n 0, 1) := by decide +kernel
theorem dX12_next_279 : decode cX12_next 279 = .ok (.getfield 132, 3) := by decide +kernel
theorem dX12_next_282 : decode cX12_next 282 = .ok (.isub, 1) := by decide +kernel
theorem dX12_next_283 : decode cX12_next 283 = .ok (.iconst 4, 1) := by decide +kernel
theorem dX12_next_284 : decode cX12_next 284 = .ok (.if_icmp .le 7, 3) := by decide +kernel
theorem dX12_next_287 : decode cX12_next 287 = .ok (.iconst 4, 1) := by decide +kernel
theorem dX12_next_288 : decode cX12_next 288 = .ok (.goto 4, 3) := by decide +kernel
theorem dX12_next_291 : decode cX12_next 291 = .ok (.iconst 2, 1) := by decide +kernel
theorem dX12_next_292 : decode cX12_next 292 = .ok (.putfield 138, 3) := by decide +kernel
theorem dX12_next_295 : decode cX12_next 295 = .ok (.goto 35, 3) := by decide +kernel
theorem dX12_next_298 : decode cX12_next 298 = .ok (.aload_n 0, 1) := by decide +kernel
theorem dX12_next_299 : decode cX12_next 299 = .ok (.aload_n 0, 1) := by decide +kernel
theorem dX12_next_300 : decode cX12_next 300 = .ok (.getfield 132, 3) := by decide +kernel
theorem dX12_next_303 : decode cX12_next 303 = .ok (.iconst 1, 1) := by decide +kernel
theorem dX12_next_304 : decode cX12_next 304 = .ok (.iadd, 1) := by decide +kernel
theorem dX12_next_305 : decode cX12_next 305 = .ok (.putfield 129, 3) := by decide +kernel
theorem dX12_next_308 : decode cX12_next 308 = .ok (.aload_n 0, 1) := by decide +kernel
theorem dX12_next_309 : decode cX12_next 309 = .ok (.iload_n 1, 1) := by decide +kernel
theorem dX12_next_310 : decode cX12_next 310 = .ok (.putfield 157, 3) := by decide +kernel
theorem dX12_next_313 : decode cX12_next 313 = .ok (.aload_n 0, 1) := by decide +kernel
theorem dX12_next_314 : decode cX12_next 314 = .ok (.aload_n 0, 1) := by decide +kernel
theorem dX12_next_315 : decode cX12_next 315 = .ok (.iload_n 1, 1) := by decide +kernel
theorem dX12_next_316 : decode cX12_next 316 = .ok (.invokevirtual 160, 3) := by decide +kernel
theorem dX12_next_319 : decode cX12_next 319 = .ok (.ifCond .eq 7, 3) := by decide +kernel
theorem dX12_next_322 : decode cX12_next 322 = .ok (.iconst 3, 1) := by decide +kernel
theorem dX12_next_323 : decode cX12_next 323 = .ok (.goto 4, 3) := by decide +kernel
theorem dX12_next_326 : decode cX12_next 326 = .ok (.iconst 4, 1) := by decide +kernel
theorem dX12_next_327 : decode cX12_next 327 = .ok (.putfield 138, 3) := by decide +kernel
theorem dX12_next_330 : decode cX12_next 330 = .ok (.return_, 1) := by decide +kernel
theorem dX12_isSign_0 : decode cX12_isSign 0 = .ok (.aload_n 0, 1) := by decide +kernel
theorem dX12_isSign_1 : decode cX12_isSign 1 = .ok (.getfield 138, 3) := by decide +kernel
theorem dX12_isSign_4 : decode cX12_isSign 4 = .ok (.iconst 3, 1) := by decide +kernel
theorem dX12_isSign_5 : decode cX12_isSign 5 = .ok (.if_icmp .ne 15, 3) := by decide +kernel
theorem dX12_isSign_8 : decode cX12_isSign 8 = .ok (.aload_n 0, 1) := by decide +kernel
theorem dX12_isSign_9 : decode cX12_isSign 9 = .ok (.getfield 157, 3) := by decide +kernel
theorem dX12_isSign_12 : decode cX12_isSign 12 = .ok (.iload_n 1, 1) := by decide +kernel
theorem dX12_isSign_13 : decode cX12_isSign 13 = .ok (.if_icmp .ne 7, 3) := by decide +kernel
theorem dX12_isSign_16 : decode cX12_isSign 16 = .ok (.iconst 1, 1) := by decide +kernel
theorem dX12_isSign_17 : decode cX12_isSign 17 = .ok (.goto 4, 3) := by decide +kernel
theorem dX12_isSign_20 : decode cX12_isSign 20 = .ok (.iconst 0, 1) := by decide +kernel
theorem dX12_isSign_21 : decode cX12_isSign 21 = .ok (.ireturn, 1) := by decide +kernel
theorem dX12_spelled_0 : decode cX12_spelled 0 = .ok (.iload_n 0, 1) := by decide +kernel
theorem dX12_spelled_1 : decode cX12_spelled 1 = .ok (.i2l, 1) := by decide +kernel
theorem dX12_spelled_2 : decode cX12_spelled 2 = .ok (.ldc2_w 149, 3) := by decide +kernel
theorem dX12_spelled_5 : decode cX12_spelled 5 = .ok (.lsub, 1) := by decide +kernel
theorem dX12_spelled_6 : decode cX12_spelled 6 = .ok (.ldc2_w 147, 3) := by decide +kernel
theorem dX12_spelled_9 : decode cX12_spelled 9 = .ok (.lmul, 1) := by decide +kernel
theorem dX12_spelled_10 : decode cX12_spelled 10 = .ok (.iload_n 1, 1) := by decide +kernel
theorem dX12_spelled_11 : decode cX12_spelled 11 = .ok (.i2l, 1) := by decide +kernel
theorem dX12_spelled_12 : decode cX12_spelled 12 = .ok (.ladd, 1) := by decide +kernel
theorem dX12_spelled_13 : decode cX12_spelled 13 = .ok (.ldc2_w 149, 3) := by decide +kernel
theorem dX12_spelled_16 : decode cX12_spelled 16 = .ok (.lsub, 1) := by decide +kernel
theorem dX12_spelled_17 : decode cX12_spelled 17 = .ok (.lstore 6, 2) := by decide +kernel
theorem dX12_spelled_19 : decode cX12_spelled 19 = .ok (.iload_n 2, 1) := by decide +kernel
theorem dX12_spelled_20 : decode cX12_spelled 20 = .ok (.ifCond .le 19, 3) := by decide +kernel
theorem dX12_spelled_23 : decode cX12_spelled 23 = .ok (.lload 6, 2) := by decide +kernel
theorem dX12_spelled_25 : decode cX12_spelled 25 = .ok (.ldc2_w 147, 3) := by decide +kernel
theorem dX12_spelled_28 : decode cX12_spelled 28 = .ok (.lmul, 1) := by decide +kernel
theorem dX12_spelled_29 : decode cX12_spelled 29 = .ok (.iload_n 2, 1) := by decide +kernel
theorem dX12_spelled_30 : decode cX12_spelled 30 = .ok (.i2l, 1) := by decide +kernel
theorem dX12_spelled_31 : decode cX12_spelled 31 = .ok (.ladd, 1) := by decide +kernel
theorem dX12_spelled_32 : decode cX12_spelled 32 = .ok (.ldc2_w 149, 3) := by decide +kernel
theorem dX12_spelled_35 : decode cX12_spelled 35 = .ok (.lsub, 1) := by decide +kernel
theorem dX12_spelled_36 : decode cX12_spelled 36 = .ok (.goto 5, 3) := by decide +kernel
theorem dX12_spelled_39 : decode cX12_spelled 39 = .ok (.lload 6, 2) := by decide +kernel
theorem dX12_spelled_41 : decode cX12_spelled 41 = .ok (.lstore 6, 2) := by decide +kernel
theorem dX12_spelled_43 : decode cX12_spelled 43 = .ok (.iload_n 3, 1) := by decide +kernel
theorem dX12_spelled_44 : decode cX12_spelled 44 = .ok (.ifCond .le 19, 3) := by decide +kernel
theorem dX12_spelled_47 : decode cX12_spelled 47 = .ok (.lload 6, 2) := by decide +kernel
theorem dX12_spelled_49 : decode cX12_spelled 49 = .ok (.ldc2_w 147, 3) := by decide +kernel
theorem dX12_spelled_52 : decode cX12_spelled 52 = .ok (.lmul, 1) := by decide +kernel
theorem dX12_spelled_53 : decode cX12_spelled 53 = .ok (.iload_n 3, 1) := by decide +kernel
theorem dX12_spelled_54 : decode cX12_spelled 54 = .ok (.i2l, 1) := by decide +kernel
theorem dX12_spelled_55 : decode cX12_spelled 55 = .ok (.ladd, 1) := by decide +kernel
theorem dX12_spelled_56 : decode cX12_spelled 56 = .ok (.ldc2_w 149, 3) := by decide +kernel
theorem dX12_spelled_59 : decode cX12_spelled 59 = .ok (.lsub, 1) := by decide +kernel
theorem dX12_spelled_60 : decode cX12_spelled 60 = .ok (.goto 5, 3) := by decide +kernel
theorem dX12_spelled_63 : decode cX12_spelled 63 = .ok (.lload 6, 2) := by decide +kernel
theorem dX12_spelled_65 : decode cX12_spelled 65 = .ok (.lstore 6, 2) := by decide +kernel
theorem dX12_spelled_67 : decode cX12_spelled 67 = .ok (.iload 4, 2) := by decide +kernel
theorem dX12_spelled_69 : decode cX12_spelled 69 = .ok (.ifCond .le 20, 3) := by decide +kernel
theorem dX12_spelled_72 : decode cX12_spelled 72 = .ok (.lload 6, 2) := by decide +kernel
theorem dX12_spelled_74 : decode cX12_spelled 74 = .ok (.ldc2_w 147, 3) := by decide +kernel
theorem dX12_spelled_77 : decode cX12_spelled 77 = .ok (.lmul, 1) := by decide +kernel
theorem dX12_spelled_78 : decode cX12_spelled 78 = .ok (.iload 4, 2) := by decide +kernel
theorem dX12_spelled_80 : decode cX12_spelled 80 = .ok (.i2l, 1) := by decide +kernel
theorem dX12_spelled_81 : decode cX12_spelled 81 = .ok (.ladd, 1) := by decide +kernel
theorem dX12_spelled_82 : decode cX12_spelled 82 = .ok (.ldc2_w 149, 3) := by decide +kernel
theorem dX12_spelled_85 : decode cX12_spelled 85 = .ok (.lsub, 1) := by decide +kernel
theorem dX12_spelled_86 : decode cX12_spelled 86 = .ok (.goto 5, 3) := by decide +kernel
theorem dX12_spelled_89 : decode cX12_spelled 89 = .ok (.lload 6, 2) := by decide +kernel
theorem dX12_spelled_91 : decode cX12_spelled 91 = .ok (.lstore 6, 2) := by decide +kernel
theorem dX12_spelled_93 : decode cX12_spelled 93 = .ok (.iload 5, 2) := by decide +kernel
theorem dX12_spelled_95 : decode cX12_spelled 95 = .ok (.ifCond .le 20, 3) := by decide +kernel
theorem dX12_spelled_98 : decode cX12_spelled 98 = .ok (.lload 6, 2) := by decide +kernel
theorem dX12_spelled_100 : decode cX12_spelled 100 = .ok (.ldc2_w 147, 3) := by decide +kernel
theorem dX12_spelled_103 : decode cX12_spelled 103 = .ok (.lmul, 1) := by decide +kernel
theorem dX12_spelled_104 : decode cX12_spelled 104 = .ok (.iload 5, 2) := by decide +kernel
theorem dX12_spelled_106 : decode cX12_spelled 106 = .ok (.i2l, 1) := by decide +kernel
theorem dX12_spelled_107 : decode cX12_spelled 107 = .ok (.ladd, 1) := by decide +kernel
theorem dX12_spelled_108 : decode cX12_spelled 108 = .ok (.ldc2_w 149, 3) := by decide +kernel
theorem dX12_spelled_111 : decode cX12_spelled 111 = .ok (.lsub, 1) := by decide +kernel
theorem dX12_spelled_112 : decode cX12_spelled 112 = .ok (.goto 5, 3) := by decide +kernel
theorem dX12_spelled_115 : decode cX12_spelled 115 = .ok (.lload 6, 2) := by decide +kernel
theorem dX12_spelled_117 : decode cX12_spelled 117 = .ok (.lreturn, 1) := by decide +kernel
theorem dX12_isWord_0 : decode cX12_isWord 0 = .ok (.aload_n 0, 1) := by decide +kernel
theorem dX12_isWord_1 : decode cX12_isWord 1 = .ok (.getfield 138, 3) := by decide +kernel
theorem dX12_isWord_4 : decode cX12_isWord 4 = .ok (.iconst 1, 1) := by decide +kernel
theorem dX12_isWord_5 : decode cX12_isWord 5 = .ok (.if_icmp .ne 16, 3) := by decide +kernel
theorem dX12_isWord_8 : decode cX12_isWord 8 = .ok (.aload_n 0, 1) := by decide +kernel
theorem dX12_isWord_9 : decode cX12_isWord 9 = .ok (.getfield 144, 3) := by decide +kernel
theorem dX12_isWord_12 : decode cX12_isWord 12 = .ok (.lload_n 1, 1) := by decide +kernel
theorem dX12_isWord_13 : decode cX12_isWord 13 = .ok (.lcmp, 1) := by decide +kernel
theorem dX12_isWord_14 : decode cX12_isWord 14 = .ok (.ifCond .ne 7, 3) := by decide +kernel
theorem dX12_isWord_17 : decode cX12_isWord 17 = .ok (.iconst 1, 1) := by decide +kernel
theorem dX12_isWord_18 : decode cX12_isWord 18 = .ok (.goto 4, 3) := by decide +kernel
theorem dX12_isWord_21 : decode cX12_isWord 21 = .ok (.iconst 0, 1) := by decide +kernel
theorem dX12_isWord_22 : decode cX12_isWord 22 = .ok (.ireturn, 1) := by decide +kernel
theorem dX12_partWord_0 : decode cX12_partWord 0 = .ok (.aload_n 0, 1) := by decide +kernel
theorem dX12_partWord_1 : decode cX12_partWord 1 = .ok (.bipush 116, 2) := by decide +kernel
theorem dX12_partWord_3 : decode cX12_partWord 3 = .ok (.bipush 104, 2) := by decide +kernel
theorem dX12_partWord_5 : decode cX12_partWord 5 = .ok (.bipush 105, 2) := by decide +kernel
theorem dX12_partWord_7 : decode cX12_partWord 7 = .ok (.bipush 110, 2) := by decide +kernel
theorem dX12_partWord_9 : decode cX12_partWord 9 = .ok (.bipush 103, 2) := by decide +kernel
theorem dX12_partWord_11 : decode cX12_partWord 11 = .ok (.iconst 0, 1) := by decide +kernel
theorem dX12_partWord_12 : decode cX12_partWord 12 = .ok (.invokestatic 163, 3) := by decide +kernel
theorem dX12_partWord_15 : decode cX12_partWord 15 = .ok (.invokevirtual 167, 3) := by decide +kernel
theorem dX12_partWord_18 : decode cX12_partWord 18 = .ok (.ifCond .eq 5, 3) := by decide +kernel
theorem dX12_partWord_21 : decode cX12_partWord 21 = .ok (.iconst 0, 1) := by decide +kernel
theorem dX12_partWord_22 : decode cX12_partWord 22 = .ok (.ireturn, 1) := by decide +kernel
theorem dX12_partWord_23 : decode cX12_partWord 23 = .ok (.aload_n 0, 1) := by decide +kernel
theorem dX12_partWord_24 : decode cX12_partWord 24 = .ok (.bipush 109, 2) := by decide +kernel
theorem dX12_partWord_26 : decode cX12_partWord 26 = .ok (.bipush 97, 2) := by decide +kernel
theorem dX12_partWord_28 : decode cX12_partWord 28 = .ok (.bipush 107, 2) := by decide +kernel
theorem dX12_partWord_30 : decode cX12_partWord 30 = .ok (.bipush 105, 2) := by decide +kernel
theorem dX12_partWord_32 : decode cX12_partWord 32 = .ok (.bipush 110, 2) := by decide +kernel
theorem dX12_partWord_34 : decode cX12_partWord 34 = .ok (.bipush 103, 2) := by decide +kernel
theorem dX12_partWord_36 : decode cX12_partWord 36 = .ok (.invokestatic 163, 3) := by decide +kernel
theorem dX12_partWord_39 : decode cX12_partWord 39 = .ok (.invokevirtual 167, 3) := by decide +kernel
theorem dX12_partWord_42 : decode cX12_partWord 42 = .ok (.ifCond .eq 5, 3) := by decide +kernel
theorem dX12_partWord_45 : decode cX12_partWord 45 = .ok (.iconst 1, 1) := by decide +kernel
theorem dX12_partWord_46 : decode cX12_partWord 46 = .ok (.ireturn, 1) := by decide +kernel
theorem dX12_partWord_47 : decode cX12_partWord 47 = .ok (.aload_n 0, 1) := by decide +kernel
theorem dX12_partWord_48 : decode cX12_partWord 48 = .ok (.bipush 112, 2) := by decide +kernel
theorem dX12_partWord_50 : decode cX12_partWord 50 = .ok (.bipush 101, 2) := by decide +kernel
theorem dX12_partWord_52 : decode cX12_partWord 52 = .ok (.bipush 114, 2) := by decide +kernel
theorem dX12_partWord_54 : decode cX12_partWord 54 = .ok (.bipush 115, 2) := by decide +kernel
theorem dX12_partWord_56 : decode cX12_partWord 56 = .ok (.bipush 111, 2) := by decide +kernel
theorem dX12_partWord_58 : decode cX12_partWord 58 = .ok (.bipush 110, 2) := by decide +kernel
theorem dX12_partWord_60 : decode cX12_partWord 60 = .ok (.invokestatic 163, 3) := by decide +kernel
theorem dX12_partWord_63 : decode cX12_partWord 63 = .ok (.invokevirtual 167, 3) := by decide +kernel
theorem dX12_partWord_66 : decode cX12_partWord 66 = .ok (.ifCond .eq 5, 3) := by decide +kernel
theorem dX12_partWord_69 : decode cX12_partWord 69 = .ok (.iconst 2, 1) := by decide +kernel
theorem dX12_partWord_70 : decode cX12_partWord 70 = .ok (.ireturn, 1) := by decide +kernel
theorem dX12_partWord_71 : decode cX12_partWord 71 = .ok (.aload_n 0, 1) := by decide +kernel
theorem dX12_partWord_72 : decode cX12_partWord 72 = .ok (.bipush 119, 2) := by decide +kernel
theorem dX12_partWord_74 : decode cX12_partWord 74 = .ok (.bipush 97, 2) := by decide +kernel
theorem dX12_partWord_76 : decode cX12_partWord 76 = .ok (.bipush 110, 2) := by decide +kernel
theorem dX12_partWord_78 : decode cX12_partWord 78 = .ok (.bipush 116, 2) := by decide +kernel
theorem dX12_partWord_80 : decode cX12_partWord 80 = .ok (.iconst 0, 1) := by decide +kernel
theorem dX12_partWord_81 : decode cX12_partWord 81 = .ok (.iconst 0, 1) := by decide +kernel
theorem dX12_partWord_82 : decode cX12_partWord 82 = .ok (.invokestatic 163, 3) := by decide +kernel
theorem dX12_partWord_85 : decode cX12_partWord 85 = .ok (.invokevirtual 167, 3) := by decide +kernel
theorem dX12_partWord_88 : decode cX12_partWord 88 = .ok (.ifCond .eq 7, 3) := by decide +kernel
theorem dX12_partWord_91 : decode cX12_partWord 91 = .ok (.iconst 3, 1) := by decide +kernel
theorem dX12_partWord_92 : decode cX12_partWord 92 = .ok (.goto 4, 3) := by decide +kernel
theorem dX12_partWord_95 : decode cX12_partWord 95 = .ok (.iconst (-1), 1) := by decide +kernel
theorem dX12_partWord_96 : decode cX12_partWord 96 = .ok (.ireturn, 1) := by decide +kernel
theorem dX12_isWear_0 : decode cX12_isWear 0 = .ok (.aload_n 0, 1) := by decide +kernel
theorem dX12_isWear_1 : decode cX12_isWear 1 = .ok (.bipush 119, 2) := by decide +kernel
theorem dX12_isWear_3 : decode cX12_isWear 3 = .ok (.bipush 101, 2) := by decide +kernel
theorem dX12_isWear_5 : decode cX12_isWear 5 = .ok (.bipush 97, 2) := by decide +kernel
theorem dX12_isWear_7 : decode cX12_isWear 7 = .ok (.bipush 114, 2) := by decide +kernel
theorem dX12_isWear_9 : decode cX12_isWear 9 = .ok (.iconst 0, 1) := by decide +kernel
theorem dX12_isWear_10 : decode cX12_isWear 10 = .ok (.iconst 0, 1) := by decide +kernel
theorem dX12_isWear_11 : decode cX12_isWear 11 = .ok (.invokestatic 163, 3) := by decide +kernel
theorem dX12_isWear_14 : decode cX12_isWear 14 = .ok (.invokevirtual 167, 3) := by decide +kernel
theorem dX12_isWear_17 : decode cX12_isWear 17 = .ok (.ireturn, 1) := by decide +kernel
theorem dX12_isSend_0 : decode cX12_isSend 0 = .ok (.aload_n 0, 1) := by decide +kernel
theorem dX12_isSend_1 : decode cX12_isSend 1 = .ok (.bipush 115, 2) := by decide +kernel
theorem dX12_isSend_3 : decode cX12_isSend 3 = .ok (.bipush 101, 2) := by decide +kernel
theorem dX12_isSend_5 : decode cX12_isSend 5 = .ok (.bipush 110, 2) := by decide +kernel
theorem dX12_isSend_7 : decode cX12_isSend 7 = .ok (.bipush 100, 2) := by decide +kernel
theorem dX12_isSend_9 : decode cX12_isSend 9 = .ok (.iconst 0, 1) := by decide +kernel
theorem dX12_isSend_10 : decode cX12_isSend 10 = .ok (.iconst 0, 1) := by decide +kernel
theorem dX12_isSend_11 : decode cX12_isSend 11 = .ok (.invokestatic 163, 3) := by decide +kernel
theorem dX12_isSend_14 : decode cX12_isSend 14 = .ok (.invokevirtual 167, 3) := by decide +kernel
theorem dX12_isSend_17 : decode cX12_isSend 17 = .ok (.ireturn, 1) := by decide +kernel
theorem dX12_isHold_0 : decode cX12_isHold 0 = .ok (.aload_n 0, 1) := by decide +kernel
theorem dX12_isHold_1 : decode cX12_isHold 1 = .ok (.bipush 104, 2) := by decide +kernel
theorem dX12_isHold_3 : decode cX12_isHold 3 = .ok (.bipush 111, 2) := by decide +kernel
theorem dX12_isHold_5 : decode cX12_isHold 5 = .ok (.bipush 108, 2) := by decide +kernel
theorem dX12_isHold_7 : decode cX12_isHold 7 = .ok (.bipush 100, 2) := by decide +kernel
theorem dX12_isHold_9 : decode cX12_isHold 9 = .ok (.iconst 0, 1) := by decide +kernel
theorem dX12_isHold_10 : decode cX12_isHold 10 = .ok (.iconst 0, 1) := by decide +kernel
theorem dX12_isHold_11 : decode cX12_isHold 11 = .ok (.invokestatic 163, 3) := by decide +kernel
theorem dX12_isHold_14 : decode cX12_isHold 14 = .ok (.invokevirtual 167, 3) := by decide +kernel
theorem dX12_isHold_17 : decode cX12_isHold 17 = .ok (.ireturn, 1) := by decide +kernel
theorem dX12_isGives_0 : decode cX12_isGives 0 = .ok (.aload_n 0, 1) := by decide +kernel
theorem dX12_isGives_1 : decode cX12_isGives 1 = .ok (.bipush 103, 2) := by decide +kernel
theorem dX12_isGives_3 : decode cX12_isGives 3 = .ok (.bipush 105, 2) := by decide +kernel
theorem dX12_isGives_5 : decode cX12_isGives 5 = .ok (.bipush 118, 2) := by decide +kernel
theorem dX12_isGives_7 : decode cX12_isGives 7 = .ok (.bipush 101, 2) := by decide +kernel
theorem dX12_isGives_9 : decode cX12_isGives 9 = .ok (.bipush 115, 2) := by decide +kernel
theorem dX12_isGives_11 : decode cX12_isGives 11 = .ok (.iconst 0, 1) := by decide +kernel
theorem dX12_isGives_12 : decode cX12_isGives 12 = .ok (.invokestatic 163, 3) := by decide +kernel
theorem dX12_isGives_15 : decode cX12_isGives 15 = .ok (.invokevirtual 167, 3) := by decide +kernel
theorem dX12_isGives_18 : decode cX12_isGives 18 = .ok (.ireturn, 1) := by decide +kernel
theorem dX12_isHours_0 : decode cX12_isHours 0 = .ok (.aload_n 0, 1) := by decide +kernel
theorem dX12_isHours_1 : decode cX12_isHours 1 = .ok (.bipush 104, 2) := by decide +kernel
theorem dX12_isHours_3 : decode cX12_isHours 3 = .ok (.bipush 111, 2) := by decide +kernel
theorem dX12_isHours_5 : decode cX12_isHours 5 = .ok (.bipush 117, 2) := by decide +kernel
theorem dX12_isHours_7 : decode cX12_isHours 7 = .ok (.bipush 114, 2) := by decide +kernel
theorem dX12_isHours_9 : decode cX12_isHours 9 = .ok (.bipush 115, 2) := by decide +kernel
theorem dX12_isHours_11 : decode cX12_isHours 11 = .ok (.iconst 0, 1) := by decide +kernel
theorem dX12_isHours_12 : decode cX12_isHours 12 = .ok (.invokestatic 163, 3) := by decide +kernel
theorem dX12_isHours_15 : decode cX12_isHours 15 = .ok (.invokevirtual 167, 3) := by decide +kernel
theorem dX12_isHours_18 : decode cX12_isHours 18 = .ok (.ireturn, 1) := by decide +kernel
theorem dX12_isHands_0 : decode cX12_isHands 0 = .ok (.aload_n 0, 1) := by decide +kernel
theorem dX12_isHands_1 : decode cX12_isHands 1 = .ok (.bipush 104, 2) := by decide +kernel
theorem dX12_isHands_3 : decode cX12_isHands 3 = .ok (.bipush 97, 2) := by decide +kernel
theorem dX12_isHands_5 : decode cX12_isHands 5 = .ok (.bipush 110, 2) := by decide +kernel
theorem dX12_isHands_7 : decode cX12_isHands 7 = .ok (.bipush 100, 2) := by decide +kernel
theorem dX12_isHands_9 : decode cX12_isHands 9 = .ok (.bipush 115, 2) := by decide +kernel
theorem dX12_isHands_11 : decode cX12_isHands 11 = .ok (.iconst 0, 1) := by decide +kernel
theorem dX12_isHands_12 : decode cX12_isHands 12 = .ok (.invokestatic 163, 3) := by decide +kernel
theorem dX12_isHands_15 : decode cX12_isHands 15 = .ok (.invokevirtual 167, 3) := by decide +kernel
theorem dX12_isHands_18 : decode cX12_isHands 18 = .ok (.ireturn, 1) := by decide +kernel
theorem dX12_isOf_0 : decode cX12_isOf 0 = .ok (.aload_n 0, 1) := by decide +kernel
theorem dX12_isOf_1 : decode cX12_isOf 1 = .ok (.bipush 111, 2) := by decide +kernel
theorem dX12_isOf_3 : decode cX12_isOf 3 = .ok (.bipush 102, 2) := by decide +kernel
theorem dX12_isOf_5 : decode cX12_isOf 5 = .ok (.iconst 0, 1) := by decide +kernel
theorem dX12_isOf_6 : decode cX12_isOf 6 = .ok (.iconst 0, 1) := by decide +kernel
theorem dX12_isOf_7 : decode cX12_isOf 7 = .ok (.iconst 0, 1) := by decide +kernel
theorem dX12_isOf_8 : decode cX12_isOf 8 = .ok (.iconst 0, 1) := by decide +kernel
theorem dX12_isOf_9 : decode cX12_isOf 9 = .ok (.invokestatic 163, 3) := by decide +kernel
theorem dX12_isOf_12 : decode cX12_isOf 12 = .ok (.invokevirtual 167, 3) := by decide +kernel
theorem dX12_isOf_15 : decode cX12_isOf 15 = .ok (.ireturn, 1) := by decide +kernel
theorem dX12_isWith_0 : decode cX12_isWith 0 = .ok (.aload_n 0, 1) := by decide +kernel
theorem dX12_isWith_1 : decode cX12_isWith 1 = .ok (.bipush 119, 2) := by decide +kernel
theorem dX12_isWith_3 : decode cX12_isWith 3 = .ok (.bipush 105, 2) := by decide +kernel
theorem dX12_isWith_5 : decode cX12_isWith 5 = .ok (.bipush 116, 2) := by decide +kernel
theorem dX12_isWith_7 : decode cX12_isWith 7 = .ok (.bipush 104, 2) := by decide +kernel
theorem dX12_isWith_9 : decode cX12_isWith 9 = .ok (.iconst 0, 1) := by decide +kernel
theorem dX12_isWith_10 : decode cX12_isWith 10 = .ok (.iconst 0, 1) := by decide +kernel
theorem dX12_isWith_11 : decode cX12_isWith 11 = .ok (.invokestatic 163, 3) := by decide +kernel
theorem dX12_isWith_14 : decode cX12_isWith 14 = .ok (.invokevirtual 167, 3) := by decide +kernel
theorem dX12_isWith_17 : decode cX12_isWith 17 = .ok (.ireturn, 1) := by decide +kernel
theorem dX12_isFrom_0 : decode cX12_isFrom 0 = .ok (.aload_n 0, 1) := by decide +kernel
theorem dX12_isFrom_1 : decode cX12_isFrom 1 = .ok (.bipush 102, 2) := by decide +kernel
theorem dX12_isFrom_3 : decode cX12_isFrom 3 = .ok (.bipush 114, 2) := by decide +kernel
theorem dX12_isFrom_5 : decode cX12_isFrom 5 = .ok (.bipush 111, 2) := by decide +kernel
theorem dX12_isFrom_7 : decode cX12_isFrom 7 = .ok (.bipush 109, 2) := by decide +kernel
theorem dX12_isFrom_9 : decode cX12_isFrom 9 = .ok (.iconst 0, 1) := by decide +kernel
theorem dX12_isFrom_10 : decode cX12_isFrom 10 = .ok (.iconst 0, 1) := by decide +kernel
theorem dX12_isFrom_11 : decode cX12_isFrom 11 = .ok (.invokestatic 163, 3) := by decide +kernel
theorem dX12_isFrom_14 : decode cX12_isFrom 14 = .ok (.invokevirtual 167, 3) := by decide +kernel
theorem dX12_isFrom_17 : decode cX12_isFrom 17 = .ok (.ireturn, 1) := by decide +kernel
theorem dX12_isTo_0 : decode cX12_isTo 0 = .ok (.aload_n 0, 1) := by decide +kernel
theorem dX12_isTo_1 : decode cX12_isTo 1 = .ok (.bipush 116, 2) := by decide +kernel
theorem dX12_isTo_3 : decode cX12_isTo 3 = .ok (.bipush 111, 2) := by decide +kernel
theorem dX12_isTo_5 : decode cX12_isTo 5 = .ok (.iconst 0, 1) := by decide +kernel
theorem dX12_isTo_6 : decode cX12_isTo 6 = .ok (.iconst 0, 1) := by decide +kernel
theorem dX12_isTo_7 : decode cX12_isTo 7 = .ok (.iconst 0, 1) := by decide +kernel
theorem dX12_isTo_8 : decode cX12_isTo 8 = .ok (.iconst 0, 1) := by decide +kernel
theorem dX12_isTo_9 : decode cX12_isTo 9 = .ok (.invokestatic 163, 3) := by decide +kernel
theorem dX12_isTo_12 : decode cX12_isTo 12 = .ok (.invokevirtual 167, 3) := by decide +kernel
theorem dX12_isTo_15 : decode cX12_isTo 15 = .ok (.ireturn, 1) := by decide +kernel
theorem dX12_isIll_0 : decode cX12_isIll 0 = .ok (.aload_n 0, 1) := by decide +kernel
theorem dX12_isIll_1 : decode cX12_isIll 1 = .ok (.bipush 105, 2) := by decide +kernel
theorem dX12_isIll_3 : decode cX12_isIll 3 = .ok (.bipush 108, 2) := by decide +kernel
theorem dX12_isIll_5 : decode cX12_isIll 5 = .ok (.bipush 108, 2) := by decide +kernel
theorem dX12_isIll_7 : decode cX12_isIll 7 = .ok (.iconst 0, 1) := by decide +kernel
theorem dX12_isIll_8 : decode cX12_isIll 8 = .ok (.iconst 0, 1) := by decide +kernel
theorem dX12_isIll_9 : decode cX12_isIll 9 = .ok (.iconst 0, 1) := by decide +kernel
theorem dX12_isIll_10 : decode cX12_isIll 10 = .ok (.invokestatic 163, 3) := by decide +kernel
theorem dX12_isIll_13 : decode cX12_isIll 13 = .ok (.invokevirtual 167, 3) := by decide +kernel
theorem dX12_isIll_16 : decode cX12_isIll 16 = .ok (.ireturn, 1) := by decide +kernel
theorem dX12_isAt_0 : decode cX12_isAt 0 = .ok (.aload_n 0, 1) := by decide +kernel
theorem dX12_isAt_1 : decode cX12_isAt 1 = .ok (.bipush 97, 2) := by decide +kernel
theorem dX12_isAt_3 : decode cX12_isAt 3 = .ok (.bipush 116, 2) := by decide +kernel
theorem dX12_isAt_5 : decode cX12_isAt 5 = .ok (.iconst 0, 1) := by decide +kernel
theorem dX12_isAt_6 : decode cX12_isAt 6 = .ok (.iconst 0, 1) := by decide +kernel
theorem dX12_isAt_7 : decode cX12_isAt 7 = .ok (.iconst 0, 1) := by decide +kernel
theorem dX12_isAt_8 : decode cX12_isAt 8 = .ok (.iconst 0, 1) := by decide +kernel
theorem dX12_isAt_9 : decode cX12_isAt 9 = .ok (.invokestatic 163, 3) := by decide +kernel
theorem dX12_isAt_12 : decode cX12_isAt 12 = .ok (.invokevirtual 167, 3) := by decide +kernel
theorem dX12_isAt_15 : decode cX12_isAt 15 = .ok (.ireturn, 1) := by decide +kernel
theorem dX12_isWorth_0 : decode cX12_isWorth 0 = .ok (.aload_n 0, 1) := by decide +kernel
theorem dX12_isWorth_1 : decode cX12_isWorth 1 = .ok (.bipush 119, 2) := by decide +kernel
theorem dX12_isWorth_3 : decode cX12_isWorth 3 = .ok (.bipush 111, 2) := by decide +kernel
theorem dX12_isWorth_5 : decode cX12_isWorth 5 = .ok (.bipush 114, 2) := by decide +kernel
theorem dX12_isWorth_7 : decode cX12_isWorth 7 = .ok (.bipush 116, 2) := by decide +kernel
theorem dX12_isWorth_9 : decode cX12_isWorth 9 = .ok (.bipush 104, 2) := by decide +kernel
theorem dX12_isWorth_11 : decode cX12_isWorth 11 = .ok (.iconst 0, 1) := by decide +kernel
theorem dX12_isWorth_12 : decode cX12_isWorth 12 = .ok (.invokestatic 163, 3) := by decide +kernel
theorem dX12_isWorth_15 : decode cX12_isWorth 15 = .ok (.invokevirtual 167, 3) := by decide +kernel
theorem dX12_isWorth_18 : decode cX12_isWorth 18 = .ok (.ireturn, 1) := by decide +kernel
theorem dX12_isEaten_0 : decode cX12_isEaten 0 = .ok (.aload_n 0, 1) := by decide +kernel
theorem dX12_isEaten_1 : decode cX12_isEaten 1 = .ok (.bipush 101, 2) := by decide +kernel
theorem dX12_isEaten_3 : decode cX12_isEaten 3 = .ok (.bipush 97, 2) := by decide +kernel
theorem dX12_isEaten_5 : decode cX12_isEaten 5 = .ok (.bipush 116, 2) := by decide +kernel
theorem dX12_isEaten_7 : decode cX12_isEaten 7 = .ok (.bipush 101, 2) := by decide +kernel
theorem dX12_isEaten_9 : decode cX12_isEaten 9 = .ok (.bipush 110, 2) := by decide +kernel
theorem dX12_isEaten_11 : decode cX12_isEaten 11 = .ok (.iconst 0, 1) := by decide +kernel
theorem dX12_isEaten_12 : decode cX12_isEaten 12 = .ok (.invokestatic 163, 3) := by decide +kernel
theorem dX12_isEaten_15 : decode cX12_isEaten 15 = .ok (.invokevirtual 167, 3) := by decide +kernel
theorem dX12_isEaten_18 : decode cX12_isEaten 18 = .ok (.ireturn, 1) := by decide +kernel
theorem dX12_isStays_0 : decode cX12_isStays 0 = .ok (.aload_n 0, 1) := by decide +kernel
theorem dX12_isStays_1 : decode cX12_isStays 1 = .ok (.bipush 115, 2) := by decide +kernel
theorem dX12_isStays_3 : decode cX12_isStays 3 = .ok (.bipush 116, 2) := by decide +kernel
theorem dX12_isStays_5 : decode cX12_isStays 5 = .ok (.bipush 97, 2) := by decide +kernel
theorem dX12_isStays_7 : decode cX12_isStays 7 = .ok (.bipush 121, 2) := by decide +kernel
theorem dX12_isStays_9 : decode cX12_isStays 9 = .ok (.bipush 115, 2) := by decide +kernel
theorem dX12_isStays_11 : decode cX12_isStays 11 = .ok (.iconst 0, 1) := by decide +kernel
theorem dX12_isStays_12 : decode cX12_isStays 12 = .ok (.invokestatic 163, 3) := by decide +kernel
theorem dX12_isStays_15 : decode cX12_isStays 15 = .ok (.invokevirtual 167, 3) := by decide +kernel
theorem dX12_isStays_18 : decode cX12_isStays 18 = .ok (.ireturn, 1) := by decide +kernel
theorem dX12_isWorn_0 : decode cX12_isWorn 0 = .ok (.aload_n 0, 1) := by decide +kernel
theorem dX12_isWorn_1 : decode cX12_isWorn 1 = .ok (.bipush 119, 2) := by decide +kernel
theorem dX12_isWorn_3 : decode cX12_isWorn 3 = .ok (.bipush 111, 2) := by decide +kernel
theorem dX12_isWorn_5 : decode cX12_isWorn 5 = .ok (.bipush 114, 2) := by decide +kernel
theorem dX12_isWorn_7 : decode cX12_isWorn 7 = .ok (.bipush 110, 2) := by decide +kernel
theorem dX12_isWorn_9 : decode cX12_isWorn 9 = .ok (.iconst 0, 1) := by decide +kernel
theorem dX12_isWorn_10 : decode cX12_isWorn 10 = .ok (.iconst 0, 1) := by decide +kernel
theorem dX12_isWorn_11 : decode cX12_isWorn 11 = .ok (.invokestatic 163, 3) := by decide +kernel
theorem dX12_isWorn_14 : decode cX12_isWorn 14 = .ok (.invokevirtual 167, 3) := by decide +kernel
theorem dX12_isWorn_17 : decode cX12_isWorn 17 = .ok (.ireturn, 1) := by decide +kernel
theorem dX12_isHeld_0 : decode cX12_isHeld 0 = .ok (.aload_n 0, 1) := by decide +kernel
theorem dX12_isHeld_1 : decode cX12_isHeld 1 = .ok (.bipush 104, 2) := by decide +kernel
theorem dX12_isHeld_3 : decode cX12_isHeld 3 = .ok (.bipush 101, 2) := by decide +kernel
theorem dX12_isHeld_5 : decode cX12_isHeld 5 = .ok (.bipush 108, 2) := by decide +kernel
theorem dX12_isHeld_7 : decode cX12_isHeld 7 = .ok (.bipush 100, 2) := by decide +kernel
theorem dX12_isHeld_9 : decode cX12_isHeld 9 = .ok (.iconst 0, 1) := by decide +kernel
theorem dX12_isHeld_10 : decode cX12_isHeld 10 = .ok (.iconst 0, 1) := by decide +kernel
theorem dX12_isHeld_11 : decode cX12_isHeld 11 = .ok (.invokestatic 163, 3) := by decide +kernel
theorem dX12_isHeld_14 : decode cX12_isHeld 14 = .ok (.invokevirtual 167, 3) := by decide +kernel
theorem dX12_isHeld_17 : decode cX12_isHeld 17 = .ok (.ireturn, 1) := by decide +kernel
theorem dX12_isSent_0 : decode cX12_isSent 0 = .ok (.aload_n 0, 1) := by decide +kernel
theorem dX12_isSent_1 : decode cX12_isSent 1 = .ok (.bipush 115, 2) := by decide +kernel
theorem dX12_isSent_3 : decode cX12_isSent 3 = .ok (.bipush 101, 2) := by decide +kernel
theorem dX12_isSent_5 : decode cX12_isSent 5 = .ok (.bipush 110, 2) := by decide +kernel
theorem dX12_isSent_7 : decode cX12_isSent 7 = .ok (.bipush 116, 2) := by decide +kernel
theorem dX12_isSent_9 : decode cX12_isSent 9 = .ok (.iconst 0, 1) := by decide +kernel
theorem dX12_isSent_10 : decode cX12_isSent 10 = .ok (.iconst 0, 1) := by decide +kernel
theorem dX12_isSent_11 : decode cX12_isSent 11 = .ok (.invokestatic 163, 3) := by decide +kernel
theorem dX12_isSent_14 : decode cX12_isSent 14 = .ok (.invokevirtual 167, 3) := by decide +kernel
theorem dX12_isSent_17 : decode cX12_isSent 17 = .ok (.ireturn, 1) := by decide +kernel
theorem dX12_isHere_0 : decode cX12_isHere 0 = .ok (.aload_n 0, 1) := by decide +kernel
theorem dX12_isHere_1 : decode cX12_isHere 1 = .ok (.bipush 104, 2) := by decide +kernel
theorem dX12_isHere_3 : decode cX12_isHere 3 = .ok (.bipush 101, 2) := by decide +kernel
theorem dX12_isHere_5 : decode cX12_isHere 5 = .ok (.bipush 114, 2) := by decide +kernel
theorem dX12_isHere_7 : decode cX12_isHere 7 = .ok (.bipush 101, 2) := by decide +kernel
theorem dX12_isHere_9 : decode cX12_isHere 9 = .ok (.iconst 0, 1) := by decide +kernel
theorem dX12_isHere_10 : decode cX12_isHere 10 = .ok (.iconst 0, 1) := by decide +kernel
theorem dX12_isHere_11 : decode cX12_isHere 11 = .ok (.invokestatic 163, 3) := by decide +kernel
theorem dX12_isHere_14 : decode cX12_isHere 14 = .ok (.invokevirtual 167, 3) := by decide +kernel
theorem dX12_isHere_17 : decode cX12_isHere 17 = .ok (.ireturn, 1) := by decide +kernel
theorem dX12_isDay_0 : decode cX12_isDay 0 = .ok (.aload_n 0, 1) := by decide +kernel
theorem dX12_isDay_1 : decode cX12_isDay 1 = .ok (.bipush 100, 2) := by decide +kernel
theorem dX12_isDay_3 : decode cX12_isDay 3 = .ok (.bipush 97, 2) := by decide +kernel
theorem dX12_isDay_5 : decode cX12_isDay 5 = .ok (.bipush 121, 2) := by decide +kernel
theorem dX12_isDay_7 : decode cX12_isDay 7 = .ok (.iconst 0, 1) := by decide +kernel
theorem dX12_isDay_8 : decode cX12_isDay 8 = .ok (.iconst 0, 1) := by decide +kernel
theorem dX12_isDay_9 : decode cX12_isDay 9 = .ok (.iconst 0, 1) := by decide +kernel
theorem dX12_isDay_10 : decode cX12_isDay 10 = .ok (.invokestatic 163, 3) := by decide +kernel
theorem dX12_isDay_13 : decode cX12_isDay 13 = .ok (.invokevirtual 167, 3) := by decide +kernel
theorem dX12_isDay_16 : decode cX12_isDay 16 = .ok (.ireturn, 1) := by decide +kernel
theorem dX12_isOr_0 : decode cX12_isOr 0 = .ok (.aload_n 0, 1) := by decide +kernel
theorem dX12_isOr_1 : decode cX12_isOr 1 = .ok (.bipush 111, 2) := by decide +kernel
theorem dX12_isOr_3 : decode cX12_isOr 3 = .ok (.bipush 114, 2) := by decide +kernel
theorem dX12_isOr_5 : decode cX12_isOr 5 = .ok (.iconst 0, 1) := by decide +kernel
theorem dX12_isOr_6 : decode cX12_isOr 6 = .ok (.iconst 0, 1) := by decide +kernel
theorem dX12_isOr_7 : decode cX12_isOr 7 = .ok (.iconst 0, 1) := by decide +kernel
theorem dX12_isOr_8 : decode cX12_isOr 8 = .ok (.iconst 0, 1) := by decide +kernel
theorem dX12_isOr_9 : decode cX12_isOr 9 = .ok (.invokestatic 163, 3) := by decide +kernel
theorem dX12_isOr_12 : decode cX12_isOr 12 = .ok (.invokevirtual 167, 3) := by decide +kernel
theorem dX12_isOr_15 : decode cX12_isOr 15 = .ok (.ireturn, 1) := by decide +kernel
theorem dX12_isAnd_0 : decode cX12_isAnd 0 = .ok (.aload_n 0, 1) := by decide +kernel
theorem dX12_isAnd_1 : decode cX12_isAnd 1 = .ok (.bipush 97, 2) := by decide +kernel
theorem dX12_isAnd_3 : decode cX12_isAnd 3 = .ok (.bipush 110, 2) := by decide +kernel
theorem dX12_isAnd_5 : decode cX12_isAnd 5 = .ok (.bipush 100, 2) := by decide +kernel
theorem dX12_isAnd_7 : decode cX12_isAnd 7 = .ok (.iconst 0, 1) := by decide +kernel
theorem dX12_isAnd_8 : decode cX12_isAnd 8 = .ok (.iconst 0, 1) := by decide +kernel
theorem dX12_isAnd_9 : decode cX12_isAnd 9 = .ok (.iconst 0, 1) := by decide +kernel
theorem dX12_isAnd_10 : decode cX12_isAnd 10 = .ok (.invokestatic 163, 3) := by decide +kernel
theorem dX12_isAnd_13 : decode cX12_isAnd 13 = .ok (.invokevirtual 167, 3) := by decide +kernel
theorem dX12_isAnd_16 : decode cX12_isAnd 16 = .ok (.ireturn, 1) := by decide +kernel
theorem dX12_isNot_0 : decode cX12_isNot 0 = .ok (.aload_n 0, 1) := by decide +kernel
theorem dX12_isNot_1 : decode cX12_isNot 1 = .ok (.bipush 110, 2) := by decide +kernel
theorem dX12_isNot_3 : decode cX12_isNot 3 = .ok (.bipush 111, 2) := by decide +kernel
theorem dX12_isNot_5 : decode cX12_isNot 5 = .ok (.bipush 116, 2) := by decide +kernel
theorem dX12_isNot_7 : decode cX12_isNot 7 = .ok (.iconst 0, 1) := by decide +kernel
theorem dX12_isNot_8 : decode cX12_isNot 8 = .ok (.iconst 0, 1) := by decide +kernel
theorem dX12_isNot_9 : decode cX12_isNot 9 = .ok (.iconst 0, 1) := by decide +kernel
theorem dX12_isNot_10 : decode cX12_isNot 10 = .ok (.invokestatic 163, 3) := by decide +kernel
theorem dX12_isNot_13 : decode cX12_isNot 13 = .ok (.invokevirtual 167, 3) := by decide +kernel
theorem dX12_isNot_16 : decode cX12_isNot 16 = .ok (.ireturn, 1) := by decide +kernel
theorem dX12_isBy_0 : decode cX12_isBy 0 = .ok (.aload_n 0, 1) := by decide +kernel
theorem dX12_isBy_1 : decode cX12_isBy 1 = .ok (.bipush 98, 2) := by decide +kernel
theorem dX12_isBy_3 : decode cX12_isBy 3 = .ok (.bipush 121, 2) := by decide +kernel
theorem dX12_isBy_5 : decode cX12_isBy 5 = .ok (.iconst 0, 1) := by decide +kernel
theorem dX12_isBy_6 : decode cX12_isBy 6 = .ok (.iconst 0, 1) := by decide +kernel
theorem dX12_isBy_7 : decode cX12_isBy 7 = .ok (.iconst 0, 1) := by decide +kernel
theorem dX12_isBy_8 : decode cX12_isBy 8 = .ok (.iconst 0, 1) := by decide +kernel
theorem dX12_isBy_9 : decode cX12_isBy 9 = .ok (.invokestatic 163, 3) := by decide +kernel
theorem dX12_isBy_12 : decode cX12_isBy 12 = .ok (.invokevirtual 167, 3) := by decide +kernel
theorem dX12_isBy_15 : decode cX12_isBy 15 = .ok (.ireturn, 1) := by decide +kernel
theorem dX12_isTownWord_0 : decode cX12_isTownWord 0 = .ok (.aload_n 0, 1) := by decide +kernel
theorem dX12_isTownWord_1 : decode cX12_isTownWord 1 = .ok (.invokevirtual 171, 3) := by decide +kernel
theorem dX12_isTownWord_4 : decode cX12_isTownWord 4 = .ok (.ifCond .ge 73, 3) := by decide +kernel
theorem dX12_isTownWord_7 : decode cX12_isTownWord 7 = .ok (.aload_n 0, 1) := by decide +kernel
theorem dX12_isTownWord_8 : decode cX12_isTownWord 8 = .ok (.invokevirtual 175, 3) := by decide +kernel
theorem dX12_isTownWord_11 : decode cX12_isTownWord 11 = .ok (.ifCond .ne 66, 3) := by decide +kernel
theorem dX12_isTownWord_14 : decode cX12_isTownWord 14 = .ok (.aload_n 0, 1) := by decide +kernel
theorem dX12_isTownWord_15 : decode cX12_isTownWord 15 = .ok (.invokevirtual 179, 3) := by decide +kernel
theorem dX12_isTownWord_18 : decode cX12_isTownWord 18 = .ok (.ifCond .ne 59, 3) := by decide +kernel
theorem dX12_isTownWord_21 : decode cX12_isTownWord 21 = .ok (.aload_n 0, 1) := by decide +kernel
theorem dX12_isTownWord_22 : decode cX12_isTownWord 22 = .ok (.invokevirtual 182, 3) := by decide +kernel
theorem dX12_isTownWord_25 : decode cX12_isTownWord 25 = .ok (.ifCond .ne 52, 3) := by decide +kernel
theorem dX12_isTownWord_28 : decode cX12_isTownWord 28 = .ok (.aload_n 0, 1) := by decide +kernel
theorem dX12_isTownWord_29 : decode cX12_isTownWord 29 = .ok (.invokevirtual 185, 3) := by decide +kernel
theorem dX12_isTownWord_32 : decode cX12_isTownWord 32 = .ok (.ifCond .ne 45, 3) := by decide +kernel
theorem dX12_isTownWord_35 : decode cX12_isTownWord 35 = .ok (.aload_n 0, 1) := by decide +kernel
theorem dX12_isTownWord_36 : decode cX12_isTownWord 36 = .ok (.invokevirtual 188, 3) := by decide +kernel
theorem dX12_isTownWord_39 : decode cX12_isTownWord 39 = .ok (.ifCond .ne 38, 3) := by decide +kernel
theorem dX12_isTownWord_42 : decode cX12_isTownWord 42 = .ok (.aload_n 0, 1) := by decide +kernel
theorem dX12_isTownWord_43 : decode cX12_isTownWord 43 = .ok (.invokevirtual 191, 3) := by decide +kernel
theorem dX12_isTownWord_46 : decode cX12_isTownWord 46 = .ok (.ifCond .ne 31, 3) := by decide +kernel
theorem dX12_isTownWord_49 : decode cX12_isTownWord 49 = .ok (.aload_n 0, 1) := by decide +kernel
theorem dX12_isTownWord_50 : decode cX12_isTownWord 50 = .ok (.invokevirtual 194, 3) := by decide +kernel
theorem dX12_isTownWord_53 : decode cX12_isTownWord 53 = .ok (.ifCond .ne 24, 3) := by decide +kernel
theorem dX12_isTownWord_56 : decode cX12_isTownWord 56 = .ok (.aload_n 0, 1) := by decide +kernel
theorem dX12_isTownWord_57 : decode cX12_isTownWord 57 = .ok (.invokevirtual 197, 3) := by decide +kernel
theorem dX12_isTownWord_60 : decode cX12_isTownWord 60 = .ok (.ifCond .ne 17, 3) := by decide +kernel
theorem dX12_isTownWord_63 : decode cX12_isTownWord 63 = .ok (.aload_n 0, 1) := by decide +kernel
theorem dX12_isTownWord_64 : decode cX12_isTownWord 64 = .ok (.invokevirtual 200, 3) := by decide +kernel
theorem dX12_isTownWord_67 : decode cX12_isTownWord 67 = .ok (.ifCond .ne 10, 3) := by decide +kernel
theorem dX12_isTownWord_70 : decode cX12_isTownWord 70 = .ok (.aload_n 0, 1) := by decide +kernel
theorem dX12_isTownWord_71 : decode cX12_isTownWord 71 = .ok (.invokevirtual 203, 3) := by decide +kernel
theorem dX12_isTownWord_74 : decode cX12_isTownWord 74 = .ok (.ifCond .eq 5, 3) := by decide +kernel
theorem dX12_isTownWord_77 : decode cX12_isTownWord 77 = .ok (.iconst 1, 1) := by decide +kernel
theorem dX12_isTownWord_78 : decode cX12_isTownWord 78 = .ok (.ireturn, 1) := by decide +kernel
theorem dX12_isTownWord_79 : decode cX12_isTownWord 79 = .ok (.aload_n 0, 1) := by decide +kernel
theorem dX12_isTownWord_80 : decode cX12_isTownWord 80 = .ok (.invokevirtual 206, 3) := by decide +kernel
theorem dX12_isTownWord_83 : decode cX12_isTownWord 83 = .ok (.ifCond .ne 52, 3) := by decide +kernel
theorem dX12_isTownWord_86 : decode cX12_isTownWord 86 = .ok (.aload_n 0, 1) := by decide +kernel
theorem dX12_isTownWord_87 : decode cX12_isTownWord 87 = .ok (.invokevirtual 209, 3) := by decide +kernel
theorem dX12_isTownWord_90 : decode cX12_isTownWord 90 = .ok (.ifCond .ne 45, 3) := by decide +kernel
theorem dX12_isTownWord_93 : decode cX12_isTownWord 93 = .ok (.aload_n 0, 1) := by decide +kernel
theorem dX12_isTownWord_94 : decode cX12_isTownWord 94 = .ok (.invokevirtual 212, 3) := by decide +kernel
theorem dX12_isTownWord_97 : decode cX12_isTownWord 97 = .ok (.ifCond .ne 38, 3) := by decide +kernel
theorem dX12_isTownWord_100 : decode cX12_isTownWord 100 = .ok (.aload_n 0, 1) := by decide +kernel
theorem dX12_isTownWord_101 : decode cX12_isTownWord 101 = .ok (.invokevirtual 215, 3) := by decide +kernel
theorem dX12_isTownWord_104 : decode cX12_isTownWord 104 = .ok (.ifCond .ne 31, 3) := by decide +kernel
theorem dX12_isTownWord_107 : decode cX12_isTownWord 107 = .ok (.aload_n 0, 1) := by decide +kernel
theorem dX12_isTownWord_108 : decode cX12_isTownWord 108 = .ok (.invokevirtual 218, 3) := by decide +kernel
theorem dX12_isTownWord_111 : decode cX12_isTownWord 111 = .ok (.ifCond .ne 24, 3) := by decide +kernel
theorem dX12_isTownWord_114 : decode cX12_isTownWord 114 = .ok (.aload_n 0, 1) := by decide +kernel
theorem dX12_isTownWord_115 : decode cX12_isTownWord 115 = .ok (.invokevirtual 221, 3) := by decide +kernel
theorem dX12_isTownWord_118 : decode cX12_isTownWord 118 = .ok (.ifCond .ne 17, 3) := by decide +kernel
theorem dX12_isTownWord_121 : decode cX12_isTownWord 121 = .ok (.aload_n 0, 1) := by decide +kernel
theorem dX12_isTownWord_122 : decode cX12_isTownWord 122 = .ok (.invokevirtual 224, 3) := by decide +kernel
theorem dX12_isTownWord_125 : decode cX12_isTownWord 125 = .ok (.ifCond .ne 10, 3) := by decide +kernel
theorem dX12_isTownWord_128 : decode cX12_isTownWord 128 = .ok (.aload_n 0, 1) := by decide +kernel
theorem dX12_isTownWord_129 : decode cX12_isTownWord 129 = .ok (.invokevirtual 227, 3) := by decide +kernel
theorem dX12_isTownWord_132 : decode cX12_isTownWord 132 = .ok (.ifCond .eq 5, 3) := by decide +kernel
theorem dX12_isTownWord_135 : decode cX12_isTownWord 135 = .ok (.iconst 1, 1) := by decide +kernel
theorem dX12_isTownWord_136 : decode cX12_isTownWord 136 = .ok (.ireturn, 1) := by decide +kernel
theorem dX12_isTownWord_137 : decode cX12_isTownWord 137 = .ok (.aload_n 0, 1) := by decide +kernel
theorem dX12_isTownWord_138 : decode cX12_isTownWord 138 = .ok (.invokevirtual 230, 3) := by decide +kernel
theorem dX12_isTownWord_141 : decode cX12_isTownWord 141 = .ok (.ifCond .ne 38, 3) := by decide +kernel
theorem dX12_isTownWord_144 : decode cX12_isTownWord 144 = .ok (.aload_n 0, 1) := by decide +kernel
theorem dX12_isTownWord_145 : decode cX12_isTownWord 145 = .ok (.invokevirtual 233, 3) := by decide +kernel
theorem dX12_isTownWord_148 : decode cX12_isTownWord 148 = .ok (.ifCond .ne 31, 3) := by decide +kernel
theorem dX12_isTownWord_151 : decode cX12_isTownWord 151 = .ok (.aload_n 0, 1) := by decide +kernel
theorem dX12_isTownWord_152 : decode cX12_isTownWord 152 = .ok (.invokevirtual 236, 3) := by decide +kernel
theorem dX12_isTownWord_155 : decode cX12_isTownWord 155 = .ok (.ifCond .ne 24, 3) := by decide +kernel
theorem dX12_isTownWord_158 : decode cX12_isTownWord 158 = .ok (.aload_n 0, 1) := by decide +kernel
theorem dX12_isTownWord_159 : decode cX12_isTownWord 159 = .ok (.invokevirtual 239, 3) := by decide +kernel
theorem dX12_isTownWord_162 : decode cX12_isTownWord 162 = .ok (.ifCond .ne 17, 3) := by decide +kernel
theorem dX12_isTownWord_165 : decode cX12_isTownWord 165 = .ok (.aload_n 0, 1) := by decide +kernel
theorem dX12_isTownWord_166 : decode cX12_isTownWord 166 = .ok (.invokevirtual 242, 3) := by decide +kernel
theorem dX12_isTownWord_169 : decode cX12_isTownWord 169 = .ok (.ifCond .ne 10, 3) := by decide +kernel
theorem dX12_isTownWord_172 : decode cX12_isTownWord 172 = .ok (.aload_n 0, 1) := by decide +kernel
theorem dX12_isTownWord_173 : decode cX12_isTownWord 173 = .ok (.invokevirtual 245, 3) := by decide +kernel
theorem dX12_isTownWord_176 : decode cX12_isTownWord 176 = .ok (.ifCond .eq 7, 3) := by decide +kernel
theorem dX12_isTownWord_179 : decode cX12_isTownWord 179 = .ok (.iconst 1, 1) := by decide +kernel
theorem dX12_isTownWord_180 : decode cX12_isTownWord 180 = .ok (.goto 4, 3) := by decide +kernel
theorem dX12_isTownWord_183 : decode cX12_isTownWord 183 = .ok (.iconst 0, 1) := by decide +kernel
theorem dX12_isTownWord_184 : decode cX12_isTownWord 184 = .ok (.ireturn, 1) := by decide +kernel
theorem dX12_isTownName_0 : decode cX12_isTownName 0 = .ok (.aload_n 0, 1) := by decide +kernel
theorem dX12_isTownName_1 : decode cX12_isTownName 1 = .ok (.getfield 138, 3) := by decide +kernel
theorem dX12_isTownName_4 : decode cX12_isTownName 4 = .ok (.iconst 1, 1) := by decide +kernel
theorem dX12_isTownName_5 : decode cX12_isTownName 5 = .ok (.if_icmp .ne 23, 3) := by decide +kernel
theorem dX12_isTownName_8 : decode cX12_isTownName 8 = .ok (.aload_n 0, 1) := by decide +kernel
theorem dX12_isTownName_9 : decode cX12_isTownName 9 = .ok (.getfield 151, 3) := by decide +kernel
theorem dX12_isTownName_12 : decode cX12_isTownName 12 = .ok (.bipush 8, 2) := by decide +kernel
theorem dX12_isTownName_14 : decode cX12_isTownName 14 = .ok (.if_icmp .gt 14, 3) := by decide +kernel
theorem dX12_isTownName_17 : decode cX12_isTownName 17 = .ok (.aload_n 0, 1) := by decide +kernel
theorem dX12_isTownName_18 : decode cX12_isTownName 18 = .ok (.invokevirtual 248, 3) := by decide +kernel
theorem dX12_isTownName_21 : decode cX12_isTownName 21 = .ok (.ifCond .ne 7, 3) := by decide +kernel
theorem dX12_isTownName_24 : decode cX12_isTownName 24 = .ok (.iconst 1, 1) := by decide +kernel
theorem dX12_isTownName_25 : decode cX12_isTownName 25 = .ok (.goto 4, 3) := by decide +kernel
theorem dX12_isTownName_28 : decode cX12_isTownName 28 = .ok (.iconst 0, 1) := by decide +kernel
theorem dX12_isTownName_29 : decode cX12_isTownName 29 = .ok (.ireturn, 1) := by decide +kernel
theorem dX12_fail_0 : decode cX12_fail 0 = .ok (.aload_n 0, 1) := by decide +kernel
theorem dX12_fail_1 : decode cX12_fail 1 = .ok (.getfield 251, 3) := by decide +kernel
theorem dX12_fail_4 : decode cX12_fail 4 = .ok (.ifCond .le 4, 3) := by decide +kernel
theorem dX12_fail_7 : decode cX12_fail 7 = .ok (.return_, 1) := by decide +kernel
theorem dX12_fail_8 : decode cX12_fail 8 = .ok (.aload_n 0, 1) := by decide +kernel
theorem dX12_fail_9 : decode cX12_fail 9 = .ok (.iload_n 1, 1) := by decide +kernel
theorem dX12_fail_10 : decode cX12_fail 10 = .ok (.putfield 251, 3) := by decide +kernel
theorem dX12_fail_13 : decode cX12_fail 13 = .ok (.aload_n 0, 1) := by decide +kernel
theorem dX12_fail_14 : decode cX12_fail 14 = .ok (.iload_n 2, 1) := by decide +kernel
theorem dX12_fail_15 : decode cX12_fail 15 = .ok (.putfield 254, 3) := by decide +kernel
theorem dX12_fail_18 : decode cX12_fail 18 = .ok (.return_, 1) := by decide +kernel
theorem dX12_wrong_0 : decode cX12_wrong 0 = .ok (.aload_n 0, 1) := by decide +kernel
theorem dX12_wrong_1 : decode cX12_wrong 1 = .ok (.aload_n 0, 1) := by decide +kernel
theorem dX12_wrong_2 : decode cX12_wrong 2 = .ok (.getfield 138, 3) := by decide +kernel
theorem dX12_wrong_5 : decode cX12_wrong 5 = .ok (.iconst 4, 1) := by decide +kernel
theorem dX12_wrong_6 : decode cX12_wrong 6 = .ok (.if_icmp .ne 7, 3) := by decide +kernel
theorem dX12_wrong_9 : decode cX12_wrong 9 = .ok (.iconst 1, 1) := by decide +kernel
theorem dX12_wrong_10 : decode cX12_wrong 10 = .ok (.goto 4, 3) := by decide +kernel
theorem dX12_wrong_13 : decode cX12_wrong 13 = .ok (.iconst 2, 1) := by decide +kernel
theorem dX12_wrong_14 : decode cX12_wrong 14 = .ok (.aload_n 0, 1) := by decide +kernel
theorem dX12_wrong_15 : decode cX12_wrong 15 = .ok (.getfield 132, 3) := by decide +kernel
theorem dX12_wrong_18 : decode cX12_wrong 18 = .ok (.invokevirtual 257, 3) := by decide +kernel
theorem dX12_wrong_21 : decode cX12_wrong 21 = .ok (.return_, 1) := by decide +kernel
theorem dX12_must_0 : decode cX12_must 0 = .ok (.aload_n 0, 1) := by decide +kernel
theorem dX12_must_1 : decode cX12_must 1 = .ok (.getfield 251, 3) := by decide +kernel
theorem dX12_must_4 : decode cX12_must 4 = .ok (.ifCond .le 4, 3) := by decide +kernel
theorem dX12_must_7 : decode cX12_must 7 = .ok (.return_, 1) := by decide +kernel
theorem dX12_must_8 : decode cX12_must 8 = .ok (.iload_n 1, 1) := by decide +kernel
theorem dX12_must_9 : decode cX12_must 9 = .ok (.ifCond .eq 10, 3) := by decide +kernel
theorem dX12_must_12 : decode cX12_must 12 = .ok (.aload_n 0, 1) := by decide +kernel
theorem dX12_must_13 : decode cX12_must 13 = .ok (.invokevirtual 261, 3) := by decide +kernel
theorem dX12_must_16 : decode cX12_must 16 = .ok (.goto 7, 3) := by decide +kernel
theorem dX12_must_19 : decode cX12_must 19 = .ok (.aload_n 0, 1) := by decide +kernel
theorem dX12_must_20 : decode cX12_must 20 = .ok (.invokevirtual 264, 3) := by decide +kernel
theorem dX12_must_23 : decode cX12_must 23 = .ok (.return_, 1) := by decide +kernel
theorem dX12_count_0 : decode cX12_count 0 = .ok (.aload_n 0, 1) := by decide +kernel
theorem dX12_count_1 : decode cX12_count 1 = .ok (.getfield 251, 3) := by decide +kernel
theorem dX12_count_4 : decode cX12_count 4 = .ok (.ifCond .ne 15, 3) := by decide +kernel
theorem dX12_count_7 : decode cX12_count 7 = .ok (.aload_n 0, 1) := by decide +kernel
theorem dX12_count_8 : decode cX12_count 8 = .ok (.getfield 138, 3) := by decide +kernel
theorem dX12_count_11 : decode cX12_count 11 = .ok (.iconst 2, 1) := by decide +kernel
theorem dX12_count_12 : decode cX12_count 12 = .ok (.if_icmp .eq 7, 3) := by decide +kernel
theorem dX12_count_15 : decode cX12_count 15 = .ok (.aload_n 0, 1) := by decide +kernel
theorem dX12_count_16 : decode cX12_count 16 = .ok (.invokevirtual 264, 3) := by decide +kernel
theorem dX12_count_19 : decode cX12_count 19 = .ok (.aload_n 0, 1) := by decide +kernel
theorem dX12_count_20 : decode cX12_count 20 = .ok (.getfield 251, 3) := by decide +kernel
theorem dX12_count_23 : decode cX12_count 23 = .ok (.ifCond .ne 27, 3) := by decide +kernel
theorem dX12_count_26 : decode cX12_count 26 = .ok (.aload_n 0, 1) := by decide +kernel
theorem dX12_count_27 : decode cX12_count 27 = .ok (.getfield 157, 3) := by decide +kernel
theorem dX12_count_30 : decode cX12_count 30 = .ok (.i2l, 1) := by decide +kernel
theorem dX12_count_31 : decode cX12_count 31 = .ok (.iload_n 1, 1) := by decide +kernel
theorem dX12_count_32 : decode cX12_count 32 = .ok (.i2l, 1) := by decide +kernel
theorem dX12_count_33 : decode cX12_count 33 = .ok (.iload_n 2, 1) := by decide +kernel
theorem dX12_count_34 : decode cX12_count 34 = .ok (.i2l, 1) := by decide +kernel
theorem dX12_count_35 : decode cX12_count 35 = .ok (.invokestatic 122, 3) := by decide +kernel
theorem dX12_count_38 : decode cX12_count 38 = .ok (.ifCond .ne 12, 3) := by decide +kernel
theorem dX12_count_41 : decode cX12_count 41 = .ok (.aload_n 0, 1) := by decide +kernel
theorem dX12_count_42 : decode cX12_count 42 = .ok (.iconst 4, 1) := by decide +kernel
theorem dX12_count_43 : decode cX12_count 43 = .ok (.aload_n 0, 1) := by decide +kernel
theorem dX12_count_44 : decode cX12_count 44 = .ok (.getfield 132, 3) := by decide +kernel
theorem dX12_count_47 : decode cX12_count 47 = .ok (.invokevirtual 257, 3) := by decide +kernel
theorem dX12_count_50 : decode cX12_count 50 = .ok (.aload_n 0, 1) := by decide +kernel
theorem dX12_count_51 : decode cX12_count 51 = .ok (.getfield 251, 3) := by decide +kernel
theorem dX12_count_54 : decode cX12_count 54 = .ok (.ifCond .le 5, 3) := by decide +kernel
theorem dX12_count_57 : decode cX12_count 57 = .ok (.iconst 0, 1) := by decide +kernel
theorem dX12_count_58 : decode cX12_count 58 = .ok (.ireturn, 1) := by decide +kernel
theorem dX12_count_59 : decode cX12_count 59 = .ok (.aload_n 0, 1) := by decide +kernel
theorem dX12_count_60 : decode cX12_count 60 = .ok (.getfield 157, 3) := by decide +kernel
theorem dX12_count_63 : decode cX12_count 63 = .ok (.istore_n 3, 1) := by decide +kernel
theorem dX12_count_64 : decode cX12_count 64 = .ok (.aload_n 0, 1) := by decide +kernel
theorem dX12_count_65 : decode cX12_count 65 = .ok (.invokevirtual 261, 3) := by decide +kernel
theorem dX12_count_68 : decode cX12_count 68 = .ok (.iload_n 3, 1) := by decide +kernel
theorem dX12_count_69 : decode cX12_count 69 = .ok (.ireturn, 1) := by decide +kernel
theorem dX12_feed_0 : decode cX12_feed 0 = .ok (.aload_n 0, 1) := by decide +kernel
theorem dX12_feed_1 : decode cX12_feed 1 = .ok (.iconst 0, 1) := by decide +kernel
theorem dX12_feed_2 : decode cX12_feed 2 = .ok (.putfield 87, 3) := by decide +kernel
theorem dX12_feed_5 : decode cX12_feed 5 = .ok (.aload_n 0, 1) := by decide +kernel
theorem dX12_feed_6 : decode cX12_feed 6 = .ok (.getfield 267, 3) := by decide +kernel
theorem dX12_feed_9 : decode cX12_feed 9 = .ok (.bipush 20, 2) := by decide +kernel
theorem dX12_feed_11 : decode cX12_feed 11 = .ok (.iadd, 1) := by decide +kernel
theorem dX12_feed_12 : decode cX12_feed 12 = .ok (.sipush 800, 3) := by decide +kernel
theorem dX12_feed_15 : decode cX12_feed 15 = .ok (.if_icmp .le 5, 3) := by decide +kernel
theorem dX12_feed_18 : decode cX12_feed 18 = .ok (.iconst (-1), 1) := by decide +kernel
theorem dX12_feed_19 : decode cX12_feed 19 = .ok (.ireturn, 1) := by decide +kernel
theorem dX12_feed_20 : decode cX12_feed 20 = .ok (.aload_n 0, 1) := by decide +kernel
theorem dX12_feed_21 : decode cX12_feed 21 = .ok (.iload_n 1, 1) := by decide +kernel
theorem dX12_feed_22 : decode cX12_feed 22 = .ok (.invokevirtual 270, 3) := by decide +kernel
theorem dX12_feed_25 : decode cX12_feed 25 = .ok (.aload_n 0, 1) := by decide +kernel
theorem dX12_feed_26 : decode cX12_feed 26 = .ok (.iload_n 2, 1) := by decide +kernel
theorem dX12_feed_27 : decode cX12_feed 27 = .ok (.invokevirtual 270, 3) := by decide +kernel
theorem dX12_feed_30 : decode cX12_feed 30 = .ok (.aload_n 0, 1) := by decide +kernel
theorem dX12_feed_31 : decode cX12_feed 31 = .ok (.iload_n 3, 1) := by decide +kernel
theorem dX12_feed_32 : decode cX12_feed 32 = .ok (.invokevirtual 270, 3) := by decide +kernel
theorem dX12_feed_35 : decode cX12_feed 35 = .ok (.aload_n 0, 1) := by decide +kernel
theorem dX12_feed_36 : decode cX12_feed 36 = .ok (.iload 4, 2) := by decide +kernel
theorem dX12_feed_38 : decode cX12_feed 38 = .ok (.invokevirtual 270, 3) := by decide +kernel
theorem dX12_feed_41 : decode cX12_feed 41 = .ok (.aload_n 0, 1) := by decide +kernel
theorem dX12_feed_42 : decode cX12_feed 42 = .ok (.iload 5, 2) := by decide +kernel
theorem dX12_feed_44 : decode cX12_feed 44 = .ok (.invokevirtual 270, 3) := by decide +kernel
theorem dX12_feed_47 : decode cX12_feed 47 = .ok (.aload_n 0, 1) := by decide +kernel
theorem dX12_feed_48 : decode cX12_feed 48 = .ok (.getfield 267, 3) := by decide +kernel
theorem dX12_feed_51 : decode cX12_feed 51 = .ok (.ireturn, 1) := by decide +kernel
theorem dX12_lay_0 : decode cX12_lay 0 = .ok (.iconst 3, 1) := by decide +kernel
theorem dX12_lay_1 : decode cX12_lay 1 = .ok (.istore_n 2, 1) := by decide +kernel
theorem dX12_lay_2 : decode cX12_lay 2 = .ok (.iload_n 2, 1) := by decide +kernel
theorem dX12_lay_3 : decode cX12_lay 3 = .ok (.ifCond .lt 35, 3) := by decide +kernel
theorem dX12_lay_6 : decode cX12_lay 6 = .ok (.aload_n 0, 1) := by decide +kernel
theorem dX12_lay_7 : decode cX12_lay 7 = .ok (.getfield 24, 3) := by decide +kernel
theorem dX12_lay_10 : decode cX12_lay 10 = .ok (.aload_n 0, 1) := by decide +kernel
theorem dX12_lay_11 : decode cX12_lay 11 = .ok (.getfield 267, 3) := by decide +kernel
theorem dX12_lay_14 : decode cX12_lay 14 = .ok (.iload_n 1, 1) := by decide +kernel
theorem dX12_lay_15 : decode cX12_lay 15 = .ok (.bipush 8, 2) := by decide +kernel
theorem dX12_lay_17 : decode cX12_lay 17 = .ok (.iload_n 2, 1) := by decide +kernel
theorem dX12_lay_18 : decode cX12_lay 18 = .ok (.imul, 1) := by decide +kernel
theorem dX12_lay_19 : decode cX12_lay 19 = .ok (.ishr, 1) := by decide +kernel
theorem dX12_lay_20 : decode cX12_lay 20 = .ok (.i2b, 1) := by decide +kernel
theorem dX12_lay_21 : decode cX12_lay 21 = .ok (.bastore, 1) := by decide +kernel
theorem dX12_lay_22 : decode cX12_lay 22 = .ok (.aload_n 0, 1) := by decide +kernel
theorem dX12_lay_23 : decode cX12_lay 23 = .ok (.dup, 1) := by decide +kernel
theorem dX12_lay_24 : decode cX12_lay 24 = .ok (.getfield 267, 3) := by decide +kernel
theorem dX12_lay_27 : decode cX12_lay 27 = .ok (.iconst 1, 1) := by decide +kernel
theorem dX12_lay_28 : decode cX12_lay 28 = .ok (.iadd, 1) := by decide +kernel
theorem dX12_lay_29 : decode cX12_lay 29 = .ok (.putfield 267, 3) := by decide +kernel
theorem dX12_lay_32 : decode cX12_lay 32 = .ok (.iinc 2 (-1), 3) := by decide +kernel
theorem dX12_lay_35 : decode cX12_lay 35 = .ok (.goto (-33), 3) := by decide +kernel
theorem dX12_lay_38 : decode cX12_lay 38 = .ok (.return_, 1) := by decide +kernel
theorem dX12_opens_0 : decode cX12_opens 0 = .ok (.iload_n 1, 1) := by decide +kernel
theorem dX12_opens_1 : decode cX12_opens 1 = .ok (.ifCond .lt 16, 3) := by decide +kernel
theorem dX12_opens_4 : decode cX12_opens 4 = .ok (.iload_n 1, 1) := by decide +kernel
theorem dX12_opens_5 : decode cX12_opens 5 = .ok (.aload_n 0, 1) := by decide +kernel
theorem dX12_opens_6 : decode cX12_opens 6 = .ok (.getfield 267, 3) := by decide +kernel
theorem dX12_opens_9 : decode cX12_opens 9 = .ok (.if_icmp .gt 8, 3) := by decide +kernel
theorem dX12_opens_12 : decode cX12_opens 12 = .ok (.iload_n 1, 1) := by decide +kernel
theorem dX12_opens_13 : decode cX12_opens 13 = .ok (.iload_n 2, 1) := by decide +kernel
theorem dX12_opens_14 : decode cX12_opens 14 = .ok (.if_icmp .le 9, 3) := by decide +kernel
theorem dX12_opens_17 : decode cX12_opens 17 = .ok (.aload_n 0, 1) := by decide +kernel
theorem dX12_opens_18 : decode cX12_opens 18 = .ok (.iconst 5, 1) := by decide +kernel
theorem dX12_opens_19 : decode cX12_opens 19 = .ok (.invokevirtual 102, 3) := by decide +kernel
theorem dX12_opens_22 : decode cX12_opens 22 = .ok (.ireturn, 1) := by decide +kernel
theorem dX12_opens_23 : decode cX12_opens 23 = .ok (.aload_n 0, 1) := by decide +kernel
theorem dX12_opens_24 : decode cX12_opens 24 = .ok (.iload_n 1, 1) := by decide +kernel
theorem dX12_opens_25 : decode cX12_opens 25 = .ok (.putfield 126, 3) := by decide +kernel
theorem dX12_opens_28 : decode cX12_opens 28 = .ok (.aload_n 0, 1) := by decide +kernel
theorem dX12_opens_29 : decode cX12_opens 29 = .ok (.iconst 0, 1) := by decide +kernel
theorem dX12_opens_30 : decode cX12_opens 30 = .ok (.putfield 267, 3) := by decide +kernel
theorem dX12_opens_33 : decode cX12_opens 33 = .ok (.aload_n 0, 1) := by decide +kernel
theorem dX12_opens_34 : decode cX12_opens 34 = .ok (.iconst 0, 1) := by decide +kernel
theorem dX12_opens_35 : decode cX12_opens 35 = .ok (.putfield 129, 3) := by decide +kernel
theorem dX12_opens_38 : decode cX12_opens 38 = .ok (.aload_n 0, 1) := by decide +kernel
theorem dX12_opens_39 : decode cX12_opens 39 = .ok (.iconst 0, 1) := by decide +kernel
theorem dX12_opens_40 : decode cX12_opens 40 = .ok (.putfield 251, 3) := by decide +kernel
theorem dX12_opens_43 : decode cX12_opens 43 = .ok (.aload_n 0, 1) := by decide +kernel
theorem dX12_opens_44 : decode cX12_opens 44 = .ok (.invokevirtual 261, 3) := by decide +kernel
theorem dX12_opens_47 : decode cX12_opens 47 = .ok (.iconst 1, 1) := by decide +kernel
theorem dX12_opens_48 : decode cX12_opens 48 = .ok (.ireturn, 1) := by decide +kernel
theorem dX12_isWell_0 : decode cX12_isWell 0 = .ok (.aload_n 0, 1) := by decide +kernel
theorem dX12_isWell_1 : decode cX12_isWell 1 = .ok (.aload_n 0, 1) := by decide +kernel
theorem dX12_isWell_2 : decode cX12_isWell 2 = .ok (.getfield 251, 3) := by decide +kernel
theorem dX12_isWell_5 : decode cX12_isWell 5 = .ok (.putfield 28, 3) := by decide +kernel
theorem dX12_isWell_8 : decode cX12_isWell 8 = .ok (.aload_n 0, 1) := by decide +kernel
theorem dX12_isWell_9 : decode cX12_isWell 9 = .ok (.aload_n 0, 1) := by decide +kernel
theorem dX12_isWell_10 : decode cX12_isWell 10 = .ok (.getfield 251, 3) := by decide +kernel
theorem dX12_isWell_13 : decode cX12_isWell 13 = .ok (.ifCond .ne 7, 3) := by decide +kernel
theorem dX12_isWell_16 : decode cX12_isWell 16 = .ok (.iconst (-1), 1) := by decide +kernel
theorem dX12_isWell_17 : decode cX12_isWell 17 = .ok (.goto 7, 3) := by decide +kernel
theorem dX12_isWell_20 : decode cX12_isWell 20 = .ok (.aload_n 0, 1) := by decide +kernel
theorem dX12_isWell_21 : decode cX12_isWell 21 = .ok (.getfield 254, 3) := by decide +kernel
theorem dX12_isWell_24 : decode cX12_isWell 24 = .ok (.putfield 32, 3) := by decide +kernel
theorem dX12_isWell_27 : decode cX12_isWell 27 = .ok (.aload_n 0, 1) := by decide +kernel
theorem dX12_isWell_28 : decode cX12_isWell 28 = .ok (.getfield 251, 3) := by decide +kernel
theorem dX12_isWell_31 : decode cX12_isWell 31 = .ok (.ifCond .eq 12, 3) := by decide +kernel
theorem dX12_isWell_34 : decode cX12_isWell 34 = .ok (.aload_n 0, 1) := by decide +kernel
theorem dX12_isWell_35 : decode cX12_isWell 35 = .ok (.bipush 10, 2) := by decide +kernel
theorem dX12_isWell_37 : decode cX12_isWell 37 = .ok (.invokevirtual 102, 3) := by decide +kernel
theorem dX12_isWell_40 : decode cX12_isWell 40 = .ok (.ifCond .eq 7, 3) := by decide +kernel
theorem dX12_isWell_43 : decode cX12_isWell 43 = .ok (.iconst 1, 1) := by decide +kernel
theorem dX12_isWell_44 : decode cX12_isWell 44 = .ok (.goto 4, 3) := by decide +kernel
theorem dX12_isWell_47 : decode cX12_isWell 47 = .ok (.iconst 0, 1) := by decide +kernel
theorem dX12_isWell_48 : decode cX12_isWell 48 = .ok (.ireturn, 1) := by decide +kernel
theorem dX12_fault_0 : decode cX12_fault 0 = .ok (.aload_n 0, 1) := by decide +kernel
theorem dX12_fault_1 : decode cX12_fault 1 = .ok (.iconst 0, 1) := by decide +kernel
theorem dX12_fault_2 : decode cX12_fault 2 = .ok (.putfield 87, 3) := by decide +kernel
theorem dX12_fault_5 : decode cX12_fault 5 = .ok (.iload_n 1, 1) := by decide +kernel
theorem dX12_fault_6 : decode cX12_fault 6 = .ok (.ifCond .ne 10, 3) := by decide +kernel
theorem dX12_fault_9 : decode cX12_fault 9 = .ok (.aload_n 0, 1) := by decide +kernel
theorem dX12_fault_10 : decode cX12_fault 10 = .ok (.getfield 28, 3) := by decide +kernel
theorem dX12_fault_13 : decode cX12_fault 13 = .ok (.goto 16, 3) := by decide +kernel
theorem dX12_fault_16 : decode cX12_fault 16 = .ok (.iload_n 1, 1) := by decide +kernel
theorem dX12_fault_17 : decode cX12_fault 17 = .ok (.iconst 1, 1) := by decide +kernel
theorem dX12_fault_18 : decode cX12_fault 18 = .ok (.if_icmp .ne 10, 3) := by decide +kernel
theorem dX12_fault_21 : decode cX12_fault 21 = .ok (.aload_n 0, 1) := by decide +kernel
theorem dX12_fault_22 : decode cX12_fault 22 = .ok (.getfield 32, 3) := by decide +kernel
theorem dX12_fault_25 : decode cX12_fault 25 = .ok (.goto 4, 3) := by decide +kernel
theorem dX12_fault_28 : decode cX12_fault 28 = .ok (.iconst (-1), 1) := by decide +kernel
theorem dX12_fault_29 : decode cX12_fault 29 = .ok (.ireturn, 1) := by decide +kernel
theorem dX12_named_0 : decode cX12_named 0 = .ok (.iconst 0, 1) := by decide +kernel
theorem dX12_named_1 : decode cX12_named 1 = .ok (.istore 4, 2) := by decide +kernel
theorem dX12_named_3 : decode cX12_named 3 = .ok (.iload 4, 2) := by decide +kernel
theorem dX12_named_5 : decode cX12_named 5 = .ok (.iload_n 3, 1) := by decide +kernel
theorem dX12_named_6 : decode cX12_named 6 = .ok (.if_icmp .ge 34, 3) := by decide +kernel
theorem dX12_named_9 : decode cX12_named 9 = .ok (.aload_n 0, 1) := by decide +kernel
theorem dX12_named_10 : decode cX12_named 10 = .ok (.getfield 38, 3) := by decide +kernel
theorem dX12_named_13 : decode cX12_named 13 = .ok (.bipush 26, 2) := by decide +kernel
theorem dX12_named_15 : decode cX12_named 15 = .ok (.iload_n 1, 1) := by decide +kernel
theorem dX12_named_16 : decode cX12_named 16 = .ok (.imul, 1) := by decide +kernel
theorem dX12_named_17 : decode cX12_named 17 = .ok (.iload_n 2, 1) := by decide +kernel
theorem dX12_named_18 : decode cX12_named 18 = .ok (.iadd, 1) := by decide +kernel
theorem dX12_named_19 : decode cX12_named 19 = .ok (.iload 4, 2) := by decide +kernel
theorem dX12_named_21 : decode cX12_named 21 = .ok (.iadd, 1) := by decide +kernel
theorem dX12_named_22 : decode cX12_named 22 = .ok (.laload, 1) := by decide +kernel
theorem dX12_named_23 : decode cX12_named 23 = .ok (.aload_n 0, 1) := by decide +kernel
theorem dX12_named_24 : decode cX12_named 24 = .ok (.getfield 144, 3) := by decide +kernel
theorem dX12_named_27 : decode cX12_named 27 = .ok (.lcmp, 1) := by decide +kernel
theorem dX12_named_28 : decode cX12_named 28 = .ok (.ifCond .ne 6, 3) := by decide +kernel
theorem dX12_named_31 : decode cX12_named 31 = .ok (.iload 4, 2) := by decide +kernel
theorem dX12_named_33 : decode cX12_named 33 = .ok (.ireturn, 1) := by decide +kernel
theorem dX12_named_34 : decode cX12_named 34 = .ok (.iinc 4 1, 3) := by decide +kernel
theorem dX12_named_37 : decode cX12_named 37 = .ok (.goto (-34), 3) := by decide +kernel
theorem dX12_named_40 : decode cX12_named 40 = .ok (.iconst (-1), 1) := by decide +kernel
theorem dX12_named_41 : decode cX12_named 41 = .ok (.ireturn, 1) := by decide +kernel
theorem dX12_isTaken_0 : decode cX12_isTaken 0 = .ok (.aload_n 0, 1) := by decide +kernel
theorem dX12_isTaken_1 : decode cX12_isTaken 1 = .ok (.iconst 4, 1) := by decide +kernel
theorem dX12_isTaken_2 : decode cX12_isTaken 2 = .ok (.iconst 0, 1) := by decide +kernel
theorem dX12_isTaken_3 : decode cX12_isTaken 3 = .ok (.aload_n 0, 1) := by decide +kernel
theorem dX12_isTaken_4 : decode cX12_isTaken 4 = .ok (.getfield 35, 3) := by decide +kernel
theorem dX12_isTaken_7 : decode cX12_isTaken 7 = .ok (.sipush 2600, 3) := by decide +kernel
theorem dX12_isTaken_10 : decode cX12_isTaken 10 = .ok (.iaload, 1) := by decide +kernel
theorem dX12_isTaken_11 : decode cX12_isTaken 11 = .ok (.invokevirtual 274, 3) := by decide +kernel
theorem dX12_isTaken_14 : decode cX12_isTaken 14 = .ok (.ifCond .ge 39, 3) := by decide +kernel
theorem dX12_isTaken_17 : decode cX12_isTaken 17 = .ok (.aload_n 0, 1) := by decide +kernel
theorem dX12_isTaken_18 : decode cX12_isTaken 18 = .ok (.iconst 4, 1) := by decide +kernel
theorem dX12_isTaken_19 : decode cX12_isTaken 19 = .ok (.bipush 8, 2) := by decide +kernel
theorem dX12_isTaken_21 : decode cX12_isTaken 21 = .ok (.aload_n 0, 1) := by decide +kernel
theorem dX12_isTaken_22 : decode cX12_isTaken 22 = .ok (.getfield 35, 3) := by decide +kernel
theorem dX12_isTaken_25 : decode cX12_isTaken 25 = .ok (.sipush 2601, 3) := by decide +kernel
theorem dX12_isTaken_28 : decode cX12_isTaken 28 = .ok (.iaload, 1) := by decide +kernel
theorem dX12_isTaken_29 : decode cX12_isTaken 29 = .ok (.invokevirtual 274, 3) := by decide +kernel
theorem dX12_isTaken_32 : decode cX12_isTaken 32 = .ok (.ifCond .ge 21, 3) := by decide +kernel
theorem dX12_isTaken_35 : decode cX12_isTaken 35 = .ok (.aload_n 0, 1) := by decide +kernel
theorem dX12_isTaken_36 : decode cX12_isTaken 36 = .ok (.iconst 4, 1) := by decide +kernel
theorem dX12_isTaken_37 : decode cX12_isTaken 37 = .ok (.bipush 20, 2) := by decide +kernel
theorem dX12_isTaken_39 : decode cX12_isTaken 39 = .ok (.aload_n 0, 1) := by decide +kernel
theorem dX12_isTaken_40 : decode cX12_isTaken 40 = .ok (.getfield 35, 3) := by decide +kernel
theorem dX12_isTaken_43 : decode cX12_isTaken 43 = .ok (.sipush 2602, 3) := by decide +kernel
theorem dX12_isTaken_46 : decode cX12_isTaken 46 = .ok (.iaload, 1) := by decide +kernel
theorem dX12_isTaken_47 : decode cX12_isTaken 47 = .ok (.invokevirtual 274, 3) := by decide +kernel
theorem dX12_isTaken_50 : decode cX12_isTaken 50 = .ok (.ifCond .lt 7, 3) := by decide +kernel
theorem dX12_isTaken_53 : decode cX12_isTaken 53 = .ok (.iconst 1, 1) := by decide +kernel
theorem dX12_isTaken_54 : decode cX12_isTaken 54 = .ok (.goto 4, 3) := by decide +kernel
theorem dX12_isTaken_57 : decode cX12_isTaken 57 = .ok (.iconst 0, 1) := by decide +kernel
theorem dX12_isTaken_58 : decode cX12_isTaken 58 = .ok (.ireturn, 1) := by decide +kernel
theorem dX12_readNew_0 : decode cX12_readNew 0 = .ok (.aload_n 0, 1) := by decide +kernel
theorem dX12_readNew_1 : decode cX12_readNew 1 = .ok (.getfield 35, 3) := by decide +kernel
theorem dX12_readNew_4 : decode cX12_readNew 4 = .ok (.sipush 2600, 3) := by decide +kernel
theorem dX12_readNew_7 : decode cX12_readNew 7 = .ok (.iload_n 1, 1) := by decide +kernel
theorem dX12_readNew_8 : decode cX12_readNew 8 = .ok (.iadd, 1) := by decide +kernel
theorem dX12_readNew_9 : decode cX12_readNew 9 = .ok (.iaload, 1) := by decide +kernel
theorem dX12_readNew_10 : decode cX12_readNew 10 = .ok (.istore 4, 2) := by decide +kernel
theorem dX12_readNew_12 : decode cX12_readNew 12 = .ok (.aload_n 0, 1) := by decide +kernel
theorem dX12_readNew_13 : decode cX12_readNew 13 = .ok (.getfield 251, 3) := by decide +kernel
theorem dX12_readNew_16 : decode cX12_readNew 16 = .ok (.ifCond .ne 19, 3) := by decide +kernel
theorem dX12_readNew_19 : decode cX12_readNew 19 = .ok (.iload 4, 2) := by decide +kernel
theorem dX12_readNew_21 : decode cX12_readNew 21 = .ok (.iload_n 2, 1) := by decide +kernel
theorem dX12_readNew_22 : decode cX12_readNew 22 = .ok (.if_icmp .ne 13, 3) := by decide +kernel
theorem dX12_readNew_25 : decode cX12_readNew 25 = .ok (.aload_n 0, 1) := by decide +kernel
theorem dX12_readNew_26 : decode cX12_readNew 26 = .ok (.bipush 6, 2) := by decide +kernel
theorem dX12_readNew_28 : decode cX12_readNew 28 = .ok (.aload_n 0, 1) := by decide +kernel
theorem dX12_readNew_29 : decode cX12_readNew 29 = .ok (.getfield 132, 3) := by decide +kernel
theorem dX12_readNew_32 : decode cX12_readNew 32 = .ok (.invokevirtual 257, 3) := by decide +kernel
theorem dX12_readNew_35 : decode cX12_readNew 35 = .ok (.aload_n 0, 1) := by decide +kernel
theorem dX12_readNew_36 : decode cX12_readNew 36 = .ok (.getfield 251, 3) := by decide +kernel
theorem dX12_readNew_39 : decode cX12_readNew 39 = .ok (.ifCond .le 5, 3) := by decide +kernel
theorem dX12_readNew_42 : decode cX12_readNew 42 = .ok (.iconst 0, 1) := by decide +kernel
theorem dX12_readNew_43 : decode cX12_readNew 43 = .ok (.ireturn, 1) := by decide +kernel
theorem dX12_readNew_44 : decode cX12_readNew 44 = .ok (.aload_n 0, 1) := by decide +kernel
theorem dX12_readNew_45 : decode cX12_readNew 45 = .ok (.invokevirtual 261, 3) := by decide +kernel
theorem dX12_readNew_48 : decode cX12_readNew 48 = .ok (.aload_n 0, 1) := by decide +kernel
theorem dX12_readNew_49 : decode cX12_readNew 49 = .ok (.invokevirtual 278, 3) := by decide +kernel
theorem dX12_readNew_52 : decode cX12_readNew 52 = .ok (.ifCond .ne 7, 3) := by decide +kernel
theorem dX12_readNew_55 : decode cX12_readNew 55 = .ok (.aload_n 0, 1) := by decide +kernel
theorem dX12_readNew_56 : decode cX12_readNew 56 = .ok (.invokevirtual 264, 3) := by decide +kernel
theorem dX12_readNew_59 : decode cX12_readNew 59 = .ok (.aload_n 0, 1) := by decide +kernel
theorem dX12_readNew_60 : decode cX12_readNew 60 = .ok (.getfield 251, 3) := by decide +kernel
theorem dX12_readNew_63 : decode cX12_readNew 63 = .ok (.ifCond .ne 19, 3) := by decide +kernel
theorem dX12_readNew_66 : decode cX12_readNew 66 = .ok (.aload_n 0, 1) := by decide +kernel
theorem dX12_readNew_67 : decode cX12_readNew 67 = .ok (.invokevirtual 281, 3) := by decide +kernel
theorem dX12_readNew_70 : decode cX12_readNew 70 = .ok (.ifCond .eq 12, 3) := by decide +kernel
theorem dX12_readNew_73 : decode cX12_readNew 73 = .ok (.aload_n 0, 1) := by decide +kernel
theorem dX12_readNew_74 : decode cX12_readNew 74 = .ok (.iconst 3, 1) := by decide +kernel
theorem dX12_readNew_75 : decode cX12_readNew 75 = .ok (.aload_n 0, 1) := by decide +kernel
theorem dX12_readNew_76 : decode cX12_readNew 76 = .ok (.getfield 132, 3) := by decide +kernel
theorem dX12_readNew_79 : decode cX12_readNew 79 = .ok (.invokevirtual 257, 3) := by decide +kernel
theorem dX12_readNew_82 : decode cX12_readNew 82 = .ok (.aload_n 0, 1) := by decide +kernel
theorem dX12_readNew_83 : decode cX12_readNew 83 = .ok (.getfield 251, 3) := by decide +kernel
theorem dX12_readNew_86 : decode cX12_readNew 86 = .ok (.ifCond .le 5, 3) := by decide +kernel
theorem dX12_readNew_89 : decode cX12_readNew 89 = .ok (.iconst 0, 1) := by decide +kernel
theorem dX12_readNew_90 : decode cX12_readNew 90 = .ok (.ireturn, 1) := by decide +kernel
theorem dX12_readNew_91 : decode cX12_readNew 91 = .ok (.aload_n 0, 1) := by decide +kernel
theorem dX12_readNew_92 : decode cX12_readNew 92 = .ok (.getfield 38, 3) := by decide +kernel
theorem dX12_readNew_95 : decode cX12_readNew 95 = .ok (.bipush 104, 2) := by decide +kernel
theorem dX12_readNew_97 : decode cX12_readNew 97 = .ok (.iload_n 3, 1) := by decide +kernel
theorem dX12_readNew_98 : decode cX12_readNew 98 = .ok (.iadd, 1) := by decide +kernel
theorem dX12_readNew_99 : decode cX12_readNew 99 = .ok (.iload 4, 2) := by decide +kernel
theorem dX12_readNew_101 : decode cX12_readNew 101 = .ok (.iadd, 1) := by decide +kernel
theorem dX12_readNew_102 : decode cX12_readNew 102 = .ok (.aload_n 0, 1) := by decide +kernel
theorem dX12_readNew_103 : decode cX12_readNew 103 = .ok (.getfield 144, 3) := by decide +kernel
theorem dX12_readNew_106 : decode cX12_readNew 106 = .ok (.lastore, 1) := by decide +kernel
theorem dX12_readNew_107 : decode cX12_readNew 107 = .ok (.aload_n 0, 1) := by decide +kernel
theorem dX12_readNew_108 : decode cX12_readNew 108 = .ok (.invokevirtual 261, 3) := by decide +kernel
theorem dX12_readNew_111 : decode cX12_readNew 111 = .ok (.iload 4, 2) := by decide +kernel
theorem dX12_readNew_113 : decode cX12_readNew 113 = .ok (.ireturn, 1) := by decide +kernel
theorem dX12_readOld_0 : decode cX12_readOld 0 = .ok (.aload_n 0, 1) := by decide +kernel
theorem dX12_readOld_1 : decode cX12_readOld 1 = .ok (.getfield 251, 3) := by decide +kernel
theorem dX12_readOld_4 : decode cX12_readOld 4 = .ok (.ifCond .ne 14, 3) := by decide +kernel
theorem dX12_readOld_7 : decode cX12_readOld 7 = .ok (.aload_n 0, 1) := by decide +kernel
theorem dX12_readOld_8 : decode cX12_readOld 8 = .ok (.invokevirtual 278, 3) := by decide +kernel
theorem dX12_readOld_11 : decode cX12_readOld 11 = .ok (.ifCond .ne 7, 3) := by decide +kernel
theorem dX12_readOld_14 : decode cX12_readOld 14 = .ok (.aload_n 0, 1) := by decide +kernel
theorem dX12_readOld_15 : decode cX12_readOld 15 = .ok (.invokevirtual 264, 3) := by decide +kernel
theorem dX12_readOld_18 : decode cX12_readOld 18 = .ok (.aload_n 0, 1) := by decide +kernel
theorem dX12_readOld_19 : decode cX12_readOld 19 = .ok (.getfield 251, 3) := by decide +kernel
theorem dX12_readOld_22 : decode cX12_readOld 22 = .ok (.ifCond .ne 24, 3) := by decide +kernel
theorem dX12_readOld_25 : decode cX12_readOld 25 = .ok (.aload_n 0, 1) := by decide +kernel
theorem dX12_readOld_26 : decode cX12_readOld 26 = .ok (.iload_n 1, 1) := by decide +kernel
theorem dX12_readOld_27 : decode cX12_readOld 27 = .ok (.iload_n 3, 1) := by decide +kernel
theorem dX12_readOld_28 : decode cX12_readOld 28 = .ok (.aload_n 0, 1) := by decide +kernel
theorem dX12_readOld_29 : decode cX12_readOld 29 = .ok (.getfield 35, 3) := by decide +kernel
theorem dX12_readOld_32 : decode cX12_readOld 32 = .ok (.sipush 650, 3) := by decide +kernel
theorem dX12_readOld_35 : decode cX12_readOld 35 = .ok (.iload_n 1, 1) := by decide +kernel
theorem dX12_readOld_36 : decode cX12_readOld 36 = .ok (.imul, 1) := by decide +kernel
theorem dX12_readOld_37 : decode cX12_readOld 37 = .ok (.iload_n 2, 1) := by decide +kernel
theorem dX12_readOld_38 : decode cX12_readOld 38 = .ok (.iadd, 1) := by decide +kernel
theorem dX12_readOld_39 : decode cX12_readOld 39 = .ok (.iaload, 1) := by decide +kernel
theorem dX12_readOld_40 : decode cX12_readOld 40 = .ok (.invokevirtual 274, 3) := by decide +kernel
theorem dX12_readOld_43 : decode cX12_readOld 43 = .ok (.goto 4, 3) := by decide +kernel
theorem dX12_readOld_46 : decode cX12_readOld 46 = .ok (.iconst 0, 1) := by decide +kernel
theorem dX12_readOld_47 : decode cX12_readOld 47 = .ok (.istore 4, 2) := by decide +kernel
theorem dX12_readOld_49 : decode cX12_readOld 49 = .ok (.aload_n 0, 1) := by decide +kernel
theorem dX12_readOld_50 : decode cX12_readOld 50 = .ok (.getfield 251, 3) := by decide +kernel
theorem dX12_readOld_53 : decode cX12_readOld 53 = .ok (.ifCond .ne 17, 3) := by decide +kernel
theorem dX12_readOld_56 : decode cX12_readOld 56 = .ok (.iload 4, 2) := by decide +kernel
theorem dX12_readOld_58 : decode cX12_readOld 58 = .ok (.ifCond .ge 12, 3) := by decide +kernel
theorem dX12_readOld_61 : decode cX12_readOld 61 = .ok (.aload_n 0, 1) := by decide +kernel
theorem dX12_readOld_62 : decode cX12_readOld 62 = .ok (.iconst 3, 1) := by decide +kernel
theorem dX12_readOld_63 : decode cX12_readOld 63 = .ok (.aload_n 0, 1) := by decide +kernel
theorem dX12_readOld_64 : decode cX12_readOld 64 = .ok (.getfield 132, 3) := by decide +kernel
theorem dX12_readOld_67 : decode cX12_readOld 67 = .ok (.invokevirtual 257, 3) := by decide +kernel
theorem dX12_readOld_70 : decode cX12_readOld 70 = .ok (.iload 4, 2) := by decide +kernel
theorem dX12_readOld_72 : decode cX12_readOld 72 = .ok (.ireturn, 1) := by decide +kernel
theorem dX12_readThing_0 : decode cX12_readThing 0 = .ok (.aload_n 0, 1) := by decide +kernel
theorem dX12_readThing_1 : decode cX12_readThing 1 = .ok (.iconst 0, 1) := by decide +kernel
theorem dX12_readThing_2 : decode cX12_readThing 2 = .ok (.bipush 8, 2) := by decide +kernel
theorem dX12_readThing_4 : decode cX12_readThing 4 = .ok (.iconst 0, 1) := by decide +kernel
theorem dX12_readThing_5 : decode cX12_readThing 5 = .ok (.invokevirtual 284, 3) := by decide +kernel
theorem dX12_readThing_8 : decode cX12_readThing 8 = .ok (.istore_n 1, 1) := by decide +kernel
theorem dX12_readThing_9 : decode cX12_readThing 9 = .ok (.aload_n 0, 1) := by decide +kernel
theorem dX12_readThing_10 : decode cX12_readThing 10 = .ok (.getfield 251, 3) := by decide +kernel
theorem dX12_readThing_13 : decode cX12_readThing 13 = .ok (.ifCond .ne 14, 3) := by decide +kernel
theorem dX12_readThing_16 : decode cX12_readThing 16 = .ok (.aload_n 0, 1) := by decide +kernel
theorem dX12_readThing_17 : decode cX12_readThing 17 = .ok (.invokevirtual 175, 3) := by decide +kernel
theorem dX12_readThing_20 : decode cX12_readThing 20 = .ok (.ifCond .eq 7, 3) := by decide +kernel
theorem dX12_readThing_23 : decode cX12_readThing 23 = .ok (.iconst 1, 1) := by decide +kernel
theorem dX12_readThing_24 : decode cX12_readThing 24 = .ok (.goto 4, 3) := by decide +kernel
theorem dX12_readThing_27 : decode cX12_readThing 27 = .ok (.iconst 0, 1) := by decide +kernel
theorem dX12_readThing_28 : decode cX12_readThing 28 = .ok (.istore_n 2, 1) := by decide +kernel
theorem dX12_readThing_29 : decode cX12_readThing 29 = .ok (.iload_n 2, 1) := by decide +kernel
theorem dX12_readThing_30 : decode cX12_readThing 30 = .ok (.ifCond .eq 7, 3) := by decide +kernel
theorem dX12_readThing_33 : decode cX12_readThing 33 = .ok (.aload_n 0, 1) := by decide +kernel
theorem dX12_readThing_34 : decode cX12_readThing 34 = .ok (.invokevirtual 261, 3) := by decide +kernel
theorem dX12_readThing_37 : decode cX12_readThing 37 = .ok (.aload_n 0, 1) := by decide +kernel
theorem dX12_readThing_38 : decode cX12_readThing 38 = .ok (.getfield 251, 3) := by decide +kernel
theorem dX12_readThing_41 : decode cX12_readThing 41 = .ok (.ifCond .ne 14, 3) := by decide +kernel
theorem dX12_readThing_44 : decode cX12_readThing 44 = .ok (.aload_n 0, 1) := by decide +kernel
theorem dX12_readThing_45 : decode cX12_readThing 45 = .ok (.invokevirtual 179, 3) := by decide +kernel
theorem dX12_readThing_48 : decode cX12_readThing 48 = .ok (.ifCond .eq 7, 3) := by decide +kernel
theorem dX12_readThing_51 : decode cX12_readThing 51 = .ok (.iconst 1, 1) := by decide +kernel
theorem dX12_readThing_52 : decode cX12_readThing 52 = .ok (.goto 4, 3) := by decide +kernel
theorem dX12_readThing_55 : decode cX12_readThing 55 = .ok (.iconst 0, 1) := by decide +kernel
theorem dX12_readThing_56 : decode cX12_readThing 56 = .ok (.istore_n 3, 1) := by decide +kernel
theorem dX12_readThing_57 : decode cX12_readThing 57 = .ok (.iload_n 3, 1) := by decide +kernel
theorem dX12_readThing_58 : decode cX12_readThing 58 = .ok (.ifCond .eq 7, 3) := by decide +kernel
theorem dX12_readThing_61 : decode cX12_readThing 61 = .ok (.aload_n 0, 1) := by decide +kernel
theorem dX12_readThing_62 : decode cX12_readThing 62 = .ok (.invokevirtual 261, 3) := by decide +kernel
theorem dX12_readThing_65 : decode cX12_readThing 65 = .ok (.aload_n 0, 1) := by decide +kernel
theorem dX12_readThing_66 : decode cX12_readThing 66 = .ok (.getfield 251, 3) := by decide +kernel
theorem dX12_readThing_69 : decode cX12_readThing 69 = .ok (.ifCond .le 4, 3) := by decide +kernel
theorem dX12_readThing_72 : decode cX12_readThing 72 = .ok (.return_, 1) := by decide +kernel
theorem dX12_readThing_73 : decode cX12_readThing 73 = .ok (.aload_n 0, 1) := by decide +kernel
theorem dX12_readThing_74 : decode cX12_readThing 74 = .ok (.getfield 35, 3) := by decide +kernel
theorem dX12_readThing_77 : decode cX12_readThing 77 = .ok (.sipush 2605, 3) := by decide +kernel
theorem dX12_readThing_80 : decode cX12_readThing 80 = .ok (.iload_n 1, 1) := by decide +kernel
theorem dX12_readThing_81 : decode cX12_readThing 81 = .ok (.iadd, 1) := by decide +kernel
theorem dX12_readThing_82 : decode cX12_readThing 82 = .ok (.iload_n 2, 1) := by decide +kernel
theorem dX12_readThing_83 : decode cX12_readThing 83 = .ok (.ifCond .eq 7, 3) := by decide +kernel
theorem dX12_readThing_86 : decode cX12_readThing 86 = .ok (.iconst 1, 1) := by decide +kernel
theorem dX12_readThing_87 : decode cX12_readThing 87 = .ok (.goto 4, 3) := by decide +kernel
theorem dX12_readThing_90 : decode cX12_readThing 90 = .ok (.iconst 0, 1) := by decide +kernel
theorem dX12_readThing_91 : decode cX12_readThing 91 = .ok (.iastore, 1) := by decide +kernel
theorem dX12_readThing_92 : decode cX12_readThing 92 = .ok (.aload_n 0, 1) := by decide +kernel
theorem dX12_readThing_93 : decode cX12_readThing 93 = .ok (.getfield 35, 3) := by decide +kernel
theorem dX12_readThing_96 : decode cX12_readThing 96 = .ok (.sipush 2613, 3) := by decide +kernel
theorem dX12_readThing_99 : decode cX12_readThing 99 = .ok (.iload_n 1, 1) := by decide +kernel
theorem dX12_readThing_100 : decode cX12_readThing 100 = .ok (.iadd, 1) := by decide +kernel
theorem dX12_readThing_101 : decode cX12_readThing 101 = .ok (.iload_n 3, 1) := by decide +kernel
theorem dX12_readThing_102 : decode cX12_readThing 102 = .ok (.ifCond .eq 7, 3) := by decide +kernel
theorem dX12_readThing_105 : decode cX12_readThing 105 = .ok (.iconst 1, 1) := by decide +kernel
theorem dX12_readThing_106 : decode cX12_readThing 106 = .ok (.goto 4, 3) := by decide +kernel
theorem dX12_readThing_109 : decode cX12_readThing 109 = .ok (.iconst 0, 1) := by decide +kernel
theorem dX12_readThing_110 : decode cX12_readThing 110 = .ok (.iastore, 1) := by decide +kernel
theorem dX12_readThing_111 : decode cX12_readThing 111 = .ok (.aload_n 0, 1) := by decide +kernel
theorem dX12_readThing_112 : decode cX12_readThing 112 = .ok (.getfield 35, 3) := by decide +kernel
theorem dX12_readThing_115 : decode cX12_readThing 115 = .ok (.sipush 2621, 3) := by decide +kernel
theorem dX12_readThing_118 : decode cX12_readThing 118 = .ok (.iload_n 1, 1) := by decide +kernel
theorem dX12_readThing_119 : decode cX12_readThing 119 = .ok (.iadd, 1) := by decide +kernel
theorem dX12_readThing_120 : decode cX12_readThing 120 = .ok (.iconst 0, 1) := by decide +kernel
theorem dX12_readThing_121 : decode cX12_readThing 121 = .ok (.iastore, 1) := by decide +kernel
theorem dX12_readThing_122 : decode cX12_readThing 122 = .ok (.aload_n 0, 1) := by decide +kernel
theorem dX12_readThing_123 : decode cX12_readThing 123 = .ok (.getfield 35, 3) := by decide +kernel
theorem dX12_readThing_126 : decode cX12_readThing 126 = .ok (.sipush 2600, 3) := by decide +kernel
theorem dX12_readThing_129 : decode cX12_readThing 129 = .ok (.dup2, 1) := by decide +kernel
theorem dX12_readThing_130 : decode cX12_readThing 130 = .ok (.iaload, 1) := by decide +kernel
theorem dX12_readThing_131 : decode cX12_readThing 131 = .ok (.iconst 1, 1) := by decide +kernel
theorem dX12_readThing_132 : decode cX12_readThing 132 = .ok (.iadd, 1) := by decide +kernel
theorem dX12_readThing_133 : decode cX12_readThing 133 = .ok (.iastore, 1) := by decide +kernel
theorem dX12_readThing_134 : decode cX12_readThing 134 = .ok (.return_, 1) := by decide +kernel
theorem dX12_readThings_0 : decode cX12_readThings 0 = .ok (.aload_n 0, 1) := by decide +kernel
theorem dX12_readThings_1 : decode cX12_readThings 1 = .ok (.invokevirtual 261, 3) := by decide +kernel
theorem dX12_readThings_4 : decode cX12_readThings 4 = .ok (.iconst 0, 1) := by decide +kernel
theorem dX12_readThings_5 : decode cX12_readThings 5 = .ok (.istore_n 2, 1) := by decide +kernel
theorem dX12_readThings_6 : decode cX12_readThings 6 = .ok (.iconst 1, 1) := by decide +kernel
theorem dX12_readThings_7 : decode cX12_readThings 7 = .ok (.istore_n 3, 1) := by decide +kernel
theorem dX12_readThings_8 : decode cX12_readThings 8 = .ok (.iload_n 3, 1) := by decide +kernel
theorem dX12_readThings_9 : decode cX12_readThings 9 = .ok (.ifCond .eq 91, 3) := by decide +kernel
theorem dX12_readThings_12 : decode cX12_readThings 12 = .ok (.aload_n 0, 1) := by decide +kernel
theorem dX12_readThings_13 : decode cX12_readThings 13 = .ok (.getfield 251, 3) := by decide +kernel
theorem dX12_readThings_16 : decode cX12_readThings 16 = .ok (.ifCond .ne 84, 3) := by decide +kernel
theorem dX12_readThings_19 : decode cX12_readThings 19 = .ok (.aload_n 0, 1) := by decide +kernel
theorem dX12_readThings_20 : decode cX12_readThings 20 = .ok (.iconst 4, 1) := by decide +kernel
theorem dX12_readThings_21 : decode cX12_readThings 21 = .ok (.iconst 0, 1) := by decide +kernel
theorem dX12_readThings_22 : decode cX12_readThings 22 = .ok (.iconst 0, 1) := by decide +kernel
theorem dX12_readThings_23 : decode cX12_readThings 23 = .ok (.invokevirtual 287, 3) := by decide +kernel
theorem dX12_readThings_26 : decode cX12_readThings 26 = .ok (.istore 4, 2) := by decide +kernel
theorem dX12_readThings_28 : decode cX12_readThings 28 = .ok (.aload_n 0, 1) := by decide +kernel
theorem dX12_readThings_29 : decode cX12_readThings 29 = .ok (.getfield 251, 3) := by decide +kernel
theorem dX12_readThings_32 : decode cX12_readThings 32 = .ok (.ifCond .ne 24, 3) := by decide +kernel
theorem dX12_readThings_35 : decode cX12_readThings 35 = .ok (.iload_n 2, 1) := by decide +kernel
theorem dX12_readThings_36 : decode cX12_readThings 36 = .ok (.iload_n 1, 1) := by decide +kernel
theorem dX12_readThings_37 : decode cX12_readThings 37 = .ok (.ior, 1) := by decide +kernel
theorem dX12_readThings_38 : decode cX12_readThings 38 = .ok (.iload 4, 2) := by decide +kernel
theorem dX12_readThings_40 : decode cX12_readThings 40 = .ok (.ishr, 1) := by decide +kernel
theorem dX12_readThings_41 : decode cX12_readThings 41 = .ok (.iconst 1, 1) := by decide +kernel
theorem dX12_readThings_42 : decode cX12_readThings 42 = .ok (.iand, 1) := by decide +kernel
theorem dX12_readThings_43 : decode cX12_readThings 43 = .ok (.iconst 1, 1) := by decide +kernel
theorem dX12_readThings_44 : decode cX12_readThings 44 = .ok (.if_icmp .ne 12, 3) := by decide +kernel
theorem dX12_readThings_47 : decode cX12_readThings 47 = .ok (.aload_n 0, 1) := by decide +kernel
theorem dX12_readThings_48 : decode cX12_readThings 48 = .ok (.iconst 5, 1) := by decide +kernel
theorem dX12_readThings_49 : decode cX12_readThings 49 = .ok (.aload_n 0, 1) := by decide +kernel
theorem dX12_readThings_50 : decode cX12_readThings 50 = .ok (.getfield 132, 3) := by decide +kernel
theorem dX12_readThings_53 : decode cX12_readThings 53 = .ok (.invokevirtual 257, 3) := by decide +kernel
theorem dX12_readThings_56 : decode cX12_readThings 56 = .ok (.aload_n 0, 1) := by decide +kernel
theorem dX12_readThings_57 : decode cX12_readThings 57 = .ok (.getfield 251, 3) := by decide +kernel
theorem dX12_readThings_60 : decode cX12_readThings 60 = .ok (.ifCond .le 5, 3) := by decide +kernel
theorem dX12_readThings_63 : decode cX12_readThings 63 = .ok (.iconst 0, 1) := by decide +kernel
theorem dX12_readThings_64 : decode cX12_readThings 64 = .ok (.ireturn, 1) := by decide +kernel
theorem dX12_readThings_65 : decode cX12_readThings 65 = .ok (.iload_n 2, 1) := by decide +kernel
theorem dX12_readThings_66 : decode cX12_readThings 66 = .ok (.iconst 1, 1) := by decide +kernel
theorem dX12_readThings_67 : decode cX12_readThings 67 = .ok (.iload 4, 2) := by decide +kernel
theorem dX12_readThings_69 : decode cX12_readThings 69 = .ok (.ishl, 1) := by decide +kernel
theorem dX12_readThings_70 : decode cX12_readThings 70 = .ok (.ior, 1) := by decide +kernel
theorem dX12_readThings_71 : decode cX12_readThings 71 = .ok (.istore_n 2, 1) := by decide +kernel
theorem dX12_readThings_72 : decode cX12_readThings 72 = .ok (.aload_n 0, 1) := by decide +kernel
theorem dX12_readThings_73 : decode cX12_readThings 73 = .ok (.invokevirtual 261, 3) := by decide +kernel
theorem dX12_readThings_76 : decode cX12_readThings 76 = .ok (.aload_n 0, 1) := by decide +kernel
theorem dX12_readThings_77 : decode cX12_readThings 77 = .ok (.getfield 138, 3) := by decide +kernel
theorem dX12_readThings_80 : decode cX12_readThings 80 = .ok (.iconst 1, 1) := by decide +kernel
theorem dX12_readThings_81 : decode cX12_readThings 81 = .ok (.if_icmp .ne 14, 3) := by decide +kernel
theorem dX12_readThings_84 : decode cX12_readThings 84 = .ok (.aload_n 0, 1) := by decide +kernel
theorem dX12_readThings_85 : decode cX12_readThings 85 = .ok (.invokevirtual 197, 3) := by decide +kernel
theorem dX12_readThings_88 : decode cX12_readThings 88 = .ok (.ifCond .ne 7, 3) := by decide +kernel
theorem dX12_readThings_91 : decode cX12_readThings 91 = .ok (.iconst 1, 1) := by decide +kernel
theorem dX12_readThings_92 : decode cX12_readThings 92 = .ok (.goto 4, 3) := by decide +kernel
theorem dX12_readThings_95 : decode cX12_readThings 95 = .ok (.iconst 0, 1) := by decide +kernel
theorem dX12_readThings_96 : decode cX12_readThings 96 = .ok (.istore_n 3, 1) := by decide +kernel
theorem dX12_readThings_97 : decode cX12_readThings 97 = .ok (.goto (-89), 3) := by decide +kernel
theorem dX12_readThings_100 : decode cX12_readThings 100 = .ok (.iload_n 2, 1) := by decide +kernel
theorem dX12_readThings_101 : decode cX12_readThings 101 = .ok (.ireturn, 1) := by decide +kernel
theorem dX12_readMaking_0 : decode cX12_readMaking 0 = .ok (.aload_n 0, 1) := by decide +kernel
theorem dX12_readMaking_1 : decode cX12_readMaking 1 = .ok (.iconst 1, 1) := by decide +kernel
theorem dX12_readMaking_2 : decode cX12_readMaking 2 = .ok (.bipush 12, 2) := by decide +kernel
theorem dX12_readMaking_4 : decode cX12_readMaking 4 = .ok (.bipush 8, 2) := by decide +kernel
theorem dX12_readMaking_6 : decode cX12_readMaking 6 = .ok (.invokevirtual 284, 3) := by decide +kernel
theorem dX12_readMaking_9 : decode cX12_readMaking 9 = .ok (.istore_n 1, 1) := by decide +kernel
theorem dX12_readMaking_10 : decode cX12_readMaking 10 = .ok (.aload_n 0, 1) := by decide +kernel
theorem dX12_readMaking_11 : decode cX12_readMaking 11 = .ok (.aload_n 0, 1) := by decide +kernel
theorem dX12_readMaking_12 : decode cX12_readMaking 12 = .ok (.invokevirtual 185, 3) := by decide +kernel
theorem dX12_readMaking_15 : decode cX12_readMaking 15 = .ok (.invokevirtual 290, 3) := by decide +kernel
theorem dX12_readMaking_18 : decode cX12_readMaking 18 = .ok (.aload_n 0, 1) := by decide +kernel
theorem dX12_readMaking_19 : decode cX12_readMaking 19 = .ok (.iconst 4, 1) := by decide +kernel
theorem dX12_readMaking_20 : decode cX12_readMaking 20 = .ok (.iconst 0, 1) := by decide +kernel
theorem dX12_readMaking_21 : decode cX12_readMaking 21 = .ok (.iconst 0, 1) := by decide +kernel
theorem dX12_readMaking_22 : decode cX12_readMaking 22 = .ok (.invokevirtual 287, 3) := by decide +kernel
theorem dX12_readMaking_25 : decode cX12_readMaking 25 = .ok (.istore_n 2, 1) := by decide +kernel
theorem dX12_readMaking_26 : decode cX12_readMaking 26 = .ok (.aload_n 0, 1) := by decide +kernel
theorem dX12_readMaking_27 : decode cX12_readMaking 27 = .ok (.iconst 1, 1) := by decide +kernel
theorem dX12_readMaking_28 : decode cX12_readMaking 28 = .ok (.invokevirtual 290, 3) := by decide +kernel
theorem dX12_readMaking_31 : decode cX12_readMaking 31 = .ok (.aload_n 0, 1) := by decide +kernel
theorem dX12_readMaking_32 : decode cX12_readMaking 32 = .ok (.aload_n 0, 1) := by decide +kernel
theorem dX12_readMaking_33 : decode cX12_readMaking 33 = .ok (.invokevirtual 188, 3) := by decide +kernel
theorem dX12_readMaking_36 : decode cX12_readMaking 36 = .ok (.invokevirtual 290, 3) := by decide +kernel
theorem dX12_readMaking_39 : decode cX12_readMaking 39 = .ok (.aload_n 0, 1) := by decide +kernel
theorem dX12_readMaking_40 : decode cX12_readMaking 40 = .ok (.iconst 1, 1) := by decide +kernel
theorem dX12_readMaking_41 : decode cX12_readMaking 41 = .ok (.bipush 24, 2) := by decide +kernel
theorem dX12_readMaking_43 : decode cX12_readMaking 43 = .ok (.invokevirtual 294, 3) := by decide +kernel
theorem dX12_readMaking_46 : decode cX12_readMaking 46 = .ok (.istore_n 3, 1) := by decide +kernel
theorem dX12_readMaking_47 : decode cX12_readMaking 47 = .ok (.aload_n 0, 1) := by decide +kernel
theorem dX12_readMaking_48 : decode cX12_readMaking 48 = .ok (.aload_n 0, 1) := by decide +kernel
theorem dX12_readMaking_49 : decode cX12_readMaking 49 = .ok (.invokevirtual 191, 3) := by decide +kernel
theorem dX12_readMaking_52 : decode cX12_readMaking 52 = .ok (.invokevirtual 290, 3) := by decide +kernel
theorem dX12_readMaking_55 : decode cX12_readMaking 55 = .ok (.aload_n 0, 1) := by decide +kernel
theorem dX12_readMaking_56 : decode cX12_readMaking 56 = .ok (.iconst 1, 1) := by decide +kernel
theorem dX12_readMaking_57 : decode cX12_readMaking 57 = .ok (.iconst 3, 1) := by decide +kernel
theorem dX12_readMaking_58 : decode cX12_readMaking 58 = .ok (.invokevirtual 294, 3) := by decide +kernel
theorem dX12_readMaking_61 : decode cX12_readMaking 61 = .ok (.istore 4, 2) := by decide +kernel
theorem dX12_readMaking_63 : decode cX12_readMaking 63 = .ok (.aload_n 0, 1) := by decide +kernel
theorem dX12_readMaking_64 : decode cX12_readMaking 64 = .ok (.getfield 251, 3) := by decide +kernel
theorem dX12_readMaking_67 : decode cX12_readMaking 67 = .ok (.ifCond .ne 18, 3) := by decide +kernel
theorem dX12_readMaking_70 : decode cX12_readMaking 70 = .ok (.aload_n 0, 1) := by decide +kernel
theorem dX12_readMaking_71 : decode cX12_readMaking 71 = .ok (.invokevirtual 194, 3) := by decide +kernel
theorem dX12_readMaking_74 : decode cX12_readMaking 74 = .ok (.ifCond .eq 11, 3) := by decide +kernel
theorem dX12_readMaking_77 : decode cX12_readMaking 77 = .ok (.aload_n 0, 1) := by decide +kernel
theorem dX12_readMaking_78 : decode cX12_readMaking 78 = .ok (.iconst 0, 1) := by decide +kernel
theorem dX12_readMaking_79 : decode cX12_readMaking 79 = .ok (.invokevirtual 297, 3) := by decide +kernel
theorem dX12_readMaking_82 : decode cX12_readMaking 82 = .ok (.goto 4, 3) := by decide +kernel
theorem dX12_readMaking_85 : decode cX12_readMaking 85 = .ok (.iconst 0, 1) := by decide +kernel
theorem dX12_readMaking_86 : decode cX12_readMaking 86 = .ok (.istore 5, 2) := by decide +kernel
theorem dX12_readMaking_88 : decode cX12_readMaking 88 = .ok (.aload_n 0, 1) := by decide +kernel
theorem dX12_readMaking_89 : decode cX12_readMaking 89 = .ok (.getfield 251, 3) := by decide +kernel
theorem dX12_readMaking_92 : decode cX12_readMaking 92 = .ok (.ifCond .ne 19, 3) := by decide +kernel
theorem dX12_readMaking_95 : decode cX12_readMaking 95 = .ok (.aload_n 0, 1) := by decide +kernel
theorem dX12_readMaking_96 : decode cX12_readMaking 96 = .ok (.invokevirtual 197, 3) := by decide +kernel
theorem dX12_readMaking_99 : decode cX12_readMaking 99 = .ok (.ifCond .eq 12, 3) := by decide +kernel
theorem dX12_readMaking_102 : decode cX12_readMaking 102 = .ok (.aload_n 0, 1) := by decide +kernel
theorem dX12_readMaking_103 : decode cX12_readMaking 103 = .ok (.iload 5, 2) := by decide +kernel
theorem dX12_readMaking_105 : decode cX12_readMaking 105 = .ok (.invokevirtual 297, 3) := by decide +kernel
theorem dX12_readMaking_108 : decode cX12_readMaking 108 = .ok (.goto 4, 3) := by decide +kernel
theorem dX12_readMaking_111 : decode cX12_readMaking 111 = .ok (.iconst 0, 1) := by decide +kernel
theorem dX12_readMaking_112 : decode cX12_readMaking 112 = .ok (.istore 6, 2) := by decide +kernel
theorem dX12_readMaking_114 : decode cX12_readMaking 114 = .ok (.aload_n 0, 1) := by decide +kernel
theorem dX12_readMaking_115 : decode cX12_readMaking 115 = .ok (.getfield 251, 3) := by decide +kernel
theorem dX12_readMaking_118 : decode cX12_readMaking 118 = .ok (.ifCond .le 4, 3) := by decide +kernel
theorem dX12_readMaking_121 : decode cX12_readMaking 121 = .ok (.return_, 1) := by decide +kernel
theorem dX12_readMaking_122 : decode cX12_readMaking 122 = .ok (.aload_n 0, 1) := by decide +kernel
theorem dX12_readMaking_123 : decode cX12_readMaking 123 = .ok (.getfield 35, 3) := by decide +kernel
theorem dX12_readMaking_126 : decode cX12_readMaking 126 = .ok (.sipush 2629, 3) := by decide +kernel
theorem dX12_readMaking_129 : decode cX12_readMaking 129 = .ok (.iload_n 1, 1) := by decide +kernel
theorem dX12_readMaking_130 : decode cX12_readMaking 130 = .ok (.iadd, 1) := by decide +kernel
theorem dX12_readMaking_131 : decode cX12_readMaking 131 = .ok (.iload_n 2, 1) := by decide +kernel
theorem dX12_readMaking_132 : decode cX12_readMaking 132 = .ok (.iastore, 1) := by decide +kernel
theorem dX12_readMaking_133 : decode cX12_readMaking 133 = .ok (.aload_n 0, 1) := by decide +kernel
theorem dX12_readMaking_134 : decode cX12_readMaking 134 = .ok (.getfield 35, 3) := by decide +kernel
theorem dX12_readMaking_137 : decode cX12_readMaking 137 = .ok (.sipush 2641, 3) := by decide +kernel
theorem dX12_readMaking_140 : decode cX12_readMaking 140 = .ok (.iload_n 1, 1) := by decide +kernel
theorem dX12_readMaking_141 : decode cX12_readMaking 141 = .ok (.iadd, 1) := by decide +kernel
theorem dX12_readMaking_142 : decode cX12_readMaking 142 = .ok (.iload_n 3, 1) := by decide +kernel
theorem dX12_readMaking_143 : decode cX12_readMaking 143 = .ok (.iastore, 1) := by decide +kernel
theorem dX12_readMaking_144 : decode cX12_readMaking 144 = .ok (.aload_n 0, 1) := by decide +kernel
theorem dX12_readMaking_145 : decode cX12_readMaking 145 = .ok (.getfield 35, 3) := by decide +kernel
theorem dX12_readMaking_148 : decode cX12_readMaking 148 = .ok (.sipush 2653, 3) := by decide +kernel
theorem dX12_readMaking_151 : decode cX12_readMaking 151 = .ok (.iload_n 1, 1) := by decide +kernel
theorem dX12_readMaking_152 : decode cX12_readMaking 152 = .ok (.iadd, 1) := by decide +kernel
theorem dX12_readMaking_153 : decode cX12_readMaking 153 = .ok (.iload 4, 2) := by decide +kernel
theorem dX12_readMaking_155 : decode cX12_readMaking 155 = .ok (.iastore, 1) := by decide +kernel
theorem dX12_readMaking_156 : decode cX12_readMaking 156 = .ok (.aload_n 0, 1) := by decide +kernel
theorem dX12_readMaking_157 : decode cX12_readMaking 157 = .ok (.getfield 35, 3) := by decide +kernel
theorem dX12_readMaking_160 : decode cX12_readMaking 160 = .ok (.sipush 2665, 3) := by decide +kernel
theorem dX12_readMaking_163 : decode cX12_readMaking 163 = .ok (.iload_n 1, 1) := by decide +kernel
theorem dX12_readMaking_164 : decode cX12_readMaking 164 = .ok (.iadd, 1) := by decide +kernel
theorem dX12_readMaking_165 : decode cX12_readMaking 165 = .ok (.iload 5, 2) := by decide +kernel
theorem dX12_readMaking_167 : decode cX12_readMaking 167 = .ok (.iastore, 1) := by decide +kernel
theorem dX12_readMaking_168 : decode cX12_readMaking 168 = .ok (.aload_n 0, 1) := by decide +kernel
theorem dX12_readMaking_169 : decode cX12_readMaking 169 = .ok (.getfield 35, 3) := by decide +kernel
theorem dX12_readMaking_172 : decode cX12_readMaking 172 = .ok (.sipush 2677, 3) := by decide +kernel
theorem dX12_readMaking_175 : decode cX12_readMaking 175 = .ok (.iload_n 1, 1) := by decide +kernel
theorem dX12_readMaking_176 : decode cX12_readMaking 176 = .ok (.iadd, 1) := by decide +kernel
theorem dX12_readMaking_177 : decode cX12_readMaking 177 = .ok (.iload 6, 2) := by decide +kernel
theorem dX12_readMaking_179 : decode cX12_readMaking 179 = .ok (.iastore, 1) := by decide +kernel
theorem dX12_readMaking_180 : decode cX12_readMaking 180 = .ok (.aload_n 0, 1) := by decide +kernel
theorem dX12_readMaking_181 : decode cX12_readMaking 181 = .ok (.getfield 35, 3) := by decide +kernel
theorem dX12_readMaking_184 : decode cX12_readMaking 184 = .ok (.sipush 2601, 3) := by decide +kernel
theorem dX12_readMaking_187 : decode cX12_readMaking 187 = .ok (.dup2, 1) := by decide +kernel
theorem dX12_readMaking_188 : decode cX12_readMaking 188 = .ok (.iaload, 1) := by decide +kernel
theorem dX12_readMaking_189 : decode cX12_readMaking 189 = .ok (.iconst 1, 1) := by decide +kernel
theorem dX12_readMaking_190 : decode cX12_readMaking 190 = .ok (.iadd, 1) := by decide +kernel
theorem dX12_readMaking_191 : decode cX12_readMaking 191 = .ok (.iastore, 1) := by decide +kernel
theorem dX12_readMaking_192 : decode cX12_readMaking 192 = .ok (.return_, 1) := by decide +kernel
theorem dX12_readPerson_0 : decode cX12_readPerson 0 = .ok (.aload_n 0, 1) := by decide +kernel
theorem dX12_readPerson_1 : decode cX12_readPerson 1 = .ok (.iconst 2, 1) := by decide +kernel
theorem dX12_readPerson_2 : decode cX12_readPerson 2 = .ok (.bipush 6, 2) := by decide +kernel
theorem dX12_readPerson_4 : decode cX12_readPerson 4 = .ok (.bipush 20, 2) := by decide +kernel
theorem dX12_readPerson_6 : decode cX12_readPerson 6 = .ok (.invokevirtual 284, 3) := by decide +kernel
theorem dX12_readPerson_9 : decode cX12_readPerson 9 = .ok (.istore_n 1, 1) := by decide +kernel
theorem dX12_readPerson_10 : decode cX12_readPerson 10 = .ok (.aload_n 0, 1) := by decide +kernel
theorem dX12_readPerson_11 : decode cX12_readPerson 11 = .ok (.aload_n 0, 1) := by decide +kernel
theorem dX12_readPerson_12 : decode cX12_readPerson 12 = .ok (.invokevirtual 200, 3) := by decide +kernel
theorem dX12_readPerson_15 : decode cX12_readPerson 15 = .ok (.invokevirtual 290, 3) := by decide +kernel
theorem dX12_readPerson_18 : decode cX12_readPerson 18 = .ok (.aload_n 0, 1) := by decide +kernel
theorem dX12_readPerson_19 : decode cX12_readPerson 19 = .ok (.iconst 0, 1) := by decide +kernel
theorem dX12_readPerson_20 : decode cX12_readPerson 20 = .ok (.bipush 24, 2) := by decide +kernel
theorem dX12_readPerson_22 : decode cX12_readPerson 22 = .ok (.invokevirtual 294, 3) := by decide +kernel
theorem dX12_readPerson_25 : decode cX12_readPerson 25 = .ok (.istore_n 2, 1) := by decide +kernel
theorem dX12_readPerson_26 : decode cX12_readPerson 26 = .ok (.aload_n 0, 1) := by decide +kernel
theorem dX12_readPerson_27 : decode cX12_readPerson 27 = .ok (.aload_n 0, 1) := by decide +kernel
theorem dX12_readPerson_28 : decode cX12_readPerson 28 = .ok (.invokevirtual 203, 3) := by decide +kernel
theorem dX12_readPerson_31 : decode cX12_readPerson 31 = .ok (.invokevirtual 290, 3) := by decide +kernel
theorem dX12_readPerson_34 : decode cX12_readPerson 34 = .ok (.aload_n 0, 1) := by decide +kernel
theorem dX12_readPerson_35 : decode cX12_readPerson 35 = .ok (.iconst 0, 1) := by decide +kernel
theorem dX12_readPerson_36 : decode cX12_readPerson 36 = .ok (.bipush 24, 2) := by decide +kernel
theorem dX12_readPerson_38 : decode cX12_readPerson 38 = .ok (.invokevirtual 294, 3) := by decide +kernel
theorem dX12_readPerson_41 : decode cX12_readPerson 41 = .ok (.istore_n 3, 1) := by decide +kernel
theorem dX12_readPerson_42 : decode cX12_readPerson 42 = .ok (.iconst 0, 1) := by decide +kernel
theorem dX12_readPerson_43 : decode cX12_readPerson 43 = .ok (.istore 4, 2) := by decide +kernel
theorem dX12_readPerson_45 : decode cX12_readPerson 45 = .ok (.aload_n 0, 1) := by decide +kernel
theorem dX12_readPerson_46 : decode cX12_readPerson 46 = .ok (.getfield 251, 3) := by decide +kernel
theorem dX12_readPerson_49 : decode cX12_readPerson 49 = .ok (.ifCond .ne 23, 3) := by decide +kernel
theorem dX12_readPerson_52 : decode cX12_readPerson 52 = .ok (.aload_n 0, 1) := by decide +kernel
theorem dX12_readPerson_53 : decode cX12_readPerson 53 = .ok (.invokevirtual 206, 3) := by decide +kernel
theorem dX12_readPerson_56 : decode cX12_readPerson 56 = .ok (.ifCond .eq 16, 3) := by decide +kernel
theorem dX12_readPerson_59 : decode cX12_readPerson 59 = .ok (.aload_n 0, 1) := by decide +kernel
theorem dX12_readPerson_60 : decode cX12_readPerson 60 = .ok (.invokevirtual 261, 3) := by decide +kernel
theorem dX12_readPerson_63 : decode cX12_readPerson 63 = .ok (.aload_n 0, 1) := by decide +kernel
theorem dX12_readPerson_64 : decode cX12_readPerson 64 = .ok (.iconst 0, 1) := by decide +kernel
theorem dX12_readPerson_65 : decode cX12_readPerson 65 = .ok (.bipush 16, 2) := by decide +kernel
theorem dX12_readPerson_67 : decode cX12_readPerson 67 = .ok (.invokevirtual 294, 3) := by decide +kernel
theorem dX12_readPerson_70 : decode cX12_readPerson 70 = .ok (.istore 4, 2) := by decide +kernel
theorem dX12_readPerson_72 : decode cX12_readPerson 72 = .ok (.aload_n 0, 1) := by decide +kernel
theorem dX12_readPerson_73 : decode cX12_readPerson 73 = .ok (.getfield 251, 3) := by decide +kernel
theorem dX12_readPerson_76 : decode cX12_readPerson 76 = .ok (.ifCond .le 4, 3) := by decide +kernel
theorem dX12_readPerson_79 : decode cX12_readPerson 79 = .ok (.return_, 1) := by decide +kernel
theorem dX12_readPerson_80 : decode cX12_readPerson 80 = .ok (.aload_n 0, 1) := by decide +kernel
theorem dX12_readPerson_81 : decode cX12_readPerson 81 = .ok (.getfield 35, 3) := by decide +kernel
theorem dX12_readPerson_84 : decode cX12_readPerson 84 = .ok (.sipush 2689, 3) := by decide +kernel
theorem dX12_readPerson_87 : decode cX12_readPerson 87 = .ok (.iload_n 1, 1) := by decide +kernel
theorem dX12_readPerson_88 : decode cX12_readPerson 88 = .ok (.iadd, 1) := by decide +kernel
theorem dX12_readPerson_89 : decode cX12_readPerson 89 = .ok (.iload_n 2, 1) := by decide +kernel
theorem dX12_readPerson_90 : decode cX12_readPerson 90 = .ok (.iastore, 1) := by decide +kernel
theorem dX12_readPerson_91 : decode cX12_readPerson 91 = .ok (.aload_n 0, 1) := by decide +kernel
theorem dX12_readPerson_92 : decode cX12_readPerson 92 = .ok (.getfield 35, 3) := by decide +kernel
theorem dX12_readPerson_95 : decode cX12_readPerson 95 = .ok (.sipush 2695, 3) := by decide +kernel
theorem dX12_readPerson_98 : decode cX12_readPerson 98 = .ok (.iload_n 1, 1) := by decide +kernel
theorem dX12_readPerson_99 : decode cX12_readPerson 99 = .ok (.iadd, 1) := by decide +kernel
theorem dX12_readPerson_100 : decode cX12_readPerson 100 = .ok (.iload_n 3, 1) := by decide +kernel
theorem dX12_readPerson_101 : decode cX12_readPerson 101 = .ok (.iastore, 1) := by decide +kernel
theorem dX12_readPerson_102 : decode cX12_readPerson 102 = .ok (.aload_n 0, 1) := by decide +kernel
theorem dX12_readPerson_103 : decode cX12_readPerson 103 = .ok (.getfield 35, 3) := by decide +kernel
theorem dX12_readPerson_106 : decode cX12_readPerson 106 = .ok (.sipush 2701, 3) := by decide +kernel
theorem dX12_readPerson_109 : decode cX12_readPerson 109 = .ok (.iload_n 1, 1) := by decide +kernel
theorem dX12_readPerson_110 : decode cX12_readPerson 110 = .ok (.iadd, 1) := by decide +kernel
theorem dX12_readPerson_111 : decode cX12_readPerson 111 = .ok (.iload 4, 2) := by decide +kernel
theorem dX12_readPerson_113 : decode cX12_readPerson 113 = .ok (.iastore, 1) := by decide +kernel
theorem dX12_readPerson_114 : decode cX12_readPerson 114 = .ok (.aload_n 0, 1) := by decide +kernel
theorem dX12_readPerson_115 : decode cX12_readPerson 115 = .ok (.getfield 35, 3) := by decide +kernel
theorem dX12_readPerson_118 : decode cX12_readPerson 118 = .ok (.sipush 2602, 3) := by decide +kernel
theorem dX12_readPerson_121 : decode cX12_readPerson 121 = .ok (.dup2, 1) := by decide +kernel
theorem dX12_readPerson_122 : decode cX12_readPerson 122 = .ok (.iaload, 1) := by decide +kernel
theorem dX12_readPerson_123 : decode cX12_readPerson 123 = .ok (.iconst 1, 1) := by decide +kernel
theorem dX12_readPerson_124 : decode cX12_readPerson 124 = .ok (.iadd, 1) := by decide +kernel
theorem dX12_readPerson_125 : decode cX12_readPerson 125 = .ok (.iastore, 1) := by decide +kernel
theorem dX12_readPerson_126 : decode cX12_readPerson 126 = .ok (.return_, 1) := by decide +kernel
theorem dX12_readWant_0 : decode cX12_readWant 0 = .ok (.aload_n 0, 1) := by decide +kernel
theorem dX12_readWant_1 : decode cX12_readWant 1 = .ok (.getfield 35, 3) := by decide +kernel
theorem dX12_readWant_4 : decode cX12_readWant 4 = .ok (.sipush 2603, 3) := by decide +kernel
theorem dX12_readWant_7 : decode cX12_readWant 7 = .ok (.iaload, 1) := by decide +kernel
theorem dX12_readWant_8 : decode cX12_readWant 8 = .ok (.istore_n 1, 1) := by decide +kernel
theorem dX12_readWant_9 : decode cX12_readWant 9 = .ok (.iload_n 1, 1) := by decide +kernel
theorem dX12_readWant_10 : decode cX12_readWant 10 = .ok (.bipush 8, 2) := by decide +kernel
theorem dX12_readWant_12 : decode cX12_readWant 12 = .ok (.if_icmp .ne 13, 3) := by decide +kernel
theorem dX12_readWant_15 : decode cX12_readWant 15 = .ok (.aload_n 0, 1) := by decide +kernel
theorem dX12_readWant_16 : decode cX12_readWant 16 = .ok (.bipush 6, 2) := by decide +kernel
theorem dX12_readWant_18 : decode cX12_readWant 18 = .ok (.aload_n 0, 1) := by decide +kernel
theorem dX12_readWant_19 : decode cX12_readWant 19 = .ok (.getfield 132, 3) := by decide +kernel
theorem dX12_readWant_22 : decode cX12_readWant 22 = .ok (.invokevirtual 257, 3) := by decide +kernel
theorem dX12_readWant_25 : decode cX12_readWant 25 = .ok (.aload_n 0, 1) := by decide +kernel
theorem dX12_readWant_26 : decode cX12_readWant 26 = .ok (.iconst 1, 1) := by decide +kernel
theorem dX12_readWant_27 : decode cX12_readWant 27 = .ok (.invokevirtual 290, 3) := by decide +kernel
theorem dX12_readWant_30 : decode cX12_readWant 30 = .ok (.aload_n 0, 1) := by decide +kernel
theorem dX12_readWant_31 : decode cX12_readWant 31 = .ok (.iconst 4, 1) := by decide +kernel
theorem dX12_readWant_32 : decode cX12_readWant 32 = .ok (.iconst 0, 1) := by decide +kernel
theorem dX12_readWant_33 : decode cX12_readWant 33 = .ok (.iconst 0, 1) := by decide +kernel
theorem dX12_readWant_34 : decode cX12_readWant 34 = .ok (.invokevirtual 287, 3) := by decide +kernel
theorem dX12_readWant_37 : decode cX12_readWant 37 = .ok (.istore_n 2, 1) := by decide +kernel
theorem dX12_readWant_38 : decode cX12_readWant 38 = .ok (.aload_n 0, 1) := by decide +kernel
theorem dX12_readWant_39 : decode cX12_readWant 39 = .ok (.iconst 1, 1) := by decide +kernel
theorem dX12_readWant_40 : decode cX12_readWant 40 = .ok (.invokevirtual 290, 3) := by decide +kernel
theorem dX12_readWant_43 : decode cX12_readWant 43 = .ok (.aload_n 0, 1) := by decide +kernel
theorem dX12_readWant_44 : decode cX12_readWant 44 = .ok (.aload_n 0, 1) := by decide +kernel
theorem dX12_readWant_45 : decode cX12_readWant 45 = .ok (.invokevirtual 209, 3) := by decide +kernel
theorem dX12_readWant_48 : decode cX12_readWant 48 = .ok (.invokevirtual 290, 3) := by decide +kernel
theorem dX12_readWant_51 : decode cX12_readWant 51 = .ok (.aload_n 0, 1) := by decide +kernel
theorem dX12_readWant_52 : decode cX12_readWant 52 = .ok (.iconst 0, 1) := by decide +kernel
theorem dX12_readWant_53 : decode cX12_readWant 53 = .ok (.bipush 24, 2) := by decide +kernel
theorem dX12_readWant_55 : decode cX12_readWant 55 = .ok (.invokevirtual 294, 3) := by decide +kernel
theorem dX12_readWant_58 : decode cX12_readWant 58 = .ok (.istore_n 3, 1) := by decide +kernel
theorem dX12_readWant_59 : decode cX12_readWant 59 = .ok (.aload_n 0, 1) := by decide +kernel
theorem dX12_readWant_60 : decode cX12_readWant 60 = .ok (.aload_n 0, 1) := by decide +kernel
theorem dX12_readWant_61 : decode cX12_readWant 61 = .ok (.invokevirtual 212, 3) := by decide +kernel
theorem dX12_readWant_64 : decode cX12_readWant 64 = .ok (.invokevirtual 290, 3) := by decide +kernel
theorem dX12_readWant_67 : decode cX12_readWant 67 = .ok (.aload_n 0, 1) := by decide +kernel
theorem dX12_readWant_68 : decode cX12_readWant 68 = .ok (.iconst 1, 1) := by decide +kernel
theorem dX12_readWant_69 : decode cX12_readWant 69 = .ok (.sipush 999, 3) := by decide +kernel
theorem dX12_readWant_72 : decode cX12_readWant 72 = .ok (.invokevirtual 294, 3) := by decide +kernel
theorem dX12_readWant_75 : decode cX12_readWant 75 = .ok (.istore 4, 2) := by decide +kernel
theorem dX12_readWant_77 : decode cX12_readWant 77 = .ok (.aload_n 0, 1) := by decide +kernel
theorem dX12_readWant_78 : decode cX12_readWant 78 = .ok (.getfield 251, 3) := by decide +kernel
theorem dX12_readWant_81 : decode cX12_readWant 81 = .ok (.ifCond .ne 14, 3) := by decide +kernel
theorem dX12_readWant_84 : decode cX12_readWant 84 = .ok (.aload_n 0, 1) := by decide +kernel
theorem dX12_readWant_85 : decode cX12_readWant 85 = .ok (.invokevirtual 215, 3) := by decide +kernel
theorem dX12_readWant_88 : decode cX12_readWant 88 = .ok (.ifCond .eq 7, 3) := by decide +kernel
theorem dX12_readWant_91 : decode cX12_readWant 91 = .ok (.iconst 1, 1) := by decide +kernel
theorem dX12_readWant_92 : decode cX12_readWant 92 = .ok (.goto 4, 3) := by decide +kernel
theorem dX12_readWant_95 : decode cX12_readWant 95 = .ok (.iconst 0, 1) := by decide +kernel
theorem dX12_readWant_96 : decode cX12_readWant 96 = .ok (.istore 5, 2) := by decide +kernel
theorem dX12_readWant_98 : decode cX12_readWant 98 = .ok (.iload 5, 2) := by decide +kernel
theorem dX12_readWant_100 : decode cX12_readWant 100 = .ok (.ifCond .eq 7, 3) := by decide +kernel
theorem dX12_readWant_103 : decode cX12_readWant 103 = .ok (.aload_n 0, 1) := by decide +kernel
theorem dX12_readWant_104 : decode cX12_readWant 104 = .ok (.invokevirtual 261, 3) := by decide +kernel
theorem dX12_readWant_107 : decode cX12_readWant 107 = .ok (.aload_n 0, 1) := by decide +kernel
theorem dX12_readWant_108 : decode cX12_readWant 108 = .ok (.getfield 251, 3) := by decide +kernel
theorem dX12_readWant_111 : decode cX12_readWant 111 = .ok (.ifCond .le 4, 3) := by decide +kernel
theorem dX12_readWant_114 : decode cX12_readWant 114 = .ok (.return_, 1) := by decide +kernel
theorem dX12_readWant_115 : decode cX12_readWant 115 = .ok (.aload_n 0, 1) := by decide +kernel
theorem dX12_readWant_116 : decode cX12_readWant 116 = .ok (.getfield 35, 3) := by decide +kernel
theorem dX12_readWant_119 : decode cX12_readWant 119 = .ok (.sipush 2707, 3) := by decide +kernel
theorem dX12_readWant_122 : decode cX12_readWant 122 = .ok (.iload_n 1, 1) := by decide +kernel
theorem dX12_readWant_123 : decode cX12_readWant 123 = .ok (.iadd, 1) := by decide +kernel
theorem dX12_readWant_124 : decode cX12_readWant 124 = .ok (.iload_n 2, 1) := by decide +kernel
theorem dX12_readWant_125 : decode cX12_readWant 125 = .ok (.iastore, 1) := by decide +kernel
theorem dX12_readWant_126 : decode cX12_readWant 126 = .ok (.aload_n 0, 1) := by decide +kernel
theorem dX12_readWant_127 : decode cX12_readWant 127 = .ok (.getfield 35, 3) := by decide +kernel
theorem dX12_readWant_130 : decode cX12_readWant 130 = .ok (.sipush 2715, 3) := by decide +kernel
theorem dX12_readWant_133 : decode cX12_readWant 133 = .ok (.iload_n 1, 1) := by decide +kernel
theorem dX12_readWant_134 : decode cX12_readWant 134 = .ok (.iadd, 1) := by decide +kernel
theorem dX12_readWant_135 : decode cX12_readWant 135 = .ok (.iload_n 3, 1) := by decide +kernel
theorem dX12_readWant_136 : decode cX12_readWant 136 = .ok (.iastore, 1) := by decide +kernel
theorem dX12_readWant_137 : decode cX12_readWant 137 = .ok (.aload_n 0, 1) := by decide +kernel
theorem dX12_readWant_138 : decode cX12_readWant 138 = .ok (.getfield 35, 3) := by decide +kernel
theorem dX12_readWant_141 : decode cX12_readWant 141 = .ok (.sipush 2723, 3) := by decide +kernel
theorem dX12_readWant_144 : decode cX12_readWant 144 = .ok (.iload_n 1, 1) := by decide +kernel
theorem dX12_readWant_145 : decode cX12_readWant 145 = .ok (.iadd, 1) := by decide +kernel
theorem dX12_readWant_146 : decode cX12_readWant 146 = .ok (.iload 4, 2) := by decide +kernel
theorem dX12_readWant_148 : decode cX12_readWant 148 = .ok (.iastore, 1) := by decide +kernel
theorem dX12_readWant_149 : decode cX12_readWant 149 = .ok (.aload_n 0, 1) := by decide +kernel
theorem dX12_readWant_150 : decode cX12_readWant 150 = .ok (.getfield 35, 3) := by decide +kernel
theorem dX12_readWant_153 : decode cX12_readWant 153 = .ok (.sipush 2731, 3) := by decide +kernel
theorem dX12_readWant_156 : decode cX12_readWant 156 = .ok (.iload_n 1, 1) := by decide +kernel
theorem dX12_readWant_157 : decode cX12_readWant 157 = .ok (.iadd, 1) := by decide +kernel
theorem dX12_readWant_158 : decode cX12_readWant 158 = .ok (.iload 5, 2) := by decide +kernel
theorem dX12_readWant_160 : decode cX12_readWant 160 = .ok (.ifCond .eq 7, 3) := by decide +kernel
theorem dX12_readWant_163 : decode cX12_readWant 163 = .ok (.iconst 1, 1) := by decide +kernel
theorem dX12_readWant_164 : decode cX12_readWant 164 = .ok (.goto 4, 3) := by decide +kernel
theorem dX12_readWant_167 : decode cX12_readWant 167 = .ok (.iconst 0, 1) := by decide +kernel
theorem dX12_readWant_168 : decode cX12_readWant 168 = .ok (.iastore, 1) := by decide +kernel
theorem dX12_readWant_169 : decode cX12_readWant 169 = .ok (.aload_n 0, 1) := by decide +kernel
theorem dX12_readWant_170 : decode cX12_readWant 170 = .ok (.getfield 35, 3) := by decide +kernel
theorem dX12_readWant_173 : decode cX12_readWant 173 = .ok (.sipush 2603, 3) := by decide +kernel
theorem dX12_readWant_176 : decode cX12_readWant 176 = .ok (.dup2, 1) := by decide +kernel
theorem dX12_readWant_177 : decode cX12_readWant 177 = .ok (.iaload, 1) := by decide +kernel
theorem dX12_readWant_178 : decode cX12_readWant 178 = .ok (.iconst 1, 1) := by decide +kernel
theorem dX12_readWant_179 : decode cX12_readWant 179 = .ok (.iadd, 1) := by decide +kernel
theorem dX12_readWant_180 : decode cX12_readWant 180 = .ok (.iastore, 1) := by decide +kernel
theorem dX12_readWant_181 : decode cX12_readWant 181 = .ok (.return_, 1) := by decide +kernel
theorem dX12_town_0 : decode cX12_town 0 = .ok (.aload_n 0, 1) := by decide +kernel
theorem dX12_town_1 : decode cX12_town 1 = .ok (.iconst 0, 1) := by decide +kernel
theorem dX12_town_2 : decode cX12_town 2 = .ok (.putfield 87, 3) := by decide +kernel
theorem dX12_town_5 : decode cX12_town 5 = .ok (.aload_n 0, 1) := by decide +kernel
theorem dX12_town_6 : decode cX12_town 6 = .ok (.iconst 0, 1) := by decide +kernel
theorem dX12_town_7 : decode cX12_town 7 = .ok (.putfield 90, 3) := by decide +kernel
theorem dX12_town_10 : decode cX12_town 10 = .ok (.aload_n 0, 1) := by decide +kernel
theorem dX12_town_11 : decode cX12_town 11 = .ok (.iload_n 1, 1) := by decide +kernel
theorem dX12_town_12 : decode cX12_town 12 = .ok (.sipush 800, 3) := by decide +kernel
theorem dX12_town_15 : decode cX12_town 15 = .ok (.invokevirtual 300, 3) := by decide +kernel
theorem dX12_town_18 : decode cX12_town 18 = .ok (.ifCond .ne 5, 3) := by decide +kernel
theorem dX12_town_21 : decode cX12_town 21 = .ok (.iconst (-1), 1) := by decide +kernel
theorem dX12_town_22 : decode cX12_town 22 = .ok (.ireturn, 1) := by decide +kernel
theorem dX12_town_23 : decode cX12_town 23 = .ok (.iconst 0, 1) := by decide +kernel
theorem dX12_town_24 : decode cX12_town 24 = .ok (.istore_n 2, 1) := by decide +kernel
theorem dX12_town_25 : decode cX12_town 25 = .ok (.iload_n 2, 1) := by decide +kernel
theorem dX12_town_26 : decode cX12_town 26 = .ok (.sipush 650, 3) := by decide +kernel
theorem dX12_town_29 : decode cX12_town 29 = .ok (.if_icmp .ge 20, 3) := by decide +kernel
theorem dX12_town_32 : decode cX12_town 32 = .ok (.aload_n 0, 1) := by decide +kernel
theorem dX12_town_33 : decode cX12_town 33 = .ok (.getfield 35, 3) := by decide +kernel
theorem dX12_town_36 : decode cX12_town 36 = .ok (.sipush 2600, 3) := by decide +kernel
theorem dX12_town_39 : decode cX12_town 39 = .ok (.iload_n 2, 1) := by decide +kernel
theorem dX12_town_40 : decode cX12_town 40 = .ok (.iadd, 1) := by decide +kernel
theorem dX12_town_41 : decode cX12_town 41 = .ok (.iconst 0, 1) := by decide +kernel
theorem dX12_town_42 : decode cX12_town 42 = .ok (.iastore, 1) := by decide +kernel
theorem dX12_town_43 : decode cX12_town 43 = .ok (.iinc 2 1, 3) := by decide +kernel
theorem dX12_town_46 : decode cX12_town 46 = .ok (.goto (-21), 3) := by decide +kernel
theorem dX12_town_49 : decode cX12_town 49 = .ok (.aload_n 0, 1) := by decide +kernel
theorem dX12_town_50 : decode cX12_town 50 = .ok (.getfield 251, 3) := by decide +kernel
theorem dX12_town_53 : decode cX12_town 53 = .ok (.ifCond .ne 79, 3) := by decide +kernel
theorem dX12_town_56 : decode cX12_town 56 = .ok (.aload_n 0, 1) := by decide +kernel
theorem dX12_town_57 : decode cX12_town 57 = .ok (.getfield 138, 3) := by decide +kernel
theorem dX12_town_60 : decode cX12_town 60 = .ok (.ifCond .eq 72, 3) := by decide +kernel
theorem dX12_town_63 : decode cX12_town 63 = .ok (.aload_n 0, 1) := by decide +kernel
theorem dX12_town_64 : decode cX12_town 64 = .ok (.invokevirtual 171, 3) := by decide +kernel
theorem dX12_town_67 : decode cX12_town 67 = .ok (.istore_n 2, 1) := by decide +kernel
theorem dX12_town_68 : decode cX12_town 68 = .ok (.iload_n 2, 1) := by decide +kernel
theorem dX12_town_69 : decode cX12_town 69 = .ok (.ifCond .ne 10, 3) := by decide +kernel
theorem dX12_town_72 : decode cX12_town 72 = .ok (.aload_n 0, 1) := by decide +kernel
theorem dX12_town_73 : decode cX12_town 73 = .ok (.invokevirtual 304, 3) := by decide +kernel
theorem dX12_town_76 : decode cX12_town 76 = .ok (.goto 43, 3) := by decide +kernel
theorem dX12_town_79 : decode cX12_town 79 = .ok (.iload_n 2, 1) := by decide +kernel
theorem dX12_town_80 : decode cX12_town 80 = .ok (.iconst 1, 1) := by decide +kernel
theorem dX12_town_81 : decode cX12_town 81 = .ok (.if_icmp .ne 10, 3) := by decide +kernel
theorem dX12_town_84 : decode cX12_town 84 = .ok (.aload_n 0, 1) := by decide +kernel
theorem dX12_town_85 : decode cX12_town 85 = .ok (.invokevirtual 307, 3) := by decide +kernel
theorem dX12_town_88 : decode cX12_town 88 = .ok (.goto 31, 3) := by decide +kernel
theorem dX12_town_91 : decode cX12_town 91 = .ok (.iload_n 2, 1) := by decide +kernel
theorem dX12_town_92 : decode cX12_town 92 = .ok (.iconst 2, 1) := by decide +kernel
theorem dX12_town_93 : decode cX12_town 93 = .ok (.if_icmp .ne 10, 3) := by decide +kernel
theorem dX12_town_96 : decode cX12_town 96 = .ok (.aload_n 0, 1) := by decide +kernel
theorem dX12_town_97 : decode cX12_town 97 = .ok (.invokevirtual 310, 3) := by decide +kernel
theorem dX12_town_100 : decode cX12_town 100 = .ok (.goto 19, 3) := by decide +kernel
theorem dX12_town_103 : decode cX12_town 103 = .ok (.iload_n 2, 1) := by decide +kernel
theorem dX12_town_104 : decode cX12_town 104 = .ok (.iconst 3, 1) := by decide +kernel
theorem dX12_town_105 : decode cX12_town 105 = .ok (.if_icmp .ne 10, 3) := by decide +kernel
theorem dX12_town_108 : decode cX12_town 108 = .ok (.aload_n 0, 1) := by decide +kernel
theorem dX12_town_109 : decode cX12_town 109 = .ok (.invokevirtual 313, 3) := by decide +kernel
theorem dX12_town_112 : decode cX12_town 112 = .ok (.goto 7, 3) := by decide +kernel
theorem dX12_town_115 : decode cX12_town 115 = .ok (.aload_n 0, 1) := by decide +kernel
theorem dX12_town_116 : decode cX12_town 116 = .ok (.invokevirtual 264, 3) := by decide +kernel
theorem dX12_town_119 : decode cX12_town 119 = .ok (.aload_n 0, 1) := by decide +kernel
theorem dX12_town_120 : decode cX12_town 120 = .ok (.aload_n 0, 1) := by decide +kernel
theorem dX12_town_121 : decode cX12_town 121 = .ok (.bipush 59, 2) := by decide +kernel
theorem dX12_town_123 : decode cX12_town 123 = .ok (.invokevirtual 316, 3) := by decide +kernel
theorem dX12_town_126 : decode cX12_town 126 = .ok (.invokevirtual 290, 3) := by decide +kernel
theorem dX12_town_129 : decode cX12_town 129 = .ok (.goto (-80), 3) := by decide +kernel
theorem dX12_town_132 : decode cX12_town 132 = .ok (.aload_n 0, 1) := by decide +kernel
theorem dX12_town_133 : decode cX12_town 133 = .ok (.invokevirtual 319, 3) := by decide +kernel
theorem dX12_town_136 : decode cX12_town 136 = .ok (.ifCond .ne 5, 3) := by decide +kernel
theorem dX12_town_139 : decode cX12_town 139 = .ok (.iconst (-1), 1) := by decide +kernel
theorem dX12_town_140 : decode cX12_town 140 = .ok (.ireturn, 1) := by decide +kernel
theorem dX12_town_141 : decode cX12_town 141 = .ok (.iconst 0, 1) := by decide +kernel
theorem dX12_town_142 : decode cX12_town 142 = .ok (.istore_n 2, 1) := by decide +kernel
theorem dX12_town_143 : decode cX12_town 143 = .ok (.iload_n 2, 1) := by decide +kernel
theorem dX12_town_144 : decode cX12_town 144 = .ok (.sipush 650, 3) := by decide +kernel
theorem dX12_town_147 : decode cX12_town 147 = .ok (.if_icmp .ge 25, 3) := by decide +kernel
theorem dX12_town_150 : decode cX12_town 150 = .ok (.aload_n 0, 1) := by decide +kernel
theorem dX12_town_151 : decode cX12_town 151 = .ok (.getfield 35, 3) := by decide +kernel
theorem dX12_town_154 : decode cX12_town 154 = .ok (.iload_n 2, 1) := by decide +kernel
theorem dX12_town_155 : decode cX12_town 155 = .ok (.aload_n 0, 1) := by decide +kernel
theorem dX12_town_156 : decode cX12_town 156 = .ok (.getfield 35, 3) := by decide +kernel
theorem dX12_town_159 : decode cX12_town 159 = .ok (.sipush 2600, 3) := by decide +kernel
theorem dX12_town_162 : decode cX12_town 162 = .ok (.iload_n 2, 1) := by decide +kernel
theorem dX12_town_163 : decode cX12_town 163 = .ok (.iadd, 1) := by decide +kernel
theorem dX12_town_164 : decode cX12_town 164 = .ok (.iaload, 1) := by decide +kernel
theorem dX12_town_165 : decode cX12_town 165 = .ok (.iastore, 1) := by decide +kernel
theorem dX12_town_166 : decode cX12_town 166 = .ok (.iinc 2 1, 3) := by decide +kernel
theorem dX12_town_169 : decode cX12_town 169 = .ok (.goto (-26), 3) := by decide +kernel
theorem dX12_town_172 : decode cX12_town 172 = .ok (.iconst 0, 1) := by decide +kernel
theorem dX12_town_173 : decode cX12_town 173 = .ok (.istore_n 2, 1) := by decide +kernel
theorem dX12_town_174 : decode cX12_town 174 = .ok (.iload_n 2, 1) := by decide +kernel
theorem dX12_town_175 : decode cX12_town 175 = .ok (.bipush 26, 2) := by decide +kernel
theorem dX12_town_177 : decode cX12_town 177 = .ok (.if_icmp .ge 24, 3) := by decide +kernel
theorem dX12_town_180 : decode cX12_town 180 = .ok (.aload_n 0, 1) := by decide +kernel
theorem dX12_town_181 : decode cX12_town 181 = .ok (.getfield 38, 3) := by decide +kernel
theorem dX12_town_184 : decode cX12_town 184 = .ok (.iload_n 2, 1) := by decide +kernel
theorem dX12_town_185 : decode cX12_town 185 = .ok (.aload_n 0, 1) := by decide +kernel
theorem dX12_town_186 : decode cX12_town 186 = .ok (.getfield 38, 3) := by decide +kernel
theorem dX12_town_189 : decode cX12_town 189 = .ok (.bipush 104, 2) := by decide +kernel
theorem dX12_town_191 : decode cX12_town 191 = .ok (.iload_n 2, 1) := by decide +kernel
theorem dX12_town_192 : decode cX12_town 192 = .ok (.iadd, 1) := by decide +kernel
theorem dX12_town_193 : decode cX12_town 193 = .ok (.laload, 1) := by decide +kernel
theorem dX12_town_194 : decode cX12_town 194 = .ok (.lastore, 1) := by decide +kernel
theorem dX12_town_195 : decode cX12_town 195 = .ok (.iinc 2 1, 3) := by decide +kernel
theorem dX12_town_198 : decode cX12_town 198 = .ok (.goto (-24), 3) := by decide +kernel
theorem dX12_town_201 : decode cX12_town 201 = .ok (.aload_n 0, 1) := by decide +kernel
theorem dX12_town_202 : decode cX12_town 202 = .ok (.getfield 35, 3) := by decide +kernel
theorem dX12_town_205 : decode cX12_town 205 = .ok (.iconst 0, 1) := by decide +kernel
theorem dX12_town_206 : decode cX12_town 206 = .ok (.iaload, 1) := by decide +kernel
theorem dX12_town_207 : decode cX12_town 207 = .ok (.ireturn, 1) := by decide +kernel
theorem dX12_lawStep_0 : decode cX12_lawStep 0 = .ok (.aload_n 0, 1) := by decide +kernel
theorem dX12_lawStep_1 : decode cX12_lawStep 1 = .ok (.getfield 251, 3) := by decide +kernel
theorem dX12_lawStep_4 : decode cX12_lawStep 4 = .ok (.ifCond .le 4, 3) := by decide +kernel
theorem dX12_lawStep_7 : decode cX12_lawStep 7 = .ok (.return_, 1) := by decide +kernel
theorem dX12_lawStep_8 : decode cX12_lawStep 8 = .ok (.aload_n 0, 1) := by decide +kernel
theorem dX12_lawStep_9 : decode cX12_lawStep 9 = .ok (.getfield 35, 3) := by decide +kernel
theorem dX12_lawStep_12 : decode cX12_lawStep 12 = .ok (.sipush 2755, 3) := by decide +kernel
theorem dX12_lawStep_15 : decode cX12_lawStep 15 = .ok (.iconst 2, 1) := by decide +kernel
theorem dX12_lawStep_16 : decode cX12_lawStep 16 = .ok (.aload_n 0, 1) := by decide +kernel
theorem dX12_lawStep_17 : decode cX12_lawStep 17 = .ok (.getfield 322, 3) := by decide +kernel
theorem dX12_lawStep_20 : decode cX12_lawStep 20 = .ok (.imul, 1) := by decide +kernel
theorem dX12_lawStep_21 : decode cX12_lawStep 21 = .ok (.iadd, 1) := by decide +kernel
theorem dX12_lawStep_22 : decode cX12_lawStep 22 = .ok (.iload_n 1, 1) := by decide +kernel
theorem dX12_lawStep_23 : decode cX12_lawStep 23 = .ok (.iastore, 1) := by decide +kernel
theorem dX12_lawStep_24 : decode cX12_lawStep 24 = .ok (.aload_n 0, 1) := by decide +kernel
theorem dX12_lawStep_25 : decode cX12_lawStep 25 = .ok (.getfield 35, 3) := by decide +kernel
theorem dX12_lawStep_28 : decode cX12_lawStep 28 = .ok (.sipush 2755, 3) := by decide +kernel
theorem dX12_lawStep_31 : decode cX12_lawStep 31 = .ok (.iconst 2, 1) := by decide +kernel
theorem dX12_lawStep_32 : decode cX12_lawStep 32 = .ok (.aload_n 0, 1) := by decide +kernel
theorem dX12_lawStep_33 : decode cX12_lawStep 33 = .ok (.getfield 322, 3) := by decide +kernel
theorem dX12_lawStep_36 : decode cX12_lawStep 36 = .ok (.imul, 1) := by decide +kernel
theorem dX12_lawStep_37 : decode cX12_lawStep 37 = .ok (.iadd, 1) := by decide +kernel
theorem dX12_lawStep_38 : decode cX12_lawStep 38 = .ok (.iconst 1, 1) := by decide +kernel
theorem dX12_lawStep_39 : decode cX12_lawStep 39 = .ok (.iadd, 1) := by decide +kernel
theorem dX12_lawStep_40 : decode cX12_lawStep 40 = .ok (.iload_n 2, 1) := by decide +kernel
theorem dX12_lawStep_41 : decode cX12_lawStep 41 = .ok (.iastore, 1) := by decide +kernel
theorem dX12_lawStep_42 : decode cX12_lawStep 42 = .ok (.aload_n 0, 1) := by decide +kernel
theorem dX12_lawStep_43 : decode cX12_lawStep 43 = .ok (.dup, 1) := by decide +kernel
theorem dX12_lawStep_44 : decode cX12_lawStep 44 = .ok (.getfield 322, 3) := by decide +kernel
theorem dX12_lawStep_47 : decode cX12_lawStep 47 = .ok (.iconst 1, 1) := by decide +kernel
theorem dX12_lawStep_48 : decode cX12_lawStep 48 = .ok (.iadd, 1) := by decide +kernel
theorem dX12_lawStep_49 : decode cX12_lawStep 49 = .ok (.putfield 322, 3) := by decide +kernel
theorem dX12_lawStep_52 : decode cX12_lawStep 52 = .ok (.return_, 1) := by decide +kernel
theorem dX12_isCase_0 : decode cX12_isCase 0 = .ok (.aload_n 0, 1) := by decide +kernel
theorem dX12_isCase_1 : decode cX12_isCase 1 = .ok (.invokevirtual 221, 3) := by decide +kernel
theorem dX12_isCase_4 : decode cX12_isCase 4 = .ok (.ifCond .ne 31, 3) := by decide +kernel
theorem dX12_isCase_7 : decode cX12_isCase 7 = .ok (.aload_n 0, 1) := by decide +kernel
theorem dX12_isCase_8 : decode cX12_isCase 8 = .ok (.invokevirtual 224, 3) := by decide +kernel
theorem dX12_isCase_11 : decode cX12_isCase 11 = .ok (.ifCond .ne 24, 3) := by decide +kernel
theorem dX12_isCase_14 : decode cX12_isCase 14 = .ok (.aload_n 0, 1) := by decide +kernel
theorem dX12_isCase_15 : decode cX12_isCase 15 = .ok (.invokevirtual 227, 3) := by decide +kernel
theorem dX12_isCase_18 : decode cX12_isCase 18 = .ok (.ifCond .ne 17, 3) := by decide +kernel
theorem dX12_isCase_21 : decode cX12_isCase 21 = .ok (.aload_n 0, 1) := by decide +kernel
theorem dX12_isCase_22 : decode cX12_isCase 22 = .ok (.invokevirtual 230, 3) := by decide +kernel
theorem dX12_isCase_25 : decode cX12_isCase 25 = .ok (.ifCond .ne 10, 3) := by decide +kernel
theorem dX12_isCase_28 : decode cX12_isCase 28 = .ok (.aload_n 0, 1) := by decide +kernel
theorem dX12_isCase_29 : decode cX12_isCase 29 = .ok (.invokevirtual 233, 3) := by decide +kernel
theorem dX12_isCase_32 : decode cX12_isCase 32 = .ok (.ifCond .eq 7, 3) := by decide +kernel
theorem dX12_isCase_35 : decode cX12_isCase 35 = .ok (.iconst 1, 1) := by decide +kernel
theorem dX12_isCase_36 : decode cX12_isCase 36 = .ok (.goto 4, 3) := by decide +kernel
theorem dX12_isCase_39 : decode cX12_isCase 39 = .ok (.iconst 0, 1) := by decide +kernel
theorem dX12_isCase_40 : decode cX12_isCase 40 = .ok (.ireturn, 1) := by decide +kernel
theorem dX12_readCase_0 : decode cX12_readCase 0 = .ok (.aload_n 0, 1) := by decide +kernel
theorem dX12_readCase_1 : decode cX12_readCase 1 = .ok (.getfield 325, 3) := by decide +kernel
theorem dX12_readCase_4 : decode cX12_readCase 4 = .ok (.bipush 20, 2) := by decide +kernel
theorem dX12_readCase_6 : decode cX12_readCase 6 = .ok (.if_icmp .ne 13, 3) := by decide +kernel
theorem dX12_readCase_9 : decode cX12_readCase 9 = .ok (.aload_n 0, 1) := by decide +kernel
theorem dX12_readCase_10 : decode cX12_readCase 10 = .ok (.bipush 6, 2) := by decide +kernel
theorem dX12_readCase_12 : decode cX12_readCase 12 = .ok (.aload_n 0, 1) := by decide +kernel
theorem dX12_readCase_13 : decode cX12_readCase 13 = .ok (.getfield 132, 3) := by decide +kernel
theorem dX12_readCase_16 : decode cX12_readCase 16 = .ok (.invokevirtual 257, 3) := by decide +kernel
theorem dX12_readCase_19 : decode cX12_readCase 19 = .ok (.aload_n 0, 1) := by decide +kernel
theorem dX12_readCase_20 : decode cX12_readCase 20 = .ok (.getfield 251, 3) := by decide +kernel
theorem dX12_readCase_23 : decode cX12_readCase 23 = .ok (.ifCond .le 4, 3) := by decide +kernel
theorem dX12_readCase_26 : decode cX12_readCase 26 = .ok (.return_, 1) := by decide +kernel
theorem dX12_readCase_27 : decode cX12_readCase 27 = .ok (.aload_n 0, 1) := by decide +kernel
theorem dX12_readCase_28 : decode cX12_readCase 28 = .ok (.dup, 1) := by decide +kernel
theorem dX12_readCase_29 : decode cX12_readCase 29 = .ok (.getfield 325, 3) := by decide +kernel
theorem dX12_readCase_32 : decode cX12_readCase 32 = .ok (.iconst 1, 1) := by decide +kernel
theorem dX12_readCase_33 : decode cX12_readCase 33 = .ok (.iadd, 1) := by decide +kernel
theorem dX12_readCase_34 : decode cX12_readCase 34 = .ok (.putfield 325, 3) := by decide +kernel
theorem dX12_readCase_37 : decode cX12_readCase 37 = .ok (.aload_n 0, 1) := by decide +kernel
theorem dX12_readCase_38 : decode cX12_readCase 38 = .ok (.invokevirtual 230, 3) := by decide +kernel
theorem dX12_readCase_41 : decode cX12_readCase 41 = .ok (.istore_n 1, 1) := by decide +kernel
theorem dX12_readCase_42 : decode cX12_readCase 42 = .ok (.aload_n 0, 1) := by decide +kernel
theorem dX12_readCase_43 : decode cX12_readCase 43 = .ok (.invokevirtual 233, 3) := by decide +kernel
theorem dX12_readCase_46 : decode cX12_readCase 46 = .ok (.istore_n 2, 1) := by decide +kernel
theorem dX12_readCase_47 : decode cX12_readCase 47 = .ok (.aload_n 0, 1) := by decide +kernel
theorem dX12_readCase_48 : decode cX12_readCase 48 = .ok (.invokevirtual 221, 3) := by decide +kernel
theorem dX12_readCase_51 : decode cX12_readCase 51 = .ok (.ifCond .eq 7, 3) := by decide +kernel
theorem dX12_readCase_54 : decode cX12_readCase 54 = .ok (.iconst 0, 1) := by decide +kernel
theorem dX12_readCase_55 : decode cX12_readCase 55 = .ok (.goto 15, 3) := by decide +kernel
theorem dX12_readCase_58 : decode cX12_readCase 58 = .ok (.aload_n 0, 1) := by decide +kernel
theorem dX12_readCase_59 : decode cX12_readCase 59 = .ok (.invokevirtual 224, 3) := by decide +kernel
theorem dX12_readCase_62 : decode cX12_readCase 62 = .ok (.ifCond .eq 7, 3) := by decide +kernel
theorem dX12_readCase_65 : decode cX12_readCase 65 = .ok (.iconst 1, 1) := by decide +kernel
theorem dX12_readCase_66 : decode cX12_readCase 66 = .ok (.goto 4, 3) := by decide +kernel
theorem dX12_readCase_69 : decode cX12_readCase 69 = .ok (.iconst 2, 1) := by decide +kernel
theorem dX12_readCase_70 : decode cX12_readCase 70 = .ok (.istore_n 3, 1) := by decide +kernel
theorem dX12_readCase_71 : decode cX12_readCase 71 = .ok (.aload_n 0, 1) := by decide +kernel
theorem dX12_readCase_72 : decode cX12_readCase 72 = .ok (.invokevirtual 261, 3) := by decide +kernel
theorem dX12_readCase_75 : decode cX12_readCase 75 = .ok (.iload_n 1, 1) := by decide +kernel
theorem dX12_readCase_76 : decode cX12_readCase 76 = .ok (.ifCond .eq 27, 3) := by decide +kernel
theorem dX12_readCase_79 : decode cX12_readCase 79 = .ok (.aload_n 0, 1) := by decide +kernel
theorem dX12_readCase_80 : decode cX12_readCase 80 = .ok (.iconst 0, 1) := by decide +kernel
theorem dX12_readCase_81 : decode cX12_readCase 81 = .ok (.iconst 0, 1) := by decide +kernel
theorem dX12_readCase_82 : decode cX12_readCase 82 = .ok (.iconst 0, 1) := by decide +kernel
theorem dX12_readCase_83 : decode cX12_readCase 83 = .ok (.invokevirtual 287, 3) := by decide +kernel
theorem dX12_readCase_86 : decode cX12_readCase 86 = .ok (.istore 4, 2) := by decide +kernel
theorem dX12_readCase_88 : decode cX12_readCase 88 = .ok (.aload_n 0, 1) := by decide +kernel
theorem dX12_readCase_89 : decode cX12_readCase 89 = .ok (.iconst 1, 1) := by decide +kernel
theorem dX12_readCase_90 : decode cX12_readCase 90 = .ok (.invokevirtual 290, 3) := by decide +kernel
theorem dX12_readCase_93 : decode cX12_readCase 93 = .ok (.aload_n 0, 1) := by decide +kernel
theorem dX12_readCase_94 : decode cX12_readCase 94 = .ok (.iconst 3, 1) := by decide +kernel
theorem dX12_readCase_95 : decode cX12_readCase 95 = .ok (.iload 4, 2) := by decide +kernel
theorem dX12_readCase_97 : decode cX12_readCase 97 = .ok (.invokevirtual 328, 3) := by decide +kernel
theorem dX12_readCase_100 : decode cX12_readCase 100 = .ok (.goto 95, 3) := by decide +kernel
theorem dX12_readCase_103 : decode cX12_readCase 103 = .ok (.iload_n 2, 1) := by decide +kernel
theorem dX12_readCase_104 : decode cX12_readCase 104 = .ok (.ifCond .eq 85, 3) := by decide +kernel
theorem dX12_readCase_107 : decode cX12_readCase 107 = .ok (.aload_n 0, 1) := by decide +kernel
theorem dX12_readCase_108 : decode cX12_readCase 108 = .ok (.bipush 60, 2) := by decide +kernel
theorem dX12_readCase_110 : decode cX12_readCase 110 = .ok (.invokevirtual 316, 3) := by decide +kernel
theorem dX12_readCase_113 : decode cX12_readCase 113 = .ok (.ifCond .eq 7, 3) := by decide +kernel
theorem dX12_readCase_116 : decode cX12_readCase 116 = .ok (.iconst 4, 1) := by decide +kernel
theorem dX12_readCase_117 : decode cX12_readCase 117 = .ok (.goto 18, 3) := by decide +kernel
theorem dX12_readCase_120 : decode cX12_readCase 120 = .ok (.aload_n 0, 1) := by decide +kernel
theorem dX12_readCase_121 : decode cX12_readCase 121 = .ok (.bipush 62, 2) := by decide +kernel
theorem dX12_readCase_123 : decode cX12_readCase 123 = .ok (.invokevirtual 316, 3) := by decide +kernel
theorem dX12_readCase_126 : decode cX12_readCase 126 = .ok (.ifCond .eq 7, 3) := by decide +kernel
theorem dX12_readCase_129 : decode cX12_readCase 129 = .ok (.iconst 5, 1) := by decide +kernel
theorem dX12_readCase_130 : decode cX12_readCase 130 = .ok (.goto 5, 3) := by decide +kernel
theorem dX12_readCase_133 : decode cX12_readCase 133 = .ok (.bipush 6, 2) := by decide +kernel
theorem dX12_readCase_135 : decode cX12_readCase 135 = .ok (.istore 4, 2) := by decide +kernel
theorem dX12_readCase_137 : decode cX12_readCase 137 = .ok (.aload_n 0, 1) := by decide +kernel
theorem dX12_readCase_138 : decode cX12_readCase 138 = .ok (.aload_n 0, 1) := by decide +kernel
theorem dX12_readCase_139 : decode cX12_readCase 139 = .ok (.bipush 60, 2) := by decide +kernel
theorem dX12_readCase_141 : decode cX12_readCase 141 = .ok (.invokevirtual 316, 3) := by decide +kernel
theorem dX12_readCase_144 : decode cX12_readCase 144 = .ok (.ifCond .ne 21, 3) := by decide +kernel
theorem dX12_readCase_147 : decode cX12_readCase 147 = .ok (.aload_n 0, 1) := by decide +kernel
theorem dX12_readCase_148 : decode cX12_readCase 148 = .ok (.bipush 62, 2) := by decide +kernel
theorem dX12_readCase_150 : decode cX12_readCase 150 = .ok (.invokevirtual 316, 3) := by decide +kernel
theorem dX12_readCase_153 : decode cX12_readCase 153 = .ok (.ifCond .ne 12, 3) := by decide +kernel
theorem dX12_readCase_156 : decode cX12_readCase 156 = .ok (.aload_n 0, 1) := by decide +kernel
theorem dX12_readCase_157 : decode cX12_readCase 157 = .ok (.bipush 61, 2) := by decide +kernel
theorem dX12_readCase_159 : decode cX12_readCase 159 = .ok (.invokevirtual 316, 3) := by decide +kernel
theorem dX12_readCase_162 : decode cX12_readCase 162 = .ok (.ifCond .eq 7, 3) := by decide +kernel
theorem dX12_readCase_165 : decode cX12_readCase 165 = .ok (.iconst 1, 1) := by decide +kernel
theorem dX12_readCase_166 : decode cX12_readCase 166 = .ok (.goto 4, 3) := by decide +kernel
theorem dX12_readCase_169 : decode cX12_readCase 169 = .ok (.iconst 0, 1) := by decide +kernel
theorem dX12_readCase_170 : decode cX12_readCase 170 = .ok (.invokevirtual 290, 3) := by decide +kernel
theorem dX12_readCase_173 : decode cX12_readCase 173 = .ok (.aload_n 0, 1) := by decide +kernel
theorem dX12_readCase_174 : decode cX12_readCase 174 = .ok (.iload 4, 2) := by decide +kernel
theorem dX12_readCase_176 : decode cX12_readCase 176 = .ok (.aload_n 0, 1) := by decide +kernel
theorem dX12_readCase_177 : decode cX12_readCase 177 = .ok (.iconst 0, 1) := by decide +kernel
theorem dX12_readCase_178 : decode cX12_readCase 178 = .ok (.bipush 6, 2) := by decide +kernel
theorem dX12_readCase_180 : decode cX12_readCase 180 = .ok (.invokevirtual 294, 3) := by decide +kernel
theorem dX12_readCase_183 : decode cX12_readCase 183 = .ok (.invokevirtual 328, 3) := by decide +kernel
theorem dX12_readCase_186 : decode cX12_readCase 186 = .ok (.goto 9, 3) := by decide +kernel
theorem dX12_readCase_189 : decode cX12_readCase 189 = .ok (.aload_n 0, 1) := by decide +kernel
theorem dX12_readCase_190 : decode cX12_readCase 190 = .ok (.iload_n 3, 1) := by decide +kernel
theorem dX12_readCase_191 : decode cX12_readCase 191 = .ok (.iconst 0, 1) := by decide +kernel
theorem dX12_readCase_192 : decode cX12_readCase 192 = .ok (.invokevirtual 328, 3) := by decide +kernel
theorem dX12_readCase_195 : decode cX12_readCase 195 = .ok (.return_, 1) := by decide +kernel
theorem dX12_readOne_0 : decode cX12_readOne 0 = .ok (.aload_n 0, 1) := by decide +kernel
theorem dX12_readOne_1 : decode cX12_readOne 1 = .ok (.getfield 251, 3) := by decide +kernel
theorem dX12_readOne_4 : decode cX12_readOne 4 = .ok (.ifCond .le 4, 3) := by decide +kernel
theorem dX12_readOne_7 : decode cX12_readOne 7 = .ok (.return_, 1) := by decide +kernel
theorem dX12_readOne_8 : decode cX12_readOne 8 = .ok (.aload_n 0, 1) := by decide +kernel
theorem dX12_readOne_9 : decode cX12_readOne 9 = .ok (.invokevirtual 242, 3) := by decide +kernel
theorem dX12_readOne_12 : decode cX12_readOne 12 = .ok (.istore_n 2, 1) := by decide +kernel
theorem dX12_readOne_13 : decode cX12_readOne 13 = .ok (.aload_n 0, 1) := by decide +kernel
theorem dX12_readOne_14 : decode cX12_readOne 14 = .ok (.bipush 40, 2) := by decide +kernel
theorem dX12_readOne_16 : decode cX12_readOne 16 = .ok (.invokevirtual 316, 3) := by decide +kernel
theorem dX12_readOne_19 : decode cX12_readOne 19 = .ok (.istore_n 3, 1) := by decide +kernel
theorem dX12_readOne_20 : decode cX12_readOne 20 = .ok (.iload_n 2, 1) := by decide +kernel
theorem dX12_readOne_21 : decode cX12_readOne 21 = .ok (.ifCond .ne 18, 3) := by decide +kernel
theorem dX12_readOne_24 : decode cX12_readOne 24 = .ok (.iload_n 3, 1) := by decide +kernel
theorem dX12_readOne_25 : decode cX12_readOne 25 = .ok (.ifCond .ne 14, 3) := by decide +kernel
theorem dX12_readOne_28 : decode cX12_readOne 28 = .ok (.aload_n 0, 1) := by decide +kernel
theorem dX12_readOne_29 : decode cX12_readOne 29 = .ok (.invokevirtual 331, 3) := by decide +kernel
theorem dX12_readOne_32 : decode cX12_readOne 32 = .ok (.ifCond .ne 7, 3) := by decide +kernel
theorem dX12_readOne_35 : decode cX12_readOne 35 = .ok (.aload_n 0, 1) := by decide +kernel
theorem dX12_readOne_36 : decode cX12_readOne 36 = .ok (.invokevirtual 264, 3) := by decide +kernel
theorem dX12_readOne_39 : decode cX12_readOne 39 = .ok (.aload_n 0, 1) := by decide +kernel
theorem dX12_readOne_40 : decode cX12_readOne 40 = .ok (.getfield 251, 3) := by decide +kernel
theorem dX12_readOne_43 : decode cX12_readOne 43 = .ok (.ifCond .ne 30, 3) := by decide +kernel
theorem dX12_readOne_46 : decode cX12_readOne 46 = .ok (.iload_n 2, 1) := by decide +kernel
theorem dX12_readOne_47 : decode cX12_readOne 47 = .ok (.ifCond .ne 26, 3) := by decide +kernel
theorem dX12_readOne_50 : decode cX12_readOne 50 = .ok (.iload_n 3, 1) := by decide +kernel
theorem dX12_readOne_51 : decode cX12_readOne 51 = .ok (.ifCond .ne 22, 3) := by decide +kernel
theorem dX12_readOne_54 : decode cX12_readOne 54 = .ok (.aload_n 0, 1) := by decide +kernel
theorem dX12_readOne_55 : decode cX12_readOne 55 = .ok (.getfield 325, 3) := by decide +kernel
theorem dX12_readOne_58 : decode cX12_readOne 58 = .ok (.bipush 20, 2) := by decide +kernel
theorem dX12_readOne_60 : decode cX12_readOne 60 = .ok (.if_icmp .ne 13, 3) := by decide +kernel
theorem dX12_readOne_63 : decode cX12_readOne 63 = .ok (.aload_n 0, 1) := by decide +kernel
theorem dX12_readOne_64 : decode cX12_readOne 64 = .ok (.bipush 6, 2) := by decide +kernel
theorem dX12_readOne_66 : decode cX12_readOne 66 = .ok (.aload_n 0, 1) := by decide +kernel
theorem dX12_readOne_67 : decode cX12_readOne 67 = .ok (.getfield 132, 3) := by decide +kernel
theorem dX12_readOne_70 : decode cX12_readOne 70 = .ok (.invokevirtual 257, 3) := by decide +kernel
theorem dX12_readOne_73 : decode cX12_readOne 73 = .ok (.aload_n 0, 1) := by decide +kernel
theorem dX12_readOne_74 : decode cX12_readOne 74 = .ok (.getfield 251, 3) := by decide +kernel
theorem dX12_readOne_77 : decode cX12_readOne 77 = .ok (.ifCond .ne 19, 3) := by decide +kernel
theorem dX12_readOne_80 : decode cX12_readOne 80 = .ok (.iload_n 1, 1) := by decide +kernel
theorem dX12_readOne_81 : decode cX12_readOne 81 = .ok (.bipush 6, 2) := by decide +kernel
theorem dX12_readOne_83 : decode cX12_readOne 83 = .ok (.if_icmp .ne 13, 3) := by decide +kernel
theorem dX12_readOne_86 : decode cX12_readOne 86 = .ok (.aload_n 0, 1) := by decide +kernel
theorem dX12_readOne_87 : decode cX12_readOne 87 = .ok (.bipush 7, 2) := by decide +kernel
theorem dX12_readOne_89 : decode cX12_readOne 89 = .ok (.aload_n 0, 1) := by decide +kernel
theorem dX12_readOne_90 : decode cX12_readOne 90 = .ok (.getfield 132, 3) := by decide +kernel
theorem dX12_readOne_93 : decode cX12_readOne 93 = .ok (.invokevirtual 257, 3) := by decide +kernel
theorem dX12_readOne_96 : decode cX12_readOne 96 = .ok (.aload_n 0, 1) := by decide +kernel
theorem dX12_readOne_97 : decode cX12_readOne 97 = .ok (.getfield 251, 3) := by decide +kernel
theorem dX12_readOne_100 : decode cX12_readOne 100 = .ok (.ifCond .le 4, 3) := by decide +kernel
theorem dX12_readOne_103 : decode cX12_readOne 103 = .ok (.return_, 1) := by decide +kernel
theorem dX12_readOne_104 : decode cX12_readOne 104 = .ok (.iload_n 2, 1) := by decide +kernel
theorem dX12_readOne_105 : decode cX12_readOne 105 = .ok (.ifCond .eq 24, 3) := by decide +kernel
theorem dX12_readOne_108 : decode cX12_readOne 108 = .ok (.aload_n 0, 1) := by decide +kernel
theorem dX12_readOne_109 : decode cX12_readOne 109 = .ok (.invokevirtual 261, 3) := by decide +kernel
theorem dX12_readOne_112 : decode cX12_readOne 112 = .ok (.aload_n 0, 1) := by decide +kernel
theorem dX12_readOne_113 : decode cX12_readOne 113 = .ok (.iload_n 1, 1) := by decide +kernel
theorem dX12_readOne_114 : decode cX12_readOne 114 = .ok (.iconst 1, 1) := by decide +kernel
theorem dX12_readOne_115 : decode cX12_readOne 115 = .ok (.iadd, 1) := by decide +kernel
theorem dX12_readOne_116 : decode cX12_readOne 116 = .ok (.invokevirtual 334, 3) := by decide +kernel
theorem dX12_readOne_119 : decode cX12_readOne 119 = .ok (.aload_n 0, 1) := by decide +kernel
theorem dX12_readOne_120 : decode cX12_readOne 120 = .ok (.bipush 7, 2) := by decide +kernel
theorem dX12_readOne_122 : decode cX12_readOne 122 = .ok (.iconst 0, 1) := by decide +kernel
theorem dX12_readOne_123 : decode cX12_readOne 123 = .ok (.invokevirtual 328, 3) := by decide +kernel
theorem dX12_readOne_126 : decode cX12_readOne 126 = .ok (.goto 35, 3) := by decide +kernel
theorem dX12_readOne_129 : decode cX12_readOne 129 = .ok (.iload_n 3, 1) := by decide +kernel
theorem dX12_readOne_130 : decode cX12_readOne 130 = .ok (.ifCond .eq 27, 3) := by decide +kernel
theorem dX12_readOne_133 : decode cX12_readOne 133 = .ok (.aload_n 0, 1) := by decide +kernel
theorem dX12_readOne_134 : decode cX12_readOne 134 = .ok (.invokevirtual 261, 3) := by decide +kernel
theorem dX12_readOne_137 : decode cX12_readOne 137 = .ok (.aload_n 0, 1) := by decide +kernel
theorem dX12_readOne_138 : decode cX12_readOne 138 = .ok (.iload_n 1, 1) := by decide +kernel
theorem dX12_readOne_139 : decode cX12_readOne 139 = .ok (.iconst 1, 1) := by decide +kernel
theorem dX12_readOne_140 : decode cX12_readOne 140 = .ok (.iadd, 1) := by decide +kernel
theorem dX12_readOne_141 : decode cX12_readOne 141 = .ok (.invokevirtual 337, 3) := by decide +kernel
theorem dX12_readOne_144 : decode cX12_readOne 144 = .ok (.aload_n 0, 1) := by decide +kernel
theorem dX12_readOne_145 : decode cX12_readOne 145 = .ok (.aload_n 0, 1) := by decide +kernel
theorem dX12_readOne_146 : decode cX12_readOne 146 = .ok (.bipush 41, 2) := by decide +kernel
theorem dX12_readOne_148 : decode cX12_readOne 148 = .ok (.invokevirtual 316, 3) := by decide +kernel
theorem dX12_readOne_151 : decode cX12_readOne 151 = .ok (.invokevirtual 290, 3) := by decide +kernel
theorem dX12_readOne_154 : decode cX12_readOne 154 = .ok (.goto 7, 3) := by decide +kernel
theorem dX12_readOne_157 : decode cX12_readOne 157 = .ok (.aload_n 0, 1) := by decide +kernel
theorem dX12_readOne_158 : decode cX12_readOne 158 = .ok (.invokevirtual 340, 3) := by decide +kernel
theorem dX12_readOne_161 : decode cX12_readOne 161 = .ok (.return_, 1) := by decide +kernel
theorem dX12_readBoth_0 : decode cX12_readBoth 0 = .ok (.aload_n 0, 1) := by decide +kernel
theorem dX12_readBoth_1 : decode cX12_readBoth 1 = .ok (.iload_n 1, 1) := by decide +kernel
theorem dX12_readBoth_2 : decode cX12_readBoth 2 = .ok (.invokevirtual 334, 3) := by decide +kernel
theorem dX12_readBoth_5 : decode cX12_readBoth 5 = .ok (.aload_n 0, 1) := by decide +kernel
theorem dX12_readBoth_6 : decode cX12_readBoth 6 = .ok (.getfield 251, 3) := by decide +kernel
theorem dX12_readBoth_9 : decode cX12_readBoth 9 = .ok (.ifCond .ne 29, 3) := by decide +kernel
theorem dX12_readBoth_12 : decode cX12_readBoth 12 = .ok (.aload_n 0, 1) := by decide +kernel
theorem dX12_readBoth_13 : decode cX12_readBoth 13 = .ok (.invokevirtual 239, 3) := by decide +kernel
theorem dX12_readBoth_16 : decode cX12_readBoth 16 = .ok (.ifCond .eq 22, 3) := by decide +kernel
theorem dX12_readBoth_19 : decode cX12_readBoth 19 = .ok (.aload_n 0, 1) := by decide +kernel
theorem dX12_readBoth_20 : decode cX12_readBoth 20 = .ok (.invokevirtual 261, 3) := by decide +kernel
theorem dX12_readBoth_23 : decode cX12_readBoth 23 = .ok (.aload_n 0, 1) := by decide +kernel
theorem dX12_readBoth_24 : decode cX12_readBoth 24 = .ok (.iload_n 1, 1) := by decide +kernel
theorem dX12_readBoth_25 : decode cX12_readBoth 25 = .ok (.invokevirtual 334, 3) := by decide +kernel
theorem dX12_readBoth_28 : decode cX12_readBoth 28 = .ok (.aload_n 0, 1) := by decide +kernel
theorem dX12_readBoth_29 : decode cX12_readBoth 29 = .ok (.bipush 8, 2) := by decide +kernel
theorem dX12_readBoth_31 : decode cX12_readBoth 31 = .ok (.iconst 0, 1) := by decide +kernel
theorem dX12_readBoth_32 : decode cX12_readBoth 32 = .ok (.invokevirtual 328, 3) := by decide +kernel
theorem dX12_readBoth_35 : decode cX12_readBoth 35 = .ok (.goto (-30), 3) := by decide +kernel
theorem dX12_readBoth_38 : decode cX12_readBoth 38 = .ok (.return_, 1) := by decide +kernel
theorem dX12_readEither_0 : decode cX12_readEither 0 = .ok (.aload_n 0, 1) := by decide +kernel
theorem dX12_readEither_1 : decode cX12_readEither 1 = .ok (.iload_n 1, 1) := by decide +kernel
theorem dX12_readEither_2 : decode cX12_readEither 2 = .ok (.invokevirtual 343, 3) := by decide +kernel
theorem dX12_readEither_5 : decode cX12_readEither 5 = .ok (.aload_n 0, 1) := by decide +kernel
theorem dX12_readEither_6 : decode cX12_readEither 6 = .ok (.getfield 251, 3) := by decide +kernel
theorem dX12_readEither_9 : decode cX12_readEither 9 = .ok (.ifCond .ne 29, 3) := by decide +kernel
theorem dX12_readEither_12 : decode cX12_readEither 12 = .ok (.aload_n 0, 1) := by decide +kernel
theorem dX12_readEither_13 : decode cX12_readEither 13 = .ok (.invokevirtual 236, 3) := by decide +kernel
theorem dX12_readEither_16 : decode cX12_readEither 16 = .ok (.ifCond .eq 22, 3) := by decide +kernel
theorem dX12_readEither_19 : decode cX12_readEither 19 = .ok (.aload_n 0, 1) := by decide +kernel
theorem dX12_readEither_20 : decode cX12_readEither 20 = .ok (.invokevirtual 261, 3) := by decide +kernel
theorem dX12_readEither_23 : decode cX12_readEither 23 = .ok (.aload_n 0, 1) := by decide +kernel
theorem dX12_readEither_24 : decode cX12_readEither 24 = .ok (.iload_n 1, 1) := by decide +kernel
theorem dX12_readEither_25 : decode cX12_readEither 25 = .ok (.invokevirtual 343, 3) := by decide +kernel
theorem dX12_readEither_28 : decode cX12_readEither 28 = .ok (.aload_n 0, 1) := by decide +kernel
theorem dX12_readEither_29 : decode cX12_readEither 29 = .ok (.bipush 9, 2) := by decide +kernel
theorem dX12_readEither_31 : decode cX12_readEither 31 = .ok (.iconst 0, 1) := by decide +kernel
theorem dX12_readEither_32 : decode cX12_readEither 32 = .ok (.invokevirtual 328, 3) := by decide +kernel
theorem dX12_readEither_35 : decode cX12_readEither 35 = .ok (.goto (-30), 3) := by decide +kernel
theorem dX12_readEither_38 : decode cX12_readEither 38 = .ok (.return_, 1) := by decide +kernel
theorem dX12_law_0 : decode cX12_law 0 = .ok (.aload_n 0, 1) := by decide +kernel
theorem dX12_law_1 : decode cX12_law 1 = .ok (.iconst 0, 1) := by decide +kernel
theorem dX12_law_2 : decode cX12_law 2 = .ok (.putfield 87, 3) := by decide +kernel
theorem dX12_law_5 : decode cX12_law 5 = .ok (.aload_n 0, 1) := by decide +kernel
theorem dX12_law_6 : decode cX12_law 6 = .ok (.iconst 0, 1) := by decide +kernel
theorem dX12_law_7 : decode cX12_law 7 = .ok (.putfield 90, 3) := by decide +kernel
theorem dX12_law_10 : decode cX12_law 10 = .ok (.aload_n 0, 1) := by decide +kernel
theorem dX12_law_11 : decode cX12_law 11 = .ok (.iload_n 1, 1) := by decide +kernel
theorem dX12_law_12 : decode cX12_law 12 = .ok (.sipush 300, 3) := by decide +kernel
theorem dX12_law_15 : decode cX12_law 15 = .ok (.invokevirtual 300, 3) := by decide +kernel
theorem dX12_law_18 : decode cX12_law 18 = .ok (.ifCond .ne 5, 3) := by decide +kernel
theorem dX12_law_21 : decode cX12_law 21 = .ok (.iconst (-1), 1) := by decide +kernel
theorem dX12_law_22 : decode cX12_law 22 = .ok (.ireturn, 1) := by decide +kernel
theorem dX12_law_23 : decode cX12_law 23 = .ok (.iconst 0, 1) := by decide +kernel
theorem dX12_law_24 : decode cX12_law 24 = .ok (.istore_n 2, 1) := by decide +kernel
theorem dX12_law_25 : decode cX12_law 25 = .ok (.iload_n 2, 1) := by decide +kernel
theorem dX12_law_26 : decode cX12_law 26 = .ok (.bipush 8, 2) := by decide +kernel
theorem dX12_law_28 : decode cX12_law 28 = .ok (.if_icmp .ge 20, 3) := by decide +kernel
theorem dX12_law_31 : decode cX12_law 31 = .ok (.aload_n 0, 1) := by decide +kernel
theorem dX12_law_32 : decode cX12_law 32 = .ok (.getfield 35, 3) := by decide +kernel
theorem dX12_law_35 : decode cX12_law 35 = .ok (.sipush 2621, 3) := by decide +kernel
theorem dX12_law_38 : decode cX12_law 38 = .ok (.iload_n 2, 1) := by decide +kernel
theorem dX12_law_39 : decode cX12_law 39 = .ok (.iadd, 1) := by decide +kernel
theorem dX12_law_40 : decode cX12_law 40 = .ok (.iconst 0, 1) := by decide +kernel
theorem dX12_law_41 : decode cX12_law 41 = .ok (.iastore, 1) := by decide +kernel
theorem dX12_law_42 : decode cX12_law 42 = .ok (.iinc 2 1, 3) := by decide +kernel
theorem dX12_law_45 : decode cX12_law 45 = .ok (.goto (-20), 3) := by decide +kernel
theorem dX12_law_48 : decode cX12_law 48 = .ok (.aload_n 0, 1) := by decide +kernel
theorem dX12_law_49 : decode cX12_law 49 = .ok (.iconst 0, 1) := by decide +kernel
theorem dX12_law_50 : decode cX12_law 50 = .ok (.putfield 322, 3) := by decide +kernel
theorem dX12_law_53 : decode cX12_law 53 = .ok (.aload_n 0, 1) := by decide +kernel
theorem dX12_law_54 : decode cX12_law 54 = .ok (.iconst 0, 1) := by decide +kernel
theorem dX12_law_55 : decode cX12_law 55 = .ok (.putfield 325, 3) := by decide +kernel
theorem dX12_law_58 : decode cX12_law 58 = .ok (.iconst 0, 1) := by decide +kernel
theorem dX12_law_59 : decode cX12_law 59 = .ok (.istore_n 2, 1) := by decide +kernel
theorem dX12_law_60 : decode cX12_law 60 = .ok (.aload_n 0, 1) := by decide +kernel
theorem dX12_law_61 : decode cX12_law 61 = .ok (.getfield 251, 3) := by decide +kernel
theorem dX12_law_64 : decode cX12_law 64 = .ok (.ifCond .ne 131, 3) := by decide +kernel
theorem dX12_law_67 : decode cX12_law 67 = .ok (.aload_n 0, 1) := by decide +kernel
theorem dX12_law_68 : decode cX12_law 68 = .ok (.getfield 138, 3) := by decide +kernel
theorem dX12_law_71 : decode cX12_law 71 = .ok (.ifCond .eq 124, 3) := by decide +kernel
theorem dX12_law_74 : decode cX12_law 74 = .ok (.aload_n 0, 1) := by decide +kernel
theorem dX12_law_75 : decode cX12_law 75 = .ok (.iconst 0, 1) := by decide +kernel
theorem dX12_law_76 : decode cX12_law 76 = .ok (.iconst 0, 1) := by decide +kernel
theorem dX12_law_77 : decode cX12_law 77 = .ok (.iconst 0, 1) := by decide +kernel
theorem dX12_law_78 : decode cX12_law 78 = .ok (.invokevirtual 287, 3) := by decide +kernel
theorem dX12_law_81 : decode cX12_law 81 = .ok (.istore_n 3, 1) := by decide +kernel
theorem dX12_law_82 : decode cX12_law 82 = .ok (.aload_n 0, 1) := by decide +kernel
theorem dX12_law_83 : decode cX12_law 83 = .ok (.getfield 251, 3) := by decide +kernel
theorem dX12_law_86 : decode cX12_law 86 = .ok (.ifCond .ne 26, 3) := by decide +kernel
theorem dX12_law_89 : decode cX12_law 89 = .ok (.aload_n 0, 1) := by decide +kernel
theorem dX12_law_90 : decode cX12_law 90 = .ok (.getfield 35, 3) := by decide +kernel
theorem dX12_law_93 : decode cX12_law 93 = .ok (.sipush 2621, 3) := by decide +kernel
theorem dX12_law_96 : decode cX12_law 96 = .ok (.iload_n 3, 1) := by decide +kernel
theorem dX12_law_97 : decode cX12_law 97 = .ok (.iadd, 1) := by decide +kernel
theorem dX12_law_98 : decode cX12_law 98 = .ok (.iaload, 1) := by decide +kernel
theorem dX12_law_99 : decode cX12_law 99 = .ok (.iconst 1, 1) := by decide +kernel
theorem dX12_law_100 : decode cX12_law 100 = .ok (.if_icmp .ne 12, 3) := by decide +kernel
theorem dX12_law_103 : decode cX12_law 103 = .ok (.aload_n 0, 1) := by decide +kernel
theorem dX12_law_104 : decode cX12_law 104 = .ok (.iconst 5, 1) := by decide +kernel
theorem dX12_law_105 : decode cX12_law 105 = .ok (.aload_n 0, 1) := by decide +kernel
theorem dX12_law_106 : decode cX12_law 106 = .ok (.getfield 132, 3) := by decide +kernel
theorem dX12_law_109 : decode cX12_law 109 = .ok (.invokevirtual 257, 3) := by decide +kernel
theorem dX12_law_112 : decode cX12_law 112 = .ok (.aload_n 0, 1) := by decide +kernel
theorem dX12_law_113 : decode cX12_law 113 = .ok (.iconst 1, 1) := by decide +kernel
theorem dX12_law_114 : decode cX12_law 114 = .ok (.invokevirtual 290, 3) := by decide +kernel
theorem dX12_law_117 : decode cX12_law 117 = .ok (.aload_n 0, 1) := by decide +kernel
theorem dX12_law_118 : decode cX12_law 118 = .ok (.aload_n 0, 1) := by decide +kernel
theorem dX12_law_119 : decode cX12_law 119 = .ok (.invokevirtual 218, 3) := by decide +kernel
theorem dX12_law_122 : decode cX12_law 122 = .ok (.invokevirtual 290, 3) := by decide +kernel
theorem dX12_law_125 : decode cX12_law 125 = .ok (.aload_n 0, 1) := by decide +kernel
theorem dX12_law_126 : decode cX12_law 126 = .ok (.getfield 251, 3) := by decide +kernel
theorem dX12_law_129 : decode cX12_law 129 = .ok (.ifCond .le 6, 3) := by decide +kernel
theorem dX12_law_132 : decode cX12_law 132 = .ok (.goto 63, 3) := by decide +kernel
theorem dX12_law_135 : decode cX12_law 135 = .ok (.aload_n 0, 1) := by decide +kernel
theorem dX12_law_136 : decode cX12_law 136 = .ok (.getfield 35, 3) := by decide +kernel
theorem dX12_law_139 : decode cX12_law 139 = .ok (.sipush 2621, 3) := by decide +kernel
theorem dX12_law_142 : decode cX12_law 142 = .ok (.iload_n 3, 1) := by decide +kernel
theorem dX12_law_143 : decode cX12_law 143 = .ok (.iadd, 1) := by decide +kernel
theorem dX12_law_144 : decode cX12_law 144 = .ok (.iconst 1, 1) := by decide +kernel
theorem dX12_law_145 : decode cX12_law 145 = .ok (.iastore, 1) := by decide +kernel
theorem dX12_law_146 : decode cX12_law 146 = .ok (.aload_n 0, 1) := by decide +kernel
theorem dX12_law_147 : decode cX12_law 147 = .ok (.getfield 35, 3) := by decide +kernel
theorem dX12_law_150 : decode cX12_law 150 = .ok (.sipush 2739, 3) := by decide +kernel
theorem dX12_law_153 : decode cX12_law 153 = .ok (.iload_n 3, 1) := by decide +kernel
theorem dX12_law_154 : decode cX12_law 154 = .ok (.iadd, 1) := by decide +kernel
theorem dX12_law_155 : decode cX12_law 155 = .ok (.aload_n 0, 1) := by decide +kernel
theorem dX12_law_156 : decode cX12_law 156 = .ok (.getfield 322, 3) := by decide +kernel
theorem dX12_law_159 : decode cX12_law 159 = .ok (.iastore, 1) := by decide +kernel
theorem dX12_law_160 : decode cX12_law 160 = .ok (.aload_n 0, 1) := by decide +kernel
theorem dX12_law_161 : decode cX12_law 161 = .ok (.iconst 0, 1) := by decide +kernel
theorem dX12_law_162 : decode cX12_law 162 = .ok (.invokevirtual 337, 3) := by decide +kernel
theorem dX12_law_165 : decode cX12_law 165 = .ok (.aload_n 0, 1) := by decide +kernel
theorem dX12_law_166 : decode cX12_law 166 = .ok (.aload_n 0, 1) := by decide +kernel
theorem dX12_law_167 : decode cX12_law 167 = .ok (.bipush 59, 2) := by decide +kernel
theorem dX12_law_169 : decode cX12_law 169 = .ok (.invokevirtual 316, 3) := by decide +kernel
theorem dX12_law_172 : decode cX12_law 172 = .ok (.invokevirtual 290, 3) := by decide +kernel
theorem dX12_law_175 : decode cX12_law 175 = .ok (.aload_n 0, 1) := by decide +kernel
theorem dX12_law_176 : decode cX12_law 176 = .ok (.getfield 35, 3) := by decide +kernel
theorem dX12_law_179 : decode cX12_law 179 = .ok (.sipush 2747, 3) := by decide +kernel
theorem dX12_law_182 : decode cX12_law 182 = .ok (.iload_n 3, 1) := by decide +kernel
theorem dX12_law_183 : decode cX12_law 183 = .ok (.iadd, 1) := by decide +kernel
theorem dX12_law_184 : decode cX12_law 184 = .ok (.aload_n 0, 1) := by decide +kernel
theorem dX12_law_185 : decode cX12_law 185 = .ok (.getfield 322, 3) := by decide +kernel
theorem dX12_law_188 : decode cX12_law 188 = .ok (.iastore, 1) := by decide +kernel
theorem dX12_law_189 : decode cX12_law 189 = .ok (.iinc 2 1, 3) := by decide +kernel
theorem dX12_law_192 : decode cX12_law 192 = .ok (.goto (-132), 3) := by decide +kernel
theorem dX12_law_195 : decode cX12_law 195 = .ok (.aload_n 0, 1) := by decide +kernel
theorem dX12_law_196 : decode cX12_law 196 = .ok (.invokevirtual 319, 3) := by decide +kernel
theorem dX12_law_199 : decode cX12_law 199 = .ok (.ifCond .ne 5, 3) := by decide +kernel
theorem dX12_law_202 : decode cX12_law 202 = .ok (.iconst (-1), 1) := by decide +kernel
theorem dX12_law_203 : decode cX12_law 203 = .ok (.ireturn, 1) := by decide +kernel
theorem dX12_law_204 : decode cX12_law 204 = .ok (.iconst 0, 1) := by decide +kernel
theorem dX12_law_205 : decode cX12_law 205 = .ok (.istore_n 3, 1) := by decide +kernel
theorem dX12_law_206 : decode cX12_law 206 = .ok (.iload_n 3, 1) := by decide +kernel
theorem dX12_law_207 : decode cX12_law 207 = .ok (.bipush 8, 2) := by decide +kernel
theorem dX12_law_209 : decode cX12_law 209 = .ok (.if_icmp .ge 68, 3) := by decide +kernel
theorem dX12_law_212 : decode cX12_law 212 = .ok (.aload_n 0, 1) := by decide +kernel
theorem dX12_law_213 : decode cX12_law 213 = .ok (.getfield 35, 3) := by decide +kernel
theorem dX12_law_216 : decode cX12_law 216 = .ok (.bipush 21, 2) := by decide +kernel
theorem dX12_law_218 : decode cX12_law 218 = .ok (.iload_n 3, 1) := by decide +kernel
theorem dX12_law_219 : decode cX12_law 219 = .ok (.iadd, 1) := by decide +kernel
theorem dX12_law_220 : decode cX12_law 220 = .ok (.aload_n 0, 1) := by decide +kernel
theorem dX12_law_221 : decode cX12_law 221 = .ok (.getfield 35, 3) := by decide +kernel
theorem dX12_law_224 : decode cX12_law 224 = .ok (.sipush 2621, 3) := by decide +kernel
theorem dX12_law_227 : decode cX12_law 227 = .ok (.iload_n 3, 1) := by decide +kernel
theorem dX12_law_228 : decode cX12_law 228 = .ok (.iadd, 1) := by decide +kernel
theorem dX12_law_229 : decode cX12_law 229 = .ok (.iaload, 1) := by decide +kernel
theorem dX12_law_230 : decode cX12_law 230 = .ok (.iastore, 1) := by decide +kernel
theorem dX12_law_231 : decode cX12_law 231 = .ok (.aload_n 0, 1) := by decide +kernel
theorem dX12_law_232 : decode cX12_law 232 = .ok (.getfield 35, 3) := by decide +kernel
theorem dX12_law_235 : decode cX12_law 235 = .ok (.sipush 139, 3) := by decide +kernel
theorem dX12_law_238 : decode cX12_law 238 = .ok (.iload_n 3, 1) := by decide +kernel
theorem dX12_law_239 : decode cX12_law 239 = .ok (.iadd, 1) := by decide +kernel
theorem dX12_law_240 : decode cX12_law 240 = .ok (.aload_n 0, 1) := by decide +kernel
theorem dX12_law_241 : decode cX12_law 241 = .ok (.getfield 35, 3) := by decide +kernel
theorem dX12_law_244 : decode cX12_law 244 = .ok (.sipush 2739, 3) := by decide +kernel
theorem dX12_law_247 : decode cX12_law 247 = .ok (.iload_n 3, 1) := by decide +kernel
theorem dX12_law_248 : decode cX12_law 248 = .ok (.iadd, 1) := by decide +kernel
theorem dX12_law_249 : decode cX12_law 249 = .ok (.iaload, 1) := by decide +kernel
theorem dX12_law_250 : decode cX12_law 250 = .ok (.iastore, 1) := by decide +kernel
theorem dX12_law_251 : decode cX12_law 251 = .ok (.aload_n 0, 1) := by decide +kernel
theorem dX12_law_252 : decode cX12_law 252 = .ok (.getfield 35, 3) := by decide +kernel
theorem dX12_law_255 : decode cX12_law 255 = .ok (.sipush 147, 3) := by decide +kernel
theorem dX12_law_258 : decode cX12_law 258 = .ok (.iload_n 3, 1) := by decide +kernel
theorem dX12_law_259 : decode cX12_law 259 = .ok (.iadd, 1) := by decide +kernel
theorem dX12_law_260 : decode cX12_law 260 = .ok (.aload_n 0, 1) := by decide +kernel
theorem dX12_law_261 : decode cX12_law 261 = .ok (.getfield 35, 3) := by decide +kernel
theorem dX12_law_264 : decode cX12_law 264 = .ok (.sipush 2747, 3) := by decide +kernel
theorem dX12_law_267 : decode cX12_law 267 = .ok (.iload_n 3, 1) := by decide +kernel
theorem dX12_law_268 : decode cX12_law 268 = .ok (.iadd, 1) := by decide +kernel
theorem dX12_law_269 : decode cX12_law 269 = .ok (.iaload, 1) := by decide +kernel
theorem dX12_law_270 : decode cX12_law 270 = .ok (.iastore, 1) := by decide +kernel
theorem dX12_law_271 : decode cX12_law 271 = .ok (.iinc 3 1, 3) := by decide +kernel
theorem dX12_law_274 : decode cX12_law 274 = .ok (.goto (-68), 3) := by decide +kernel
theorem dX12_law_277 : decode cX12_law 277 = .ok (.iconst 0, 1) := by decide +kernel
theorem dX12_law_278 : decode cX12_law 278 = .ok (.istore_n 3, 1) := by decide +kernel
theorem dX12_law_279 : decode cX12_law 279 = .ok (.iload_n 3, 1) := by decide +kernel
theorem dX12_law_280 : decode cX12_law 280 = .ok (.iconst 2, 1) := by decide +kernel
theorem dX12_law_281 : decode cX12_law 281 = .ok (.aload_n 0, 1) := by decide +kernel
theorem dX12_law_282 : decode cX12_law 282 = .ok (.getfield 322, 3) := by decide +kernel
theorem dX12_law_285 : decode cX12_law 285 = .ok (.imul, 1) := by decide +kernel
theorem dX12_law_286 : decode cX12_law 286 = .ok (.if_icmp .ge 29, 3) := by decide +kernel
theorem dX12_law_289 : decode cX12_law 289 = .ok (.aload_n 0, 1) := by decide +kernel
theorem dX12_law_290 : decode cX12_law 290 = .ok (.getfield 35, 3) := by decide +kernel
theorem dX12_law_293 : decode cX12_law 293 = .ok (.sipush 155, 3) := by decide +kernel
theorem dX12_law_296 : decode cX12_law 296 = .ok (.iload_n 3, 1) := by decide +kernel
theorem dX12_law_297 : decode cX12_law 297 = .ok (.iadd, 1) := by decide +kernel
theorem dX12_law_298 : decode cX12_law 298 = .ok (.aload_n 0, 1) := by decide +kernel
theorem dX12_law_299 : decode cX12_law 299 = .ok (.getfield 35, 3) := by decide +kernel
theorem dX12_law_302 : decode cX12_law 302 = .ok (.sipush 2755, 3) := by decide +kernel
theorem dX12_law_305 : decode cX12_law 305 = .ok (.iload_n 3, 1) := by decide +kernel
theorem dX12_law_306 : decode cX12_law 306 = .ok (.iadd, 1) := by decide +kernel
theorem dX12_law_307 : decode cX12_law 307 = .ok (.iaload, 1) := by decide +kernel
theorem dX12_law_308 : decode cX12_law 308 = .ok (.iastore, 1) := by decide +kernel
theorem dX12_law_309 : decode cX12_law 309 = .ok (.iinc 3 1, 3) := by decide +kernel
theorem dX12_law_312 : decode cX12_law 312 = .ok (.goto (-33), 3) := by decide +kernel
theorem dX12_law_315 : decode cX12_law 315 = .ok (.iload_n 2, 1) := by decide +kernel
theorem dX12_law_316 : decode cX12_law 316 = .ok (.ireturn, 1) := by decide +kernel
theorem dX12_isThing_0 : decode cX12_isThing 0 = .ok (.iload_n 1, 1) := by decide +kernel
theorem dX12_isThing_1 : decode cX12_isThing 1 = .ok (.i2l, 1) := by decide +kernel
theorem dX12_isThing_2 : decode cX12_isThing 2 = .ok (.lconst 0, 1) := by decide +kernel
theorem dX12_isThing_3 : decode cX12_isThing 3 = .ok (.aload_n 0, 1) := by decide +kernel
theorem dX12_isThing_4 : decode cX12_isThing 4 = .ok (.getfield 35, 3) := by decide +kernel
theorem dX12_isThing_7 : decode cX12_isThing 7 = .ok (.iconst 0, 1) := by decide +kernel
theorem dX12_isThing_8 : decode cX12_isThing 8 = .ok (.iaload, 1) := by decide +kernel
theorem dX12_isThing_9 : decode cX12_isThing 9 = .ok (.iconst 1, 1) := by decide +kernel
theorem dX12_isThing_10 : decode cX12_isThing 10 = .ok (.isub, 1) := by decide +kernel
theorem dX12_isThing_11 : decode cX12_isThing 11 = .ok (.i2l, 1) := by decide +kernel
theorem dX12_isThing_12 : decode cX12_isThing 12 = .ok (.invokestatic 122, 3) := by decide +kernel
theorem dX12_isThing_15 : decode cX12_isThing 15 = .ok (.ireturn, 1) := by decide +kernel
theorem dX12_isMaking_0 : decode cX12_isMaking 0 = .ok (.iload_n 1, 1) := by decide +kernel
theorem dX12_isMaking_1 : decode cX12_isMaking 1 = .ok (.i2l, 1) := by decide +kernel
theorem dX12_isMaking_2 : decode cX12_isMaking 2 = .ok (.lconst 0, 1) := by decide +kernel
theorem dX12_isMaking_3 : decode cX12_isMaking 3 = .ok (.aload_n 0, 1) := by decide +kernel
theorem dX12_isMaking_4 : decode cX12_isMaking 4 = .ok (.getfield 35, 3) := by decide +kernel
theorem dX12_isMaking_7 : decode cX12_isMaking 7 = .ok (.iconst 1, 1) := by decide +kernel
theorem dX12_isMaking_8 : decode cX12_isMaking 8 = .ok (.iaload, 1) := by decide +kernel
theorem dX12_isMaking_9 : decode cX12_isMaking 9 = .ok (.iconst 1, 1) := by decide +kernel
theorem dX12_isMaking_10 : decode cX12_isMaking 10 = .ok (.isub, 1) := by decide +kernel
theorem dX12_isMaking_11 : decode cX12_isMaking 11 = .ok (.i2l, 1) := by decide +kernel
theorem dX12_isMaking_12 : decode cX12_isMaking 12 = .ok (.invokestatic 122, 3) := by decide +kernel
theorem dX12_isMaking_15 : decode cX12_isMaking 15 = .ok (.ireturn, 1) := by decide +kernel
theorem dX12_isPerson_0 : decode cX12_isPerson 0 = .ok (.iload_n 1, 1) := by decide +kernel
theorem dX12_isPerson_1 : decode cX12_isPerson 1 = .ok (.i2l, 1) := by decide +kernel
theorem dX12_isPerson_2 : decode cX12_isPerson 2 = .ok (.lconst 0, 1) := by decide +kernel
theorem dX12_isPerson_3 : decode cX12_isPerson 3 = .ok (.aload_n 0, 1) := by decide +kernel
theorem dX12_isPerson_4 : decode cX12_isPerson 4 = .ok (.getfield 35, 3) := by decide +kernel
theorem dX12_isPerson_7 : decode cX12_isPerson 7 = .ok (.iconst 2, 1) := by decide +kernel
theorem dX12_isPerson_8 : decode cX12_isPerson 8 = .ok (.iaload, 1) := by decide +kernel
theorem dX12_isPerson_9 : decode cX12_isPerson 9 = .ok (.iconst 1, 1) := by decide +kernel
theorem dX12_isPerson_10 : decode cX12_isPerson 10 = .ok (.isub, 1) := by decide +kernel
theorem dX12_isPerson_11 : decode cX12_isPerson 11 = .ok (.i2l, 1) := by decide +kernel
theorem dX12_isPerson_12 : decode cX12_isPerson 12 = .ok (.invokestatic 122, 3) := by decide +kernel
theorem dX12_isPerson_15 : decode cX12_isPerson 15 = .ok (.ireturn, 1) := by decide +kernel
theorem dX12_isSet_0 : decode cX12_isSet 0 = .ok (.iload_n 1, 1) := by decide +kernel
theorem dX12_isSet_1 : decode cX12_isSet 1 = .ok (.i2l, 1) := by decide +kernel
theorem dX12_isSet_2 : decode cX12_isSet 2 = .ok (.lconst 0, 1) := by decide +kernel
theorem dX12_isSet_3 : decode cX12_isSet 3 = .ok (.iconst 1, 1) := by decide +kernel
theorem dX12_isSet_4 : decode cX12_isSet 4 = .ok (.aload_n 0, 1) := by decide +kernel
theorem dX12_isSet_5 : decode cX12_isSet 5 = .ok (.getfield 35, 3) := by decide +kernel
theorem dX12_isSet_8 : decode cX12_isSet 8 = .ok (.iconst 0, 1) := by decide +kernel
theorem dX12_isSet_9 : decode cX12_isSet 9 = .ok (.iaload, 1) := by decide +kernel
theorem dX12_isSet_10 : decode cX12_isSet 10 = .ok (.ishl, 1) := by decide +kernel
theorem dX12_isSet_11 : decode cX12_isSet 11 = .ok (.iconst 1, 1) := by decide +kernel
theorem dX12_isSet_12 : decode cX12_isSet 12 = .ok (.isub, 1) := by decide +kernel
theorem dX12_isSet_13 : decode cX12_isSet 13 = .ok (.i2l, 1) := by decide +kernel
theorem dX12_isSet_14 : decode cX12_isSet 14 = .ok (.invokestatic 122, 3) := by decide +kernel
theorem dX12_isSet_17 : decode cX12_isSet 17 = .ok (.ireturn, 1) := by decide +kernel
theorem dX12_has_0 : decode cX12_has 0 = .ok (.iload_n 0, 1) := by decide +kernel
theorem dX12_has_1 : decode cX12_has 1 = .ok (.iload_n 1, 1) := by decide +kernel
theorem dX12_has_2 : decode cX12_has 2 = .ok (.ishr, 1) := by decide +kernel
theorem dX12_has_3 : decode cX12_has 3 = .ok (.iconst 1, 1) := by decide +kernel
theorem dX12_has_4 : decode cX12_has 4 = .ok (.iand, 1) := by decide +kernel
theorem dX12_has_5 : decode cX12_has 5 = .ok (.iconst 1, 1) := by decide +kernel
theorem dX12_has_6 : decode cX12_has 6 = .ok (.if_icmp .ne 7, 3) := by decide +kernel
theorem dX12_has_9 : decode cX12_has 9 = .ok (.iconst 1, 1) := by decide +kernel
theorem dX12_has_10 : decode cX12_has 10 = .ok (.goto 4, 3) := by decide +kernel
theorem dX12_has_13 : decode cX12_has 13 = .ok (.iconst 0, 1) := by decide +kernel
theorem dX12_has_14 : decode cX12_has 14 = .ok (.ireturn, 1) := by decide +kernel
theorem dX12_isAwakeIn_0 : decode cX12_isAwakeIn 0 = .ok (.aload_n 0, 1) := by decide +kernel
theorem dX12_isAwakeIn_1 : decode cX12_isAwakeIn 1 = .ok (.getfield 35, 3) := by decide +kernel
theorem dX12_isAwakeIn_4 : decode cX12_isAwakeIn 4 = .ok (.bipush 89, 2) := by decide +kernel
theorem dX12_isAwakeIn_6 : decode cX12_isAwakeIn 6 = .ok (.iload_n 1, 1) := by decide +kernel
theorem dX12_isAwakeIn_7 : decode cX12_isAwakeIn 7 = .ok (.iadd, 1) := by decide +kernel
theorem dX12_isAwakeIn_8 : decode cX12_isAwakeIn 8 = .ok (.iaload, 1) := by decide +kernel
theorem dX12_isAwakeIn_9 : decode cX12_isAwakeIn 9 = .ok (.istore_n 3, 1) := by decide +kernel
theorem dX12_isAwakeIn_10 : decode cX12_isAwakeIn 10 = .ok (.aload_n 0, 1) := by decide +kernel
theorem dX12_isAwakeIn_11 : decode cX12_isAwakeIn 11 = .ok (.getfield 35, 3) := by decide +kernel
theorem dX12_isAwakeIn_14 : decode cX12_isAwakeIn 14 = .ok (.bipush 95, 2) := by decide +kernel
theorem dX12_isAwakeIn_16 : decode cX12_isAwakeIn 16 = .ok (.iload_n 1, 1) := by decide +kernel
theorem dX12_isAwakeIn_17 : decode cX12_isAwakeIn 17 = .ok (.iadd, 1) := by decide +kernel
theorem dX12_isAwakeIn_18 : decode cX12_isAwakeIn 18 = .ok (.iaload, 1) := by decide +kernel
theorem dX12_isAwakeIn_19 : decode cX12_isAwakeIn 19 = .ok (.istore 4, 2) := by decide +kernel
theorem dX12_isAwakeIn_21 : decode cX12_isAwakeIn 21 = .ok (.iload_n 3, 1) := by decide +kernel
theorem dX12_isAwakeIn_22 : decode cX12_isAwakeIn 22 = .ok (.iload 4, 2) := by decide +kernel
theorem dX12_isAwakeIn_24 : decode cX12_isAwakeIn 24 = .ok (.if_icmp .ne 5, 3) := by decide +kernel
theorem dX12_isAwakeIn_27 : decode cX12_isAwakeIn 27 = .ok (.iconst 1, 1) := by decide +kernel
theorem dX12_isAwakeIn_28 : decode cX12_isAwakeIn 28 = .ok (.ireturn, 1) := by decide +kernel
theorem dX12_isAwakeIn_29 : decode cX12_isAwakeIn 29 = .ok (.iload_n 3, 1) := by decide +kernel
theorem dX12_isAwakeIn_30 : decode cX12_isAwakeIn 30 = .ok (.iload 4, 2) := by decide +kernel
theorem dX12_isAwakeIn_32 : decode cX12_isAwakeIn 32 = .ok (.if_icmp .ge 18, 3) := by decide +kernel
theorem dX12_isAwakeIn_35 : decode cX12_isAwakeIn 35 = .ok (.iload_n 2, 1) := by decide +kernel
theorem dX12_isAwakeIn_36 : decode cX12_isAwakeIn 36 = .ok (.i2l, 1) := by decide +kernel
theorem dX12_isAwakeIn_37 : decode cX12_isAwakeIn 37 = .ok (.iload_n 3, 1) := by decide +kernel
theorem dX12_isAwakeIn_38 : decode cX12_isAwakeIn 38 = .ok (.i2l, 1) := by decide +kernel
theorem dX12_isAwakeIn_39 : decode cX12_isAwakeIn 39 = .ok (.iload 4, 2) := by decide +kernel
theorem dX12_isAwakeIn_41 : decode cX12_isAwakeIn 41 = .ok (.iconst 1, 1) := by decide +kernel
theorem dX12_isAwakeIn_42 : decode cX12_isAwakeIn 42 = .ok (.isub, 1) := by decide +kernel
theorem dX12_isAwakeIn_43 : decode cX12_isAwakeIn 43 = .ok (.i2l, 1) := by decide +kernel
theorem dX12_isAwakeIn_44 : decode cX12_isAwakeIn 44 = .ok (.invokestatic 122, 3) := by decide +kernel
theorem dX12_isAwakeIn_47 : decode cX12_isAwakeIn 47 = .ok (.goto 19, 3) := by decide +kernel
theorem dX12_isAwakeIn_50 : decode cX12_isAwakeIn 50 = .ok (.iload_n 2, 1) := by decide +kernel
theorem dX12_isAwakeIn_51 : decode cX12_isAwakeIn 51 = .ok (.iload_n 3, 1) := by decide +kernel
theorem dX12_isAwakeIn_52 : decode cX12_isAwakeIn 52 = .ok (.if_icmp .ge 9, 3) := by decide +kernel
theorem dX12_isAwakeIn_55 : decode cX12_isAwakeIn 55 = .ok (.iload_n 2, 1) := by decide +kernel
theorem dX12_isAwakeIn_56 : decode cX12_isAwakeIn 56 = .ok (.iload 4, 2) := by decide +kernel
theorem dX12_isAwakeIn_58 : decode cX12_isAwakeIn 58 = .ok (.if_icmp .ge 7, 3) := by decide +kernel
theorem dX12_isAwakeIn_61 : decode cX12_isAwakeIn 61 = .ok (.iconst 1, 1) := by decide +kernel
theorem dX12_isAwakeIn_62 : decode cX12_isAwakeIn 62 = .ok (.goto 4, 3) := by decide +kernel
theorem dX12_isAwakeIn_65 : decode cX12_isAwakeIn 65 = .ok (.iconst 0, 1) := by decide +kernel
theorem dX12_isAwakeIn_66 : decode cX12_isAwakeIn 66 = .ok (.ireturn, 1) := by decide +kernel
theorem dX12_isTownAwake_0 : decode cX12_isTownAwake 0 = .ok (.iconst 0, 1) := by decide +kernel
theorem dX12_isTownAwake_1 : decode cX12_isTownAwake 1 = .ok (.istore_n 1, 1) := by decide +kernel
theorem dX12_isTownAwake_2 : decode cX12_isTownAwake 2 = .ok (.iload_n 1, 1) := by decide +kernel
theorem dX12_isTownAwake_3 : decode cX12_isTownAwake 3 = .ok (.aload_n 0, 1) := by decide +kernel
theorem dX12_isTownAwake_4 : decode cX12_isTownAwake 4 = .ok (.getfield 35, 3) := by decide +kernel
theorem dX12_isTownAwake_7 : decode cX12_isTownAwake 7 = .ok (.iconst 2, 1) := by decide +kernel
theorem dX12_isTownAwake_8 : decode cX12_isTownAwake 8 = .ok (.iaload, 1) := by decide +kernel
theorem dX12_isTownAwake_9 : decode cX12_isTownAwake 9 = .ok (.if_icmp .ge 30, 3) := by decide +kernel
theorem dX12_isTownAwake_12 : decode cX12_isTownAwake 12 = .ok (.aload_n 0, 1) := by decide +kernel
theorem dX12_isTownAwake_13 : decode cX12_isTownAwake 13 = .ok (.iload_n 1, 1) := by decide +kernel
theorem dX12_isTownAwake_14 : decode cX12_isTownAwake 14 = .ok (.bipush 23, 2) := by decide +kernel
theorem dX12_isTownAwake_16 : decode cX12_isTownAwake 16 = .ok (.invokevirtual 346, 3) := by decide +kernel
theorem dX12_isTownAwake_19 : decode cX12_isTownAwake 19 = .ok (.ifCond .eq 14, 3) := by decide +kernel
theorem dX12_isTownAwake_22 : decode cX12_isTownAwake 22 = .ok (.aload_n 0, 1) := by decide +kernel
theorem dX12_isTownAwake_23 : decode cX12_isTownAwake 23 = .ok (.iload_n 1, 1) := by decide +kernel
theorem dX12_isTownAwake_24 : decode cX12_isTownAwake 24 = .ok (.iconst 0, 1) := by decide +kernel
theorem dX12_isTownAwake_25 : decode cX12_isTownAwake 25 = .ok (.invokevirtual 346, 3) := by decide +kernel
theorem dX12_isTownAwake_28 : decode cX12_isTownAwake 28 = .ok (.ifCond .eq 5, 3) := by decide +kernel
theorem dX12_isTownAwake_31 : decode cX12_isTownAwake 31 = .ok (.iconst 1, 1) := by decide +kernel
theorem dX12_isTownAwake_32 : decode cX12_isTownAwake 32 = .ok (.ireturn, 1) := by decide +kernel
theorem dX12_isTownAwake_33 : decode cX12_isTownAwake 33 = .ok (.iinc 1 1, 3) := by decide +kernel
theorem dX12_isTownAwake_36 : decode cX12_isTownAwake 36 = .ok (.goto (-34), 3) := by decide +kernel
theorem dX12_isTownAwake_39 : decode cX12_isTownAwake 39 = .ok (.iconst 0, 1) := by decide +kernel
theorem dX12_isTownAwake_40 : decode cX12_isTownAwake 40 = .ok (.ireturn, 1) := by decide +kernel
theorem dX12_many_0 : decode cX12_many 0 = .ok (.aload_n 0, 1) := by decide +kernel
theorem dX12_many_1 : decode cX12_many 1 = .ok (.iconst 0, 1) := by decide +kernel
theorem dX12_many_2 : decode cX12_many 2 = .ok (.putfield 87, 3) := by decide +kernel
theorem dX12_many_5 : decode cX12_many 5 = .ok (.aload_n 0, 1) := by decide +kernel
theorem dX12_many_6 : decode cX12_many 6 = .ok (.iconst 0, 1) := by decide +kernel
theorem dX12_many_7 : decode cX12_many 7 = .ok (.putfield 90, 3) := by decide +kernel
theorem dX12_many_10 : decode cX12_many 10 = .ok (.iload_n 1, 1) := by decide +kernel
theorem dX12_many_11 : decode cX12_many 11 = .ok (.i2l, 1) := by decide +kernel
theorem dX12_many_12 : decode cX12_many 12 = .ok (.lconst 0, 1) := by decide +kernel
theorem dX12_many_13 : decode cX12_many 13 = .ok (.ldc2_w 349, 3) := by decide +kernel
theorem dX12_many_16 : decode cX12_many 16 = .ok (.invokestatic 122, 3) := by decide +kernel
theorem dX12_many_19 : decode cX12_many 19 = .ok (.ifCond .ne 9, 3) := by decide +kernel
theorem dX12_many_22 : decode cX12_many 22 = .ok (.aload_n 0, 1) := by decide +kernel
theorem dX12_many_23 : decode cX12_many 23 = .ok (.iconst 5, 1) := by decide +kernel
theorem dX12_many_24 : decode cX12_many 24 = .ok (.invokevirtual 351, 3) := by decide +kernel
theorem dX12_many_27 : decode cX12_many 27 = .ok (.ireturn, 1) := by decide +kernel
theorem dX12_many_28 : decode cX12_many 28 = .ok (.iload_n 1, 1) := by decide +kernel
theorem dX12_many_29 : decode cX12_many 29 = .ok (.iconst 5, 1) := by decide +kernel
theorem dX12_many_30 : decode cX12_many 30 = .ok (.if_icmp .ge 12, 3) := by decide +kernel
theorem dX12_many_33 : decode cX12_many 33 = .ok (.aload_n 0, 1) := by decide +kernel
theorem dX12_many_34 : decode cX12_many 34 = .ok (.getfield 35, 3) := by decide +kernel
theorem dX12_many_37 : decode cX12_many 37 = .ok (.iload_n 1, 1) := by decide +kernel
theorem dX12_many_38 : decode cX12_many 38 = .ok (.iaload, 1) := by decide +kernel
theorem dX12_many_39 : decode cX12_many 39 = .ok (.goto 15, 3) := by decide +kernel
theorem dX12_many_42 : decode cX12_many 42 = .ok (.aload_n 0, 1) := by decide +kernel
theorem dX12_many_43 : decode cX12_many 43 = .ok (.invokevirtual 354, 3) := by decide +kernel
theorem dX12_many_46 : decode cX12_many 46 = .ok (.ifCond .eq 7, 3) := by decide +kernel
theorem dX12_many_49 : decode cX12_many 49 = .ok (.iconst 1, 1) := by decide +kernel
theorem dX12_many_50 : decode cX12_many 50 = .ok (.goto 4, 3) := by decide +kernel
theorem dX12_many_53 : decode cX12_many 53 = .ok (.iconst 0, 1) := by decide +kernel
theorem dX12_many_54 : decode cX12_many 54 = .ok (.ireturn, 1) := by decide +kernel
theorem dX12_thing_0 : decode cX12_thing 0 = .ok (.aload_n 0, 1) := by decide +kernel
theorem dX12_thing_1 : decode cX12_thing 1 = .ok (.iconst 0, 1) := by decide +kernel
theorem dX12_thing_2 : decode cX12_thing 2 = .ok (.putfield 87, 3) := by decide +kernel
theorem dX12_thing_5 : decode cX12_thing 5 = .ok (.aload_n 0, 1) := by decide +kernel
theorem dX12_thing_6 : decode cX12_thing 6 = .ok (.iconst 0, 1) := by decide +kernel
theorem dX12_thing_7 : decode cX12_thing 7 = .ok (.putfield 90, 3) := by decide +kernel
theorem dX12_thing_10 : decode cX12_thing 10 = .ok (.aload_n 0, 1) := by decide +kernel
theorem dX12_thing_11 : decode cX12_thing 11 = .ok (.iload_n 1, 1) := by decide +kernel
theorem dX12_thing_12 : decode cX12_thing 12 = .ok (.invokevirtual 357, 3) := by decide +kernel
theorem dX12_thing_15 : decode cX12_thing 15 = .ok (.ifCond .ne 9, 3) := by decide +kernel
theorem dX12_thing_18 : decode cX12_thing 18 = .ok (.aload_n 0, 1) := by decide +kernel
theorem dX12_thing_19 : decode cX12_thing 19 = .ok (.iconst 2, 1) := by decide +kernel
theorem dX12_thing_20 : decode cX12_thing 20 = .ok (.invokevirtual 351, 3) := by decide +kernel
theorem dX12_thing_23 : decode cX12_thing 23 = .ok (.ireturn, 1) := by decide +kernel
theorem dX12_thing_24 : decode cX12_thing 24 = .ok (.iload_n 2, 1) := by decide +kernel
theorem dX12_thing_25 : decode cX12_thing 25 = .ok (.i2l, 1) := by decide +kernel
theorem dX12_thing_26 : decode cX12_thing 26 = .ok (.lconst 0, 1) := by decide +kernel
theorem dX12_thing_27 : decode cX12_thing 27 = .ok (.ldc2_w 360, 3) := by decide +kernel
theorem dX12_thing_30 : decode cX12_thing 30 = .ok (.invokestatic 122, 3) := by decide +kernel
theorem dX12_thing_33 : decode cX12_thing 33 = .ok (.ifCond .eq 19, 3) := by decide +kernel
theorem dX12_thing_36 : decode cX12_thing 36 = .ok (.aload_n 0, 1) := by decide +kernel
theorem dX12_thing_37 : decode cX12_thing 37 = .ok (.getfield 35, 3) := by decide +kernel
theorem dX12_thing_40 : decode cX12_thing 40 = .ok (.iconst 5, 1) := by decide +kernel
theorem dX12_thing_41 : decode cX12_thing 41 = .ok (.bipush 8, 2) := by decide +kernel
theorem dX12_thing_43 : decode cX12_thing 43 = .ok (.iload_n 2, 1) := by decide +kernel
theorem dX12_thing_44 : decode cX12_thing 44 = .ok (.imul, 1) := by decide +kernel
theorem dX12_thing_45 : decode cX12_thing 45 = .ok (.iadd, 1) := by decide +kernel
theorem dX12_thing_46 : decode cX12_thing 46 = .ok (.iload_n 1, 1) := by decide +kernel
theorem dX12_thing_47 : decode cX12_thing 47 = .ok (.iadd, 1) := by decide +kernel
theorem dX12_thing_48 : decode cX12_thing 48 = .ok (.iaload, 1) := by decide +kernel
theorem dX12_thing_49 : decode cX12_thing 49 = .ok (.goto 8, 3) := by decide +kernel
theorem dX12_thing_52 : decode cX12_thing 52 = .ok (.aload_n 0, 1) := by decide +kernel
theorem dX12_thing_53 : decode cX12_thing 53 = .ok (.iconst 5, 1) := by decide +kernel
theorem dX12_thing_54 : decode cX12_thing 54 = .ok (.invokevirtual 351, 3) := by decide +kernel
theorem dX12_thing_57 : decode cX12_thing 57 = .ok (.ireturn, 1) := by decide +kernel
theorem dX12_making_0 : decode cX12_making 0 = .ok (.aload_n 0, 1) := by decide +kernel
theorem dX12_making_1 : decode cX12_making 1 = .ok (.iconst 0, 1) := by decide +kernel
theorem dX12_making_2 : decode cX12_making 2 = .ok (.putfield 87, 3) := by decide +kernel
theorem dX12_making_5 : decode cX12_making 5 = .ok (.aload_n 0, 1) := by decide +kernel
theorem dX12_making_6 : decode cX12_making 6 = .ok (.iconst 0, 1) := by decide +kernel
theorem dX12_making_7 : decode cX12_making 7 = .ok (.putfield 90, 3) := by decide +kernel
theorem dX12_making_10 : decode cX12_making 10 = .ok (.aload_n 0, 1) := by decide +kernel
theorem dX12_making_11 : decode cX12_making 11 = .ok (.iload_n 1, 1) := by decide +kernel
theorem dX12_making_12 : decode cX12_making 12 = .ok (.invokevirtual 362, 3) := by decide +kernel
theorem dX12_making_15 : decode cX12_making 15 = .ok (.ifCond .ne 9, 3) := by decide +kernel
theorem dX12_making_18 : decode cX12_making 18 = .ok (.aload_n 0, 1) := by decide +kernel
theorem dX12_making_19 : decode cX12_making 19 = .ok (.iconst 2, 1) := by decide +kernel
theorem dX12_making_20 : decode cX12_making 20 = .ok (.invokevirtual 351, 3) := by decide +kernel
theorem dX12_making_23 : decode cX12_making 23 = .ok (.ireturn, 1) := by decide +kernel
theorem dX12_making_24 : decode cX12_making 24 = .ok (.iload_n 2, 1) := by decide +kernel
theorem dX12_making_25 : decode cX12_making 25 = .ok (.i2l, 1) := by decide +kernel
theorem dX12_making_26 : decode cX12_making 26 = .ok (.lconst 0, 1) := by decide +kernel
theorem dX12_making_27 : decode cX12_making 27 = .ok (.ldc2_w 365, 3) := by decide +kernel
theorem dX12_making_30 : decode cX12_making 30 = .ok (.invokestatic 122, 3) := by decide +kernel
theorem dX12_making_33 : decode cX12_making 33 = .ok (.ifCond .eq 20, 3) := by decide +kernel
theorem dX12_making_36 : decode cX12_making 36 = .ok (.aload_n 0, 1) := by decide +kernel
theorem dX12_making_37 : decode cX12_making 37 = .ok (.getfield 35, 3) := by decide +kernel
theorem dX12_making_40 : decode cX12_making 40 = .ok (.bipush 29, 2) := by decide +kernel
theorem dX12_making_42 : decode cX12_making 42 = .ok (.bipush 12, 2) := by decide +kernel
theorem dX12_making_44 : decode cX12_making 44 = .ok (.iload_n 2, 1) := by decide +kernel
theorem dX12_making_45 : decode cX12_making 45 = .ok (.imul, 1) := by decide +kernel
theorem dX12_making_46 : decode cX12_making 46 = .ok (.iadd, 1) := by decide +kernel
theorem dX12_making_47 : decode cX12_making 47 = .ok (.iload_n 1, 1) := by decide +kernel
theorem dX12_making_48 : decode cX12_making 48 = .ok (.iadd, 1) := by decide +kernel
theorem dX12_making_49 : decode cX12_making 49 = .ok (.iaload, 1) := by decide +kernel
theorem dX12_making_50 : decode cX12_making 50 = .ok (.goto 8, 3) := by decide +kernel
theorem dX12_making_53 : decode cX12_making 53 = .ok (.aload_n 0, 1) := by decide +kernel
theorem dX12_making_54 : decode cX12_making 54 = .ok (.iconst 5, 1) := by decide +kernel
theorem dX12_making_55 : decode cX12_making 55 = .ok (.invokevirtual 351, 3) := by decide +kernel
theorem dX12_making_58 : decode cX12_making 58 = .ok (.ireturn, 1) := by decide +kernel
theorem dX12_awake_0 : decode cX12_awake 0 = .ok (.aload_n 0, 1) := by decide +kernel
theorem dX12_awake_1 : decode cX12_awake 1 = .ok (.iconst 0, 1) := by decide +kernel
theorem dX12_awake_2 : decode cX12_awake 2 = .ok (.putfield 87, 3) := by decide +kernel
theorem dX12_awake_5 : decode cX12_awake 5 = .ok (.aload_n 0, 1) := by decide +kernel
theorem dX12_awake_6 : decode cX12_awake 6 = .ok (.iconst 0, 1) := by decide +kernel
theorem dX12_awake_7 : decode cX12_awake 7 = .ok (.putfield 90, 3) := by decide +kernel
theorem dX12_awake_10 : decode cX12_awake 10 = .ok (.aload_n 0, 1) := by decide +kernel
theorem dX12_awake_11 : decode cX12_awake 11 = .ok (.iload_n 1, 1) := by decide +kernel
theorem dX12_awake_12 : decode cX12_awake 12 = .ok (.invokevirtual 367, 3) := by decide +kernel
theorem dX12_awake_15 : decode cX12_awake 15 = .ok (.ifCond .ne 9, 3) := by decide +kernel
theorem dX12_awake_18 : decode cX12_awake 18 = .ok (.aload_n 0, 1) := by decide +kernel
theorem dX12_awake_19 : decode cX12_awake 19 = .ok (.iconst 2, 1) := by decide +kernel
theorem dX12_awake_20 : decode cX12_awake 20 = .ok (.invokevirtual 351, 3) := by decide +kernel
theorem dX12_awake_23 : decode cX12_awake 23 = .ok (.ireturn, 1) := by decide +kernel
theorem dX12_awake_24 : decode cX12_awake 24 = .ok (.iload_n 2, 1) := by decide +kernel
theorem dX12_awake_25 : decode cX12_awake 25 = .ok (.i2l, 1) := by decide +kernel
theorem dX12_awake_26 : decode cX12_awake 26 = .ok (.lconst 0, 1) := by decide +kernel
theorem dX12_awake_27 : decode cX12_awake 27 = .ok (.ldc2_w 370, 3) := by decide +kernel
theorem dX12_awake_30 : decode cX12_awake 30 = .ok (.invokestatic 122, 3) := by decide +kernel
theorem dX12_awake_33 : decode cX12_awake 33 = .ok (.ifCond .ne 9, 3) := by decide +kernel
theorem dX12_awake_36 : decode cX12_awake 36 = .ok (.aload_n 0, 1) := by decide +kernel
theorem dX12_awake_37 : decode cX12_awake 37 = .ok (.iconst 5, 1) := by decide +kernel
theorem dX12_awake_38 : decode cX12_awake 38 = .ok (.invokevirtual 351, 3) := by decide +kernel
theorem dX12_awake_41 : decode cX12_awake 41 = .ok (.ireturn, 1) := by decide +kernel
theorem dX12_awake_42 : decode cX12_awake 42 = .ok (.aload_n 0, 1) := by decide +kernel
theorem dX12_awake_43 : decode cX12_awake 43 = .ok (.iload_n 1, 1) := by decide +kernel
theorem dX12_awake_44 : decode cX12_awake 44 = .ok (.iload_n 2, 1) := by decide +kernel
theorem dX12_awake_45 : decode cX12_awake 45 = .ok (.invokevirtual 346, 3) := by decide +kernel
theorem dX12_awake_48 : decode cX12_awake 48 = .ok (.ifCond .eq 7, 3) := by decide +kernel
theorem dX12_awake_51 : decode cX12_awake 51 = .ok (.iconst 1, 1) := by decide +kernel
theorem dX12_awake_52 : decode cX12_awake 52 = .ok (.goto 4, 3) := by decide +kernel
theorem dX12_awake_55 : decode cX12_awake 55 = .ok (.iconst 0, 1) := by decide +kernel
theorem dX12_awake_56 : decode cX12_awake 56 = .ok (.ireturn, 1) := by decide +kernel
theorem dX12_want_0 : decode cX12_want 0 = .ok (.aload_n 0, 1) := by decide +kernel
theorem dX12_want_1 : decode cX12_want 1 = .ok (.iconst 0, 1) := by decide +kernel
theorem dX12_want_2 : decode cX12_want 2 = .ok (.putfield 87, 3) := by decide +kernel
theorem dX12_want_5 : decode cX12_want 5 = .ok (.aload_n 0, 1) := by decide +kernel
theorem dX12_want_6 : decode cX12_want 6 = .ok (.iconst 0, 1) := by decide +kernel
theorem dX12_want_7 : decode cX12_want 7 = .ok (.putfield 90, 3) := by decide +kernel
theorem dX12_want_10 : decode cX12_want 10 = .ok (.iload_n 1, 1) := by decide +kernel
theorem dX12_want_11 : decode cX12_want 11 = .ok (.i2l, 1) := by decide +kernel
theorem dX12_want_12 : decode cX12_want 12 = .ok (.lconst 0, 1) := by decide +kernel
theorem dX12_want_13 : decode cX12_want 13 = .ok (.aload_n 0, 1) := by decide +kernel
theorem dX12_want_14 : decode cX12_want 14 = .ok (.getfield 35, 3) := by decide +kernel
theorem dX12_want_17 : decode cX12_want 17 = .ok (.iconst 3, 1) := by decide +kernel
theorem dX12_want_18 : decode cX12_want 18 = .ok (.iaload, 1) := by decide +kernel
theorem dX12_want_19 : decode cX12_want 19 = .ok (.iconst 1, 1) := by decide +kernel
theorem dX12_want_20 : decode cX12_want 20 = .ok (.isub, 1) := by decide +kernel
theorem dX12_want_21 : decode cX12_want 21 = .ok (.i2l, 1) := by decide +kernel
theorem dX12_want_22 : decode cX12_want 22 = .ok (.invokestatic 122, 3) := by decide +kernel
theorem dX12_want_25 : decode cX12_want 25 = .ok (.ifCond .ne 9, 3) := by decide +kernel
theorem dX12_want_28 : decode cX12_want 28 = .ok (.aload_n 0, 1) := by decide +kernel
theorem dX12_want_29 : decode cX12_want 29 = .ok (.iconst 2, 1) := by decide +kernel
theorem dX12_want_30 : decode cX12_want 30 = .ok (.invokevirtual 351, 3) := by decide +kernel
theorem dX12_want_33 : decode cX12_want 33 = .ok (.ireturn, 1) := by decide +kernel
theorem dX12_want_34 : decode cX12_want 34 = .ok (.iload_n 2, 1) := by decide +kernel
theorem dX12_want_35 : decode cX12_want 35 = .ok (.i2l, 1) := by decide +kernel
theorem dX12_want_36 : decode cX12_want 36 = .ok (.lconst 0, 1) := by decide +kernel
theorem dX12_want_37 : decode cX12_want 37 = .ok (.ldc2_w 120, 3) := by decide +kernel
theorem dX12_want_40 : decode cX12_want 40 = .ok (.invokestatic 122, 3) := by decide +kernel
theorem dX12_want_43 : decode cX12_want 43 = .ok (.ifCond .eq 20, 3) := by decide +kernel
theorem dX12_want_46 : decode cX12_want 46 = .ok (.aload_n 0, 1) := by decide +kernel
theorem dX12_want_47 : decode cX12_want 47 = .ok (.getfield 35, 3) := by decide +kernel
theorem dX12_want_50 : decode cX12_want 50 = .ok (.bipush 107, 2) := by decide +kernel
theorem dX12_want_52 : decode cX12_want 52 = .ok (.bipush 8, 2) := by decide +kernel
theorem dX12_want_54 : decode cX12_want 54 = .ok (.iload_n 2, 1) := by decide +kernel
theorem dX12_want_55 : decode cX12_want 55 = .ok (.imul, 1) := by decide +kernel
theorem dX12_want_56 : decode cX12_want 56 = .ok (.iadd, 1) := by decide +kernel
theorem dX12_want_57 : decode cX12_want 57 = .ok (.iload_n 1, 1) := by decide +kernel
theorem dX12_want_58 : decode cX12_want 58 = .ok (.iadd, 1) := by decide +kernel
theorem dX12_want_59 : decode cX12_want 59 = .ok (.iaload, 1) := by decide +kernel
theorem dX12_want_60 : decode cX12_want 60 = .ok (.goto 8, 3) := by decide +kernel
theorem dX12_want_63 : decode cX12_want 63 = .ok (.aload_n 0, 1) := by decide +kernel
theorem dX12_want_64 : decode cX12_want 64 = .ok (.iconst 5, 1) := by decide +kernel
theorem dX12_want_65 : decode cX12_want 65 = .ok (.invokevirtual 351, 3) := by decide +kernel
theorem dX12_want_68 : decode cX12_want 68 = .ok (.ireturn, 1) := by decide +kernel
theorem dX12_isSo_0 : decode cX12_isSo 0 = .ok (.iload_n 1, 1) := by decide +kernel
theorem dX12_isSo_1 : decode cX12_isSo 1 = .ok (.tableswitch 114 0 5 #[39, 52, 65, 78, 84, 99], 39) := by decide +kernel
theorem dX12_isSo_40 : decode cX12_isSo 40 = .ok (.iload 5, 2) := by decide +kernel
theorem dX12_isSo_42 : decode cX12_isSo 42 = .ok (.iload 4, 2) := by decide +kernel
theorem dX12_isSo_44 : decode cX12_isSo 44 = .ok (.if_icmp .ne 7, 3) := by decide +kernel
theorem dX12_isSo_47 : decode cX12_isSo 47 = .ok (.iconst 1, 1) := by decide +kernel
theorem dX12_isSo_48 : decode cX12_isSo 48 = .ok (.goto 4, 3) := by decide +kernel
theorem dX12_isSo_51 : decode cX12_isSo 51 = .ok (.iconst 0, 1) := by decide +kernel
theorem dX12_isSo_52 : decode cX12_isSo 52 = .ok (.ireturn, 1) := by decide +kernel
theorem dX12_isSo_53 : decode cX12_isSo 53 = .ok (.iload 6, 2) := by decide +kernel
theorem dX12_isSo_55 : decode cX12_isSo 55 = .ok (.iload 4, 2) := by decide +kernel
theorem dX12_isSo_57 : decode cX12_isSo 57 = .ok (.if_icmp .ne 7, 3) := by decide +kernel
theorem dX12_isSo_60 : decode cX12_isSo 60 = .ok (.iconst 1, 1) := by decide +kernel
theorem dX12_isSo_61 : decode cX12_isSo 61 = .ok (.goto 4, 3) := by decide +kernel
theorem dX12_isSo_64 : decode cX12_isSo 64 = .ok (.iconst 0, 1) := by decide +kernel
theorem dX12_isSo_65 : decode cX12_isSo 65 = .ok (.ireturn, 1) := by decide +kernel
theorem dX12_isSo_66 : decode cX12_isSo 66 = .ok (.iload 7, 2) := by decide +kernel
theorem dX12_isSo_68 : decode cX12_isSo 68 = .ok (.iload 4, 2) := by decide +kernel
theorem dX12_isSo_70 : decode cX12_isSo 70 = .ok (.if_icmp .ne 7, 3) := by decide +kernel
theorem dX12_isSo_73 : decode cX12_isSo 73 = .ok (.iconst 1, 1) := by decide +kernel
theorem dX12_isSo_74 : decode cX12_isSo 74 = .ok (.goto 4, 3) := by decide +kernel
theorem dX12_isSo_77 : decode cX12_isSo 77 = .ok (.iconst 0, 1) := by decide +kernel
theorem dX12_isSo_78 : decode cX12_isSo 78 = .ok (.ireturn, 1) := by decide +kernel
theorem dX12_isSo_79 : decode cX12_isSo 79 = .ok (.iload_n 3, 1) := by decide +kernel
theorem dX12_isSo_80 : decode cX12_isSo 80 = .ok (.iload_n 2, 1) := by decide +kernel
theorem dX12_isSo_81 : decode cX12_isSo 81 = .ok (.invokestatic 372, 3) := by decide +kernel
theorem dX12_isSo_84 : decode cX12_isSo 84 = .ok (.ireturn, 1) := by decide +kernel
theorem dX12_isSo_85 : decode cX12_isSo 85 = .ok (.iload 8, 2) := by decide +kernel
theorem dX12_isSo_87 : decode cX12_isSo 87 = .ok (.bipush 7, 2) := by decide +kernel
theorem dX12_isSo_89 : decode cX12_isSo 89 = .ok (.irem, 1) := by decide +kernel
theorem dX12_isSo_90 : decode cX12_isSo 90 = .ok (.iload_n 2, 1) := by decide +kernel
theorem dX12_isSo_91 : decode cX12_isSo 91 = .ok (.if_icmp .ge 7, 3) := by decide +kernel
theorem dX12_isSo_94 : decode cX12_isSo 94 = .ok (.iconst 1, 1) := by decide +kernel
theorem dX12_isSo_95 : decode cX12_isSo 95 = .ok (.goto 4, 3) := by decide +kernel
theorem dX12_isSo_98 : decode cX12_isSo 98 = .ok (.iconst 0, 1) := by decide +kernel
theorem dX12_isSo_99 : decode cX12_isSo 99 = .ok (.ireturn, 1) := by decide +kernel
theorem dX12_isSo_100 : decode cX12_isSo 100 = .ok (.iload 8, 2) := by decide +kernel
theorem dX12_isSo_102 : decode cX12_isSo 102 = .ok (.bipush 7, 2) := by decide +kernel
theorem dX12_isSo_104 : decode cX12_isSo 104 = .ok (.irem, 1) := by decide +kernel
theorem dX12_isSo_105 : decode cX12_isSo 105 = .ok (.iload_n 2, 1) := by decide +kernel
theorem dX12_isSo_106 : decode cX12_isSo 106 = .ok (.if_icmp .le 7, 3) := by decide +kernel
theorem dX12_isSo_109 : decode cX12_isSo 109 = .ok (.iconst 1, 1) := by decide +kernel
theorem dX12_isSo_110 : decode cX12_isSo 110 = .ok (.goto 4, 3) := by decide +kernel
theorem dX12_isSo_113 : decode cX12_isSo 113 = .ok (.iconst 0, 1) := by decide +kernel
theorem dX12_isSo_114 : decode cX12_isSo 114 = .ok (.ireturn, 1) := by decide +kernel
theorem dX12_isSo_115 : decode cX12_isSo 115 = .ok (.iload 8, 2) := by decide +kernel
theorem dX12_isSo_117 : decode cX12_isSo 117 = .ok (.bipush 7, 2) := by decide +kernel
theorem dX12_isSo_119 : decode cX12_isSo 119 = .ok (.irem, 1) := by decide +kernel
theorem dX12_isSo_120 : decode cX12_isSo 120 = .ok (.iload_n 2, 1) := by decide +kernel
theorem dX12_isSo_121 : decode cX12_isSo 121 = .ok (.if_icmp .ne 7, 3) := by decide +kernel
theorem dX12_isSo_124 : decode cX12_isSo 124 = .ok (.iconst 1, 1) := by decide +kernel
theorem dX12_isSo_125 : decode cX12_isSo 125 = .ok (.goto 4, 3) := by decide +kernel
theorem dX12_isSo_128 : decode cX12_isSo 128 = .ok (.iconst 0, 1) := by decide +kernel
theorem dX12_isSo_129 : decode cX12_isSo 129 = .ok (.ireturn, 1) := by decide +kernel
theorem dX12_stays_0 : decode cX12_stays 0 = .ok (.aload_n 0, 1) := by decide +kernel
theorem dX12_stays_1 : decode cX12_stays 1 = .ok (.getfield 375, 3) := by decide +kernel
theorem dX12_stays_4 : decode cX12_stays 4 = .ok (.iload_n 1, 1) := by decide +kernel
theorem dX12_stays_5 : decode cX12_stays 5 = .ok (.invokestatic 372, 3) := by decide +kernel
theorem dX12_stays_8 : decode cX12_stays 8 = .ok (.ifCond .eq 5, 3) := by decide +kernel
theorem dX12_stays_11 : decode cX12_stays 11 = .ok (.iconst 1, 1) := by decide +kernel
theorem dX12_stays_12 : decode cX12_stays 12 = .ok (.ireturn, 1) := by decide +kernel
theorem dX12_stays_13 : decode cX12_stays 13 = .ok (.aload_n 0, 1) := by decide +kernel
theorem dX12_stays_14 : decode cX12_stays 14 = .ok (.getfield 35, 3) := by decide +kernel
theorem dX12_stays_17 : decode cX12_stays 17 = .ok (.bipush 21, 2) := by decide +kernel
theorem dX12_stays_19 : decode cX12_stays 19 = .ok (.iload_n 1, 1) := by decide +kernel
theorem dX12_stays_20 : decode cX12_stays 20 = .ok (.iadd, 1) := by decide +kernel
theorem dX12_stays_21 : decode cX12_stays 21 = .ok (.iaload, 1) := by decide +kernel
theorem dX12_stays_22 : decode cX12_stays 22 = .ok (.ifCond .ne 5, 3) := by decide +kernel
theorem dX12_stays_25 : decode cX12_stays 25 = .ok (.iconst 0, 1) := by decide +kernel
theorem dX12_stays_26 : decode cX12_stays 26 = .ok (.ireturn, 1) := by decide +kernel
theorem dX12_stays_27 : decode cX12_stays 27 = .ok (.iconst 0, 1) := by decide +kernel
theorem dX12_stays_28 : decode cX12_stays 28 = .ok (.istore 7, 2) := by decide +kernel
theorem dX12_stays_30 : decode cX12_stays 30 = .ok (.aload_n 0, 1) := by decide +kernel
theorem dX12_stays_31 : decode cX12_stays 31 = .ok (.getfield 35, 3) := by decide +kernel
theorem dX12_stays_34 : decode cX12_stays 34 = .ok (.sipush 139, 3) := by decide +kernel
theorem dX12_stays_37 : decode cX12_stays 37 = .ok (.iload_n 1, 1) := by decide +kernel
theorem dX12_stays_38 : decode cX12_stays 38 = .ok (.iadd, 1) := by decide +kernel
theorem dX12_stays_39 : decode cX12_stays 39 = .ok (.iaload, 1) := by decide +kernel
theorem dX12_stays_40 : decode cX12_stays 40 = .ok (.istore 8, 2) := by decide +kernel
theorem dX12_stays_42 : decode cX12_stays 42 = .ok (.iload 8, 2) := by decide +kernel
theorem dX12_stays_44 : decode cX12_stays 44 = .ok (.aload_n 0, 1) := by decide +kernel
theorem dX12_stays_45 : decode cX12_stays 45 = .ok (.getfield 35, 3) := by decide +kernel
theorem dX12_stays_48 : decode cX12_stays 48 = .ok (.sipush 147, 3) := by decide +kernel
theorem dX12_stays_51 : decode cX12_stays 51 = .ok (.iload_n 1, 1) := by decide +kernel
theorem dX12_stays_52 : decode cX12_stays 52 = .ok (.iadd, 1) := by decide +kernel
theorem dX12_stays_53 : decode cX12_stays 53 = .ok (.iaload, 1) := by decide +kernel
theorem dX12_stays_54 : decode cX12_stays 54 = .ok (.if_icmp .ge 186, 3) := by decide +kernel
theorem dX12_stays_57 : decode cX12_stays 57 = .ok (.aload_n 0, 1) := by decide +kernel
theorem dX12_stays_58 : decode cX12_stays 58 = .ok (.getfield 35, 3) := by decide +kernel
theorem dX12_stays_61 : decode cX12_stays 61 = .ok (.sipush 155, 3) := by decide +kernel
theorem dX12_stays_64 : decode cX12_stays 64 = .ok (.iconst 2, 1) := by decide +kernel
theorem dX12_stays_65 : decode cX12_stays 65 = .ok (.iload 8, 2) := by decide +kernel
theorem dX12_stays_67 : decode cX12_stays 67 = .ok (.imul, 1) := by decide +kernel
theorem dX12_stays_68 : decode cX12_stays 68 = .ok (.iadd, 1) := by decide +kernel
theorem dX12_stays_69 : decode cX12_stays 69 = .ok (.iaload, 1) := by decide +kernel
theorem dX12_stays_70 : decode cX12_stays 70 = .ok (.istore 9, 2) := by decide +kernel
theorem dX12_stays_72 : decode cX12_stays 72 = .ok (.iload 9, 2) := by decide +kernel
theorem dX12_stays_74 : decode cX12_stays 74 = .ok (.bipush 7, 2) := by decide +kernel
theorem dX12_stays_76 : decode cX12_stays 76 = .ok (.if_icmp .ge 46, 3) := by decide +kernel
theorem dX12_stays_79 : decode cX12_stays 79 = .ok (.aload_n 0, 1) := by decide +kernel
theorem dX12_stays_80 : decode cX12_stays 80 = .ok (.getfield 41, 3) := by decide +kernel
theorem dX12_stays_83 : decode cX12_stays 83 = .ok (.iload 7, 2) := by decide +kernel
theorem dX12_stays_85 : decode cX12_stays 85 = .ok (.aload_n 0, 1) := by decide +kernel
theorem dX12_stays_86 : decode cX12_stays 86 = .ok (.iload 9, 2) := by decide +kernel
theorem dX12_stays_88 : decode cX12_stays 88 = .ok (.aload_n 0, 1) := by decide +kernel
theorem dX12_stays_89 : decode cX12_stays 89 = .ok (.getfield 35, 3) := by decide +kernel
theorem dX12_stays_92 : decode cX12_stays 92 = .ok (.sipush 155, 3) := by decide +kernel
theorem dX12_stays_95 : decode cX12_stays 95 = .ok (.iconst 2, 1) := by decide +kernel
theorem dX12_stays_96 : decode cX12_stays 96 = .ok (.iload 8, 2) := by decide +kernel
theorem dX12_stays_98 : decode cX12_stays 98 = .ok (.imul, 1) := by decide +kernel
theorem dX12_stays_99 : decode cX12_stays 99 = .ok (.iadd, 1) := by decide +kernel
theorem dX12_stays_100 : decode cX12_stays 100 = .ok (.iconst 1, 1) := by decide +kernel
theorem dX12_stays_101 : decode cX12_stays 101 = .ok (.iadd, 1) := by decide +kernel
theorem dX12_stays_102 : decode cX12_stays 102 = .ok (.iaload, 1) := by decide +kernel
theorem dX12_stays_103 : decode cX12_stays 103 = .ok (.iload_n 2, 1) := by decide +kernel
theorem dX12_stays_104 : decode cX12_stays 104 = .ok (.iload_n 1, 1) := by decide +kernel
theorem dX12_stays_105 : decode cX12_stays 105 = .ok (.iload_n 3, 1) := by decide +kernel
theorem dX12_stays_106 : decode cX12_stays 106 = .ok (.iload 4, 2) := by decide +kernel
theorem dX12_stays_108 : decode cX12_stays 108 = .ok (.iload 5, 2) := by decide +kernel
theorem dX12_stays_110 : decode cX12_stays 110 = .ok (.iload 6, 2) := by decide +kernel
theorem dX12_stays_112 : decode cX12_stays 112 = .ok (.invokevirtual 378, 3) := by decide +kernel
theorem dX12_stays_115 : decode cX12_stays 115 = .ok (.bastore, 1) := by decide +kernel
theorem dX12_stays_116 : decode cX12_stays 116 = .ok (.iinc 7 1, 3) := by decide +kernel
theorem dX12_stays_119 : decode cX12_stays 119 = .ok (.goto 115, 3) := by decide +kernel
theorem dX12_stays_122 : decode cX12_stays 122 = .ok (.iload 9, 2) := by decide +kernel
theorem dX12_stays_124 : decode cX12_stays 124 = .ok (.bipush 7, 2) := by decide +kernel
theorem dX12_stays_126 : decode cX12_stays 126 = .ok (.if_icmp .ne 32, 3) := by decide +kernel
theorem dX12_stays_129 : decode cX12_stays 129 = .ok (.aload_n 0, 1) := by decide +kernel
theorem dX12_stays_130 : decode cX12_stays 130 = .ok (.getfield 41, 3) := by decide +kernel
theorem dX12_stays_133 : decode cX12_stays 133 = .ok (.iload 7, 2) := by decide +kernel
theorem dX12_stays_135 : decode cX12_stays 135 = .ok (.iconst 1, 1) := by decide +kernel
theorem dX12_stays_136 : decode cX12_stays 136 = .ok (.isub, 1) := by decide +kernel
theorem dX12_stays_137 : decode cX12_stays 137 = .ok (.aload_n 0, 1) := by decide +kernel
theorem dX12_stays_138 : decode cX12_stays 138 = .ok (.getfield 41, 3) := by decide +kernel
theorem dX12_stays_141 : decode cX12_stays 141 = .ok (.iload 7, 2) := by decide +kernel
theorem dX12_stays_143 : decode cX12_stays 143 = .ok (.iconst 1, 1) := by decide +kernel
theorem dX12_stays_144 : decode cX12_stays 144 = .ok (.isub, 1) := by decide +kernel
theorem dX12_stays_145 : decode cX12_stays 145 = .ok (.baload, 1) := by decide +kernel
theorem dX12_stays_146 : decode cX12_stays 146 = .ok (.ifCond .ne 7, 3) := by decide +kernel
theorem dX12_stays_149 : decode cX12_stays 149 = .ok (.iconst 1, 1) := by decide +kernel
theorem dX12_stays_150 : decode cX12_stays 150 = .ok (.goto 4, 3) := by decide +kernel
theorem dX12_stays_153 : decode cX12_stays 153 = .ok (.iconst 0, 1) := by decide +kernel
theorem dX12_stays_154 : decode cX12_stays 154 = .ok (.bastore, 1) := by decide +kernel
theorem dX12_stays_155 : decode cX12_stays 155 = .ok (.goto 79, 3) := by decide +kernel
theorem dX12_stays_158 : decode cX12_stays 158 = .ok (.iinc 7 (-1), 3) := by decide +kernel
theorem dX12_stays_161 : decode cX12_stays 161 = .ok (.aload_n 0, 1) := by decide +kernel
theorem dX12_stays_162 : decode cX12_stays 162 = .ok (.getfield 41, 3) := by decide +kernel
theorem dX12_stays_165 : decode cX12_stays 165 = .ok (.iload 7, 2) := by decide +kernel
theorem dX12_stays_167 : decode cX12_stays 167 = .ok (.iconst 1, 1) := by decide +kernel
theorem dX12_stays_168 : decode cX12_stays 168 = .ok (.isub, 1) := by decide +kernel
theorem dX12_stays_169 : decode cX12_stays 169 = .ok (.iload 9, 2) := by decide +kernel
theorem dX12_stays_171 : decode cX12_stays 171 = .ok (.bipush 8, 2) := by decide +kernel
theorem dX12_stays_173 : decode cX12_stays 173 = .ok (.if_icmp .ne 33, 3) := by decide +kernel
theorem dX12_stays_176 : decode cX12_stays 176 = .ok (.aload_n 0, 1) := by decide +kernel
theorem dX12_stays_177 : decode cX12_stays 177 = .ok (.getfield 41, 3) := by decide +kernel
theorem dX12_stays_180 : decode cX12_stays 180 = .ok (.iload 7, 2) := by decide +kernel
theorem dX12_stays_182 : decode cX12_stays 182 = .ok (.iconst 1, 1) := by decide +kernel
theorem dX12_stays_183 : decode cX12_stays 183 = .ok (.isub, 1) := by decide +kernel
theorem dX12_stays_184 : decode cX12_stays 184 = .ok (.baload, 1) := by decide +kernel
theorem dX12_stays_185 : decode cX12_stays 185 = .ok (.ifCond .eq 17, 3) := by decide +kernel
theorem dX12_stays_188 : decode cX12_stays 188 = .ok (.aload_n 0, 1) := by decide +kernel
theorem dX12_stays_189 : decode cX12_stays 189 = .ok (.getfield 41, 3) := by decide +kernel
theorem dX12_stays_192 : decode cX12_stays 192 = .ok (.iload 7, 2) := by decide +kernel
theorem dX12_stays_194 : decode cX12_stays 194 = .ok (.baload, 1) := by decide +kernel
theorem dX12_stays_195 : decode cX12_stays 195 = .ok (.ifCond .eq 7, 3) := by decide +kernel
theorem dX12_stays_198 : decode cX12_stays 198 = .ok (.iconst 1, 1) := by decide +kernel
theorem dX12_stays_199 : decode cX12_stays 199 = .ok (.goto 34, 3) := by decide +kernel
theorem dX12_stays_202 : decode cX12_stays 202 = .ok (.iconst 0, 1) := by decide +kernel
theorem dX12_stays_203 : decode cX12_stays 203 = .ok (.goto 30, 3) := by decide +kernel
theorem dX12_stays_206 : decode cX12_stays 206 = .ok (.aload_n 0, 1) := by decide +kernel
theorem dX12_stays_207 : decode cX12_stays 207 = .ok (.getfield 41, 3) := by decide +kernel
theorem dX12_stays_210 : decode cX12_stays 210 = .ok (.iload 7, 2) := by decide +kernel
theorem dX12_stays_212 : decode cX12_stays 212 = .ok (.iconst 1, 1) := by decide +kernel
theorem dX12_stays_213 : decode cX12_stays 213 = .ok (.isub, 1) := by decide +kernel
theorem dX12_stays_214 : decode cX12_stays 214 = .ok (.baload, 1) := by decide +kernel
theorem dX12_stays_215 : decode cX12_stays 215 = .ok (.ifCond .ne 13, 3) := by decide +kernel
theorem dX12_stays_218 : decode cX12_stays 218 = .ok (.aload_n 0, 1) := by decide +kernel
theorem dX12_stays_219 : decode cX12_stays 219 = .ok (.getfield 41, 3) := by decide +kernel
theorem dX12_stays_222 : decode cX12_stays 222 = .ok (.iload 7, 2) := by decide +kernel
theorem dX12_stays_224 : decode cX12_stays 224 = .ok (.baload, 1) := by decide +kernel
theorem dX12_stays_225 : decode cX12_stays 225 = .ok (.ifCond .eq 7, 3) := by decide +kernel
theorem dX12_stays_228 : decode cX12_stays 228 = .ok (.iconst 1, 1) := by decide +kernel
theorem dX12_stays_229 : decode cX12_stays 229 = .ok (.goto 4, 3) := by decide +kernel
theorem dX12_stays_232 : decode cX12_stays 232 = .ok (.iconst 0, 1) := by decide +kernel
theorem dX12_stays_233 : decode cX12_stays 233 = .ok (.bastore, 1) := by decide +kernel
theorem dX12_stays_234 : decode cX12_stays 234 = .ok (.iinc 8 1, 3) := by decide +kernel
theorem dX12_stays_237 : decode cX12_stays 237 = .ok (.goto (-195), 3) := by decide +kernel
theorem dX12_stays_240 : decode cX12_stays 240 = .ok (.aload_n 0, 1) := by decide +kernel
theorem dX12_stays_241 : decode cX12_stays 241 = .ok (.getfield 41, 3) := by decide +kernel
theorem dX12_stays_244 : decode cX12_stays 244 = .ok (.iconst 0, 1) := by decide +kernel
theorem dX12_stays_245 : decode cX12_stays 245 = .ok (.baload, 1) := by decide +kernel
theorem dX12_stays_246 : decode cX12_stays 246 = .ok (.ireturn, 1) := by decide +kernel
theorem dX12_staysOf_0 : decode cX12_staysOf 0 = .ok (.iconst 0, 1) := by decide +kernel
theorem dX12_staysOf_1 : decode cX12_staysOf 1 = .ok (.istore 6, 2) := by decide +kernel
theorem dX12_staysOf_3 : decode cX12_staysOf 3 = .ok (.iconst 0, 1) := by decide +kernel
theorem dX12_staysOf_4 : decode cX12_staysOf 4 = .ok (.istore 7, 2) := by decide +kernel
theorem dX12_staysOf_6 : decode cX12_staysOf 6 = .ok (.iload 7, 2) := by decide +kernel
theorem dX12_staysOf_8 : decode cX12_staysOf 8 = .ok (.aload_n 0, 1) := by decide +kernel
theorem dX12_staysOf_9 : decode cX12_staysOf 9 = .ok (.getfield 35, 3) := by decide +kernel
theorem dX12_staysOf_12 : decode cX12_staysOf 12 = .ok (.iconst 0, 1) := by decide +kernel
theorem dX12_staysOf_13 : decode cX12_staysOf 13 = .ok (.iaload, 1) := by decide +kernel
theorem dX12_staysOf_14 : decode cX12_staysOf 14 = .ok (.if_icmp .ge 43, 3) := by decide +kernel
theorem dX12_staysOf_17 : decode cX12_staysOf 17 = .ok (.iload_n 1, 1) := by decide +kernel
theorem dX12_staysOf_18 : decode cX12_staysOf 18 = .ok (.iload 7, 2) := by decide +kernel
theorem dX12_staysOf_20 : decode cX12_staysOf 20 = .ok (.invokestatic 372, 3) := by decide +kernel
theorem dX12_staysOf_23 : decode cX12_staysOf 23 = .ok (.ifCond .eq 28, 3) := by decide +kernel
theorem dX12_staysOf_26 : decode cX12_staysOf 26 = .ok (.aload_n 0, 1) := by decide +kernel
theorem dX12_staysOf_27 : decode cX12_staysOf 27 = .ok (.iload 7, 2) := by decide +kernel
theorem dX12_staysOf_29 : decode cX12_staysOf 29 = .ok (.iload_n 1, 1) := by decide +kernel
theorem dX12_staysOf_30 : decode cX12_staysOf 30 = .ok (.iload_n 2, 1) := by decide +kernel
theorem dX12_staysOf_31 : decode cX12_staysOf 31 = .ok (.iload_n 3, 1) := by decide +kernel
theorem dX12_staysOf_32 : decode cX12_staysOf 32 = .ok (.iload 4, 2) := by decide +kernel
theorem dX12_staysOf_34 : decode cX12_staysOf 34 = .ok (.iload 5, 2) := by decide +kernel
theorem dX12_staysOf_36 : decode cX12_staysOf 36 = .ok (.invokevirtual 382, 3) := by decide +kernel
theorem dX12_staysOf_39 : decode cX12_staysOf 39 = .ok (.ifCond .eq 12, 3) := by decide +kernel
theorem dX12_staysOf_42 : decode cX12_staysOf 42 = .ok (.iload 6, 2) := by decide +kernel
theorem dX12_staysOf_44 : decode cX12_staysOf 44 = .ok (.iconst 1, 1) := by decide +kernel
theorem dX12_staysOf_45 : decode cX12_staysOf 45 = .ok (.iload 7, 2) := by decide +kernel
theorem dX12_staysOf_47 : decode cX12_staysOf 47 = .ok (.ishl, 1) := by decide +kernel
theorem dX12_staysOf_48 : decode cX12_staysOf 48 = .ok (.ior, 1) := by decide +kernel
theorem dX12_staysOf_49 : decode cX12_staysOf 49 = .ok (.istore 6, 2) := by decide +kernel
theorem dX12_staysOf_51 : decode cX12_staysOf 51 = .ok (.iinc 7 1, 3) := by decide +kernel
theorem dX12_staysOf_54 : decode cX12_staysOf 54 = .ok (.goto (-48), 3) := by decide +kernel
theorem dX12_staysOf_57 : decode cX12_staysOf 57 = .ok (.iload 6, 2) := by decide +kernel
theorem dX12_staysOf_59 : decode cX12_staysOf 59 = .ok (.ireturn, 1) := by decide +kernel
theorem dX12_mayWear_0 : decode cX12_mayWear 0 = .ok (.iload_n 1, 1) := by decide +kernel
theorem dX12_mayWear_1 : decode cX12_mayWear 1 = .ok (.iconst (-1), 1) := by decide +kernel
theorem dX12_mayWear_2 : decode cX12_mayWear 2 = .ok (.if_icmp .eq 23, 3) := by decide +kernel
theorem dX12_mayWear_5 : decode cX12_mayWear 5 = .ok (.iload_n 2, 1) := by decide +kernel
theorem dX12_mayWear_6 : decode cX12_mayWear 6 = .ok (.iload_n 1, 1) := by decide +kernel
theorem dX12_mayWear_7 : decode cX12_mayWear 7 = .ok (.invokestatic 372, 3) := by decide +kernel
theorem dX12_mayWear_10 : decode cX12_mayWear 10 = .ok (.ifCond .eq 19, 3) := by decide +kernel
theorem dX12_mayWear_13 : decode cX12_mayWear 13 = .ok (.aload_n 0, 1) := by decide +kernel
theorem dX12_mayWear_14 : decode cX12_mayWear 14 = .ok (.getfield 35, 3) := by decide +kernel
theorem dX12_mayWear_17 : decode cX12_mayWear 17 = .ok (.iconst 5, 1) := by decide +kernel
theorem dX12_mayWear_18 : decode cX12_mayWear 18 = .ok (.iload_n 1, 1) := by decide +kernel
theorem dX12_mayWear_19 : decode cX12_mayWear 19 = .ok (.iadd, 1) := by decide +kernel
theorem dX12_mayWear_20 : decode cX12_mayWear 20 = .ok (.iaload, 1) := by decide +kernel
theorem dX12_mayWear_21 : decode cX12_mayWear 21 = .ok (.iconst 1, 1) := by decide +kernel
theorem dX12_mayWear_22 : decode cX12_mayWear 22 = .ok (.if_icmp .ne 7, 3) := by decide +kernel
theorem dX12_mayWear_25 : decode cX12_mayWear 25 = .ok (.iconst 1, 1) := by decide +kernel
theorem dX12_mayWear_26 : decode cX12_mayWear 26 = .ok (.goto 4, 3) := by decide +kernel
theorem dX12_mayWear_29 : decode cX12_mayWear 29 = .ok (.iconst 0, 1) := by decide +kernel
theorem dX12_mayWear_30 : decode cX12_mayWear 30 = .ok (.ireturn, 1) := by decide +kernel
theorem dX12_mayHold_0 : decode cX12_mayHold 0 = .ok (.iload_n 1, 1) := by decide +kernel
theorem dX12_mayHold_1 : decode cX12_mayHold 1 = .ok (.iconst (-1), 1) := by decide +kernel
theorem dX12_mayHold_2 : decode cX12_mayHold 2 = .ok (.if_icmp .eq 18, 3) := by decide +kernel
theorem dX12_mayHold_5 : decode cX12_mayHold 5 = .ok (.iload_n 2, 1) := by decide +kernel
theorem dX12_mayHold_6 : decode cX12_mayHold 6 = .ok (.iload_n 1, 1) := by decide +kernel
theorem dX12_mayHold_7 : decode cX12_mayHold 7 = .ok (.invokestatic 372, 3) := by decide +kernel
theorem dX12_mayHold_10 : decode cX12_mayHold 10 = .ok (.ifCond .eq 14, 3) := by decide +kernel
theorem dX12_mayHold_13 : decode cX12_mayHold 13 = .ok (.aload_n 0, 1) := by decide +kernel
theorem dX12_mayHold_14 : decode cX12_mayHold 14 = .ok (.invokevirtual 354, 3) := by decide +kernel
theorem dX12_mayHold_17 : decode cX12_mayHold 17 = .ok (.ifCond .eq 7, 3) := by decide +kernel
theorem dX12_mayHold_20 : decode cX12_mayHold 20 = .ok (.iconst 1, 1) := by decide +kernel
theorem dX12_mayHold_21 : decode cX12_mayHold 21 = .ok (.goto 4, 3) := by decide +kernel
theorem dX12_mayHold_24 : decode cX12_mayHold 24 = .ok (.iconst 0, 1) := by decide +kernel
theorem dX12_mayHold_25 : decode cX12_mayHold 25 = .ok (.ireturn, 1) := by decide +kernel
theorem dX12_maySend_0 : decode cX12_maySend 0 = .ok (.iload_n 1, 1) := by decide +kernel
theorem dX12_maySend_1 : decode cX12_maySend 1 = .ok (.iconst (-1), 1) := by decide +kernel
theorem dX12_maySend_2 : decode cX12_maySend 2 = .ok (.if_icmp .eq 24, 3) := by decide +kernel
theorem dX12_maySend_5 : decode cX12_maySend 5 = .ok (.iload_n 2, 1) := by decide +kernel
theorem dX12_maySend_6 : decode cX12_maySend 6 = .ok (.iload_n 1, 1) := by decide +kernel
theorem dX12_maySend_7 : decode cX12_maySend 7 = .ok (.invokestatic 372, 3) := by decide +kernel
theorem dX12_maySend_10 : decode cX12_maySend 10 = .ok (.ifCond .eq 20, 3) := by decide +kernel
theorem dX12_maySend_13 : decode cX12_maySend 13 = .ok (.aload_n 0, 1) := by decide +kernel
theorem dX12_maySend_14 : decode cX12_maySend 14 = .ok (.getfield 35, 3) := by decide +kernel
theorem dX12_maySend_17 : decode cX12_maySend 17 = .ok (.bipush 13, 2) := by decide +kernel
theorem dX12_maySend_19 : decode cX12_maySend 19 = .ok (.iload_n 1, 1) := by decide +kernel
theorem dX12_maySend_20 : decode cX12_maySend 20 = .ok (.iadd, 1) := by decide +kernel
theorem dX12_maySend_21 : decode cX12_maySend 21 = .ok (.iaload, 1) := by decide +kernel
theorem dX12_maySend_22 : decode cX12_maySend 22 = .ok (.iconst 1, 1) := by decide +kernel
theorem dX12_maySend_23 : decode cX12_maySend 23 = .ok (.if_icmp .ne 7, 3) := by decide +kernel
theorem dX12_maySend_26 : decode cX12_maySend 26 = .ok (.iconst 1, 1) := by decide +kernel
theorem dX12_maySend_27 : decode cX12_maySend 27 = .ok (.goto 4, 3) := by decide +kernel
theorem dX12_maySend_30 : decode cX12_maySend 30 = .ok (.iconst 0, 1) := by decide +kernel
theorem dX12_maySend_31 : decode cX12_maySend 31 = .ok (.ireturn, 1) := by decide +kernel
theorem dX12_isThingOrNone_0 : decode cX12_isThingOrNone 0 = .ok (.iload_n 1, 1) := by decide +kernel
theorem dX12_isThingOrNone_1 : decode cX12_isThingOrNone 1 = .ok (.iconst (-1), 1) := by decide +kernel
theorem dX12_isThingOrNone_2 : decode cX12_isThingOrNone 2 = .ok (.if_icmp .eq 11, 3) := by decide +kernel
theorem dX12_isThingOrNone_5 : decode cX12_isThingOrNone 5 = .ok (.aload_n 0, 1) := by decide +kernel
theorem dX12_isThingOrNone_6 : decode cX12_isThingOrNone 6 = .ok (.iload_n 1, 1) := by decide +kernel
theorem dX12_isThingOrNone_7 : decode cX12_isThingOrNone 7 = .ok (.invokevirtual 357, 3) := by decide +kernel
theorem dX12_isThingOrNone_10 : decode cX12_isThingOrNone 10 = .ok (.ifCond .eq 7, 3) := by decide +kernel
theorem dX12_isThingOrNone_13 : decode cX12_isThingOrNone 13 = .ok (.iconst 1, 1) := by decide +kernel
theorem dX12_isThingOrNone_14 : decode cX12_isThingOrNone 14 = .ok (.goto 4, 3) := by decide +kernel
theorem dX12_isThingOrNone_17 : decode cX12_isThingOrNone 17 = .ok (.iconst 0, 1) := by decide +kernel
theorem dX12_isThingOrNone_18 : decode cX12_isThingOrNone 18 = .ok (.ireturn, 1) := by decide +kernel
theorem dX12_night_0 : decode cX12_night 0 = .ok (.aload_n 0, 1) := by decide +kernel
theorem dX12_night_1 : decode cX12_night 1 = .ok (.iconst 0, 1) := by decide +kernel
theorem dX12_night_2 : decode cX12_night 2 = .ok (.putfield 87, 3) := by decide +kernel
theorem dX12_night_5 : decode cX12_night 5 = .ok (.aload_n 0, 1) := by decide +kernel
theorem dX12_night_6 : decode cX12_night 6 = .ok (.iconst 0, 1) := by decide +kernel
theorem dX12_night_7 : decode cX12_night 7 = .ok (.putfield 90, 3) := by decide +kernel
theorem dX12_night_10 : decode cX12_night 10 = .ok (.aload_n 0, 1) := by decide +kernel
theorem dX12_night_11 : decode cX12_night 11 = .ok (.iload_n 1, 1) := by decide +kernel
theorem dX12_night_12 : decode cX12_night 12 = .ok (.invokevirtual 386, 3) := by decide +kernel
theorem dX12_night_15 : decode cX12_night 15 = .ok (.ifCond .eq 28, 3) := by decide +kernel
theorem dX12_night_18 : decode cX12_night 18 = .ok (.aload_n 0, 1) := by decide +kernel
theorem dX12_night_19 : decode cX12_night 19 = .ok (.iload_n 2, 1) := by decide +kernel
theorem dX12_night_20 : decode cX12_night 20 = .ok (.invokevirtual 389, 3) := by decide +kernel
theorem dX12_night_23 : decode cX12_night 23 = .ok (.ifCond .eq 20, 3) := by decide +kernel
theorem dX12_night_26 : decode cX12_night 26 = .ok (.aload_n 0, 1) := by decide +kernel
theorem dX12_night_27 : decode cX12_night 27 = .ok (.iload_n 3, 1) := by decide +kernel
theorem dX12_night_28 : decode cX12_night 28 = .ok (.invokevirtual 389, 3) := by decide +kernel
theorem dX12_night_31 : decode cX12_night 31 = .ok (.ifCond .eq 12, 3) := by decide +kernel
theorem dX12_night_34 : decode cX12_night 34 = .ok (.aload_n 0, 1) := by decide +kernel
theorem dX12_night_35 : decode cX12_night 35 = .ok (.iload 4, 2) := by decide +kernel
theorem dX12_night_37 : decode cX12_night 37 = .ok (.invokevirtual 389, 3) := by decide +kernel
theorem dX12_night_40 : decode cX12_night 40 = .ok (.ifCond .ne 9, 3) := by decide +kernel
theorem dX12_night_43 : decode cX12_night 43 = .ok (.aload_n 0, 1) := by decide +kernel
theorem dX12_night_44 : decode cX12_night 44 = .ok (.iconst 2, 1) := by decide +kernel
theorem dX12_night_45 : decode cX12_night 45 = .ok (.invokevirtual 351, 3) := by decide +kernel
theorem dX12_night_48 : decode cX12_night 48 = .ok (.ireturn, 1) := by decide +kernel
theorem dX12_night_49 : decode cX12_night 49 = .ok (.iload 5, 2) := by decide +kernel
theorem dX12_night_51 : decode cX12_night 51 = .ok (.i2l, 1) := by decide +kernel
theorem dX12_night_52 : decode cX12_night 52 = .ok (.lconst 0, 1) := by decide +kernel
theorem dX12_night_53 : decode cX12_night 53 = .ok (.ldc2_w 392, 3) := by decide +kernel
theorem dX12_night_56 : decode cX12_night 56 = .ok (.invokestatic 122, 3) := by decide +kernel
theorem dX12_night_59 : decode cX12_night 59 = .ok (.ifCond .ne 9, 3) := by decide +kernel
theorem dX12_night_62 : decode cX12_night 62 = .ok (.aload_n 0, 1) := by decide +kernel
theorem dX12_night_63 : decode cX12_night 63 = .ok (.iconst 5, 1) := by decide +kernel
theorem dX12_night_64 : decode cX12_night 64 = .ok (.invokevirtual 351, 3) := by decide +kernel
theorem dX12_night_67 : decode cX12_night 67 = .ok (.ireturn, 1) := by decide +kernel
theorem dX12_night_68 : decode cX12_night 68 = .ok (.aload_n 0, 1) := by decide +kernel
theorem dX12_night_69 : decode cX12_night 69 = .ok (.iload_n 2, 1) := by decide +kernel
theorem dX12_night_70 : decode cX12_night 70 = .ok (.iload_n 1, 1) := by decide +kernel
theorem dX12_night_71 : decode cX12_night 71 = .ok (.invokevirtual 394, 3) := by decide +kernel
theorem dX12_night_74 : decode cX12_night 74 = .ok (.ifCond .eq 22, 3) := by decide +kernel
theorem dX12_night_77 : decode cX12_night 77 = .ok (.aload_n 0, 1) := by decide +kernel
theorem dX12_night_78 : decode cX12_night 78 = .ok (.iload_n 3, 1) := by decide +kernel
theorem dX12_night_79 : decode cX12_night 79 = .ok (.iload_n 1, 1) := by decide +kernel
theorem dX12_night_80 : decode cX12_night 80 = .ok (.invokevirtual 397, 3) := by decide +kernel
theorem dX12_night_83 : decode cX12_night 83 = .ok (.ifCond .eq 13, 3) := by decide +kernel
theorem dX12_night_86 : decode cX12_night 86 = .ok (.aload_n 0, 1) := by decide +kernel
theorem dX12_night_87 : decode cX12_night 87 = .ok (.iload 4, 2) := by decide +kernel
theorem dX12_night_89 : decode cX12_night 89 = .ok (.iload_n 1, 1) := by decide +kernel
theorem dX12_night_90 : decode cX12_night 90 = .ok (.invokevirtual 400, 3) := by decide +kernel
theorem dX12_night_93 : decode cX12_night 93 = .ok (.ifCond .ne 10, 3) := by decide +kernel
theorem dX12_night_96 : decode cX12_night 96 = .ok (.aload_n 0, 1) := by decide +kernel
theorem dX12_night_97 : decode cX12_night 97 = .ok (.bipush 9, 2) := by decide +kernel
theorem dX12_night_99 : decode cX12_night 99 = .ok (.invokevirtual 351, 3) := by decide +kernel
theorem dX12_night_102 : decode cX12_night 102 = .ok (.ireturn, 1) := by decide +kernel
theorem dX12_night_103 : decode cX12_night 103 = .ok (.aload_n 0, 1) := by decide +kernel
theorem dX12_night_104 : decode cX12_night 104 = .ok (.iconst 0, 1) := by decide +kernel
theorem dX12_night_105 : decode cX12_night 105 = .ok (.putfield 375, 3) := by decide +kernel
theorem dX12_night_108 : decode cX12_night 108 = .ok (.aload_n 0, 1) := by decide +kernel
theorem dX12_night_109 : decode cX12_night 109 = .ok (.iload_n 1, 1) := by decide +kernel
theorem dX12_night_110 : decode cX12_night 110 = .ok (.iload_n 2, 1) := by decide +kernel
theorem dX12_night_111 : decode cX12_night 111 = .ok (.iload_n 3, 1) := by decide +kernel
theorem dX12_night_112 : decode cX12_night 112 = .ok (.iload 4, 2) := by decide +kernel
theorem dX12_night_114 : decode cX12_night 114 = .ok (.iload 5, 2) := by decide +kernel
theorem dX12_night_116 : decode cX12_night 116 = .ok (.invokevirtual 403, 3) := by decide +kernel
theorem dX12_night_119 : decode cX12_night 119 = .ok (.ireturn, 1) := by decide +kernel
theorem dX12_needsOf_0 : decode cX12_needsOf 0 = .ok (.aload_n 0, 1) := by decide +kernel
theorem dX12_needsOf_1 : decode cX12_needsOf 1 = .ok (.getfield 35, 3) := by decide +kernel
theorem dX12_needsOf_4 : decode cX12_needsOf 4 = .ok (.bipush 65, 2) := by decide +kernel
theorem dX12_needsOf_6 : decode cX12_needsOf 6 = .ok (.iload_n 1, 1) := by decide +kernel
theorem dX12_needsOf_7 : decode cX12_needsOf 7 = .ok (.iadd, 1) := by decide +kernel
theorem dX12_needsOf_8 : decode cX12_needsOf 8 = .ok (.iaload, 1) := by decide +kernel
theorem dX12_needsOf_9 : decode cX12_needsOf 9 = .ok (.aload_n 0, 1) := by decide +kernel
theorem dX12_needsOf_10 : decode cX12_needsOf 10 = .ok (.getfield 35, 3) := by decide +kernel
theorem dX12_needsOf_13 : decode cX12_needsOf 13 = .ok (.bipush 77, 2) := by decide +kernel
theorem dX12_needsOf_15 : decode cX12_needsOf 15 = .ok (.iload_n 1, 1) := by decide +kernel
theorem dX12_needsOf_16 : decode cX12_needsOf 16 = .ok (.iadd, 1) := by decide +kernel
theorem dX12_needsOf_17 : decode cX12_needsOf 17 = .ok (.iaload, 1) := by decide +kernel
theorem dX12_needsOf_18 : decode cX12_needsOf 18 = .ok (.ior, 1) := by decide +kernel
theorem dX12_needsOf_19 : decode cX12_needsOf 19 = .ok (.ireturn, 1) := by decide +kernel
theorem dX12_endsSoonest_0 : decode cX12_endsSoonest 0 = .ok (.iconst 0, 1) := by decide +kernel
theorem dX12_endsSoonest_1 : decode cX12_endsSoonest 1 = .ok (.istore_n 2, 1) := by decide +kernel
theorem dX12_endsSoonest_2 : decode cX12_endsSoonest 2 = .ok (.iconst 0, 1) := by decide +kernel
theorem dX12_endsSoonest_3 : decode cX12_endsSoonest 3 = .ok (.istore_n 3, 1) := by decide +kernel
theorem dX12_endsSoonest_4 : decode cX12_endsSoonest 4 = .ok (.iload_n 3, 1) := by decide +kernel
theorem dX12_endsSoonest_5 : decode cX12_endsSoonest 5 = .ok (.aload_n 0, 1) := by decide +kernel
theorem dX12_endsSoonest_6 : decode cX12_endsSoonest 6 = .ok (.getfield 35, 3) := by decide +kernel
theorem dX12_endsSoonest_9 : decode cX12_endsSoonest 9 = .ok (.iconst 0, 1) := by decide +kernel
theorem dX12_endsSoonest_10 : decode cX12_endsSoonest 10 = .ok (.iaload, 1) := by decide +kernel
theorem dX12_endsSoonest_11 : decode cX12_endsSoonest 11 = .ok (.if_icmp .ge 46, 3) := by decide +kernel
theorem dX12_endsSoonest_14 : decode cX12_endsSoonest 14 = .ok (.aload_n 0, 1) := by decide +kernel
theorem dX12_endsSoonest_15 : decode cX12_endsSoonest 15 = .ok (.iload_n 1, 1) := by decide +kernel
theorem dX12_endsSoonest_16 : decode cX12_endsSoonest 16 = .ok (.invokevirtual 407, 3) := by decide +kernel
theorem dX12_endsSoonest_19 : decode cX12_endsSoonest 19 = .ok (.iload_n 3, 1) := by decide +kernel
theorem dX12_endsSoonest_20 : decode cX12_endsSoonest 20 = .ok (.invokestatic 372, 3) := by decide +kernel
theorem dX12_endsSoonest_23 : decode cX12_endsSoonest 23 = .ok (.ifCond .ne 6, 3) := by decide +kernel
theorem dX12_endsSoonest_26 : decode cX12_endsSoonest 26 = .ok (.goto 25, 3) := by decide +kernel
theorem dX12_endsSoonest_29 : decode cX12_endsSoonest 29 = .ok (.aload_n 0, 1) := by decide +kernel
theorem dX12_endsSoonest_30 : decode cX12_endsSoonest 30 = .ok (.getfield 63, 3) := by decide +kernel
theorem dX12_endsSoonest_33 : decode cX12_endsSoonest 33 = .ok (.iload_n 3, 1) := by decide +kernel
theorem dX12_endsSoonest_34 : decode cX12_endsSoonest 34 = .ok (.iaload, 1) := by decide +kernel
theorem dX12_endsSoonest_35 : decode cX12_endsSoonest 35 = .ok (.ifCond .ge 5, 3) := by decide +kernel
theorem dX12_endsSoonest_38 : decode cX12_endsSoonest 38 = .ok (.iconst (-1), 1) := by decide +kernel
theorem dX12_endsSoonest_39 : decode cX12_endsSoonest 39 = .ok (.ireturn, 1) := by decide +kernel
theorem dX12_endsSoonest_40 : decode cX12_endsSoonest 40 = .ok (.iload_n 2, 1) := by decide +kernel
theorem dX12_endsSoonest_41 : decode cX12_endsSoonest 41 = .ok (.aload_n 0, 1) := by decide +kernel
theorem dX12_endsSoonest_42 : decode cX12_endsSoonest 42 = .ok (.getfield 63, 3) := by decide +kernel
theorem dX12_endsSoonest_45 : decode cX12_endsSoonest 45 = .ok (.iload_n 3, 1) := by decide +kernel
theorem dX12_endsSoonest_46 : decode cX12_endsSoonest 46 = .ok (.iaload, 1) := by decide +kernel
theorem dX12_endsSoonest_47 : decode cX12_endsSoonest 47 = .ok (.invokestatic 410, 3) := by decide +kernel
theorem dX12_endsSoonest_50 : decode cX12_endsSoonest 50 = .ok (.istore_n 2, 1) := by decide +kernel
theorem dX12_endsSoonest_51 : decode cX12_endsSoonest 51 = .ok (.iinc 3 1, 3) := by decide +kernel
theorem dX12_endsSoonest_54 : decode cX12_endsSoonest 54 = .ok (.goto (-50), 3) := by decide +kernel
theorem dX12_endsSoonest_57 : decode cX12_endsSoonest 57 = .ok (.iload_n 2, 1) := by decide +kernel
theorem dX12_endsSoonest_58 : decode cX12_endsSoonest 58 = .ok (.aload_n 0, 1) := by decide +kernel
theorem dX12_endsSoonest_59 : decode cX12_endsSoonest 59 = .ok (.getfield 35, 3) := by decide +kernel
theorem dX12_endsSoonest_62 : decode cX12_endsSoonest 62 = .ok (.bipush 41, 2) := by decide +kernel
theorem dX12_endsSoonest_64 : decode cX12_endsSoonest 64 = .ok (.iload_n 1, 1) := by decide +kernel
theorem dX12_endsSoonest_65 : decode cX12_endsSoonest 65 = .ok (.iadd, 1) := by decide +kernel
theorem dX12_endsSoonest_66 : decode cX12_endsSoonest 66 = .ok (.iaload, 1) := by decide +kernel
theorem dX12_endsSoonest_67 : decode cX12_endsSoonest 67 = .ok (.iadd, 1) := by decide +kernel
theorem dX12_endsSoonest_68 : decode cX12_endsSoonest 68 = .ok (.ireturn, 1) := by decide +kernel
theorem dX12_findSoonest_0 : decode cX12_findSoonest 0 = .ok (.iconst 0, 1) := by decide +kernel
theorem dX12_findSoonest_1 : decode cX12_findSoonest 1 = .ok (.istore_n 2, 1) := by decide +kernel
theorem dX12_findSoonest_2 : decode cX12_findSoonest 2 = .ok (.iload_n 2, 1) := by decide +kernel
theorem dX12_findSoonest_3 : decode cX12_findSoonest 3 = .ok (.bipush 8, 2) := by decide +kernel
theorem dX12_findSoonest_5 : decode cX12_findSoonest 5 = .ok (.if_icmp .ge 35, 3) := by decide +kernel
theorem dX12_findSoonest_8 : decode cX12_findSoonest 8 = .ok (.aload_n 0, 1) := by decide +kernel
theorem dX12_findSoonest_9 : decode cX12_findSoonest 9 = .ok (.getfield 63, 3) := by decide +kernel
theorem dX12_findSoonest_12 : decode cX12_findSoonest 12 = .ok (.iload_n 2, 1) := by decide +kernel
theorem dX12_findSoonest_13 : decode cX12_findSoonest 13 = .ok (.iload_n 1, 1) := by decide +kernel
theorem dX12_findSoonest_14 : decode cX12_findSoonest 14 = .ok (.iload_n 2, 1) := by decide +kernel
theorem dX12_findSoonest_15 : decode cX12_findSoonest 15 = .ok (.invokestatic 372, 3) := by decide +kernel
theorem dX12_findSoonest_18 : decode cX12_findSoonest 18 = .ok (.ifCond .eq 7, 3) := by decide +kernel
theorem dX12_findSoonest_21 : decode cX12_findSoonest 21 = .ok (.iconst 0, 1) := by decide +kernel
theorem dX12_findSoonest_22 : decode cX12_findSoonest 22 = .ok (.goto 4, 3) := by decide +kernel
theorem dX12_findSoonest_25 : decode cX12_findSoonest 25 = .ok (.iconst (-1), 1) := by decide +kernel
theorem dX12_findSoonest_26 : decode cX12_findSoonest 26 = .ok (.iastore, 1) := by decide +kernel
theorem dX12_findSoonest_27 : decode cX12_findSoonest 27 = .ok (.aload_n 0, 1) := by decide +kernel
theorem dX12_findSoonest_28 : decode cX12_findSoonest 28 = .ok (.getfield 66, 3) := by decide +kernel
theorem dX12_findSoonest_31 : decode cX12_findSoonest 31 = .ok (.iload_n 2, 1) := by decide +kernel
theorem dX12_findSoonest_32 : decode cX12_findSoonest 32 = .ok (.iconst (-1), 1) := by decide +kernel
theorem dX12_findSoonest_33 : decode cX12_findSoonest 33 = .ok (.iastore, 1) := by decide +kernel
theorem dX12_findSoonest_34 : decode cX12_findSoonest 34 = .ok (.iinc 2 1, 3) := by decide +kernel
theorem dX12_findSoonest_37 : decode cX12_findSoonest 37 = .ok (.goto (-35), 3) := by decide +kernel
theorem dX12_findSoonest_40 : decode cX12_findSoonest 40 = .ok (.iconst 1, 1) := by decide +kernel
theorem dX12_findSoonest_41 : decode cX12_findSoonest 41 = .ok (.istore_n 2, 1) := by decide +kernel
theorem dX12_findSoonest_42 : decode cX12_findSoonest 42 = .ok (.iload_n 2, 1) := by decide +kernel
theorem dX12_findSoonest_43 : decode cX12_findSoonest 43 = .ok (.ifCond .eq 85, 3) := by decide +kernel
theorem dX12_findSoonest_46 : decode cX12_findSoonest 46 = .ok (.iconst 0, 1) := by decide +kernel
theorem dX12_findSoonest_47 : decode cX12_findSoonest 47 = .ok (.istore_n 2, 1) := by decide +kernel
theorem dX12_findSoonest_48 : decode cX12_findSoonest 48 = .ok (.iconst 0, 1) := by decide +kernel
theorem dX12_findSoonest_49 : decode cX12_findSoonest 49 = .ok (.istore_n 3, 1) := by decide +kernel
theorem dX12_findSoonest_50 : decode cX12_findSoonest 50 = .ok (.iload_n 3, 1) := by decide +kernel
theorem dX12_findSoonest_51 : decode cX12_findSoonest 51 = .ok (.aload_n 0, 1) := by decide +kernel
theorem dX12_findSoonest_52 : decode cX12_findSoonest 52 = .ok (.getfield 35, 3) := by decide +kernel
theorem dX12_findSoonest_55 : decode cX12_findSoonest 55 = .ok (.iconst 1, 1) := by decide +kernel
theorem dX12_findSoonest_56 : decode cX12_findSoonest 56 = .ok (.iaload, 1) := by decide +kernel
theorem dX12_findSoonest_57 : decode cX12_findSoonest 57 = .ok (.if_icmp .ge 68, 3) := by decide +kernel
theorem dX12_findSoonest_60 : decode cX12_findSoonest 60 = .ok (.aload_n 0, 1) := by decide +kernel
theorem dX12_findSoonest_61 : decode cX12_findSoonest 61 = .ok (.getfield 35, 3) := by decide +kernel
theorem dX12_findSoonest_64 : decode cX12_findSoonest 64 = .ok (.bipush 29, 2) := by decide +kernel
theorem dX12_findSoonest_66 : decode cX12_findSoonest 66 = .ok (.iload_n 3, 1) := by decide +kernel
theorem dX12_findSoonest_67 : decode cX12_findSoonest 67 = .ok (.iadd, 1) := by decide +kernel
theorem dX12_findSoonest_68 : decode cX12_findSoonest 68 = .ok (.iaload, 1) := by decide +kernel
theorem dX12_findSoonest_69 : decode cX12_findSoonest 69 = .ok (.istore 4, 2) := by decide +kernel
theorem dX12_findSoonest_71 : decode cX12_findSoonest 71 = .ok (.aload_n 0, 1) := by decide +kernel
theorem dX12_findSoonest_72 : decode cX12_findSoonest 72 = .ok (.iload_n 3, 1) := by decide +kernel
theorem dX12_findSoonest_73 : decode cX12_findSoonest 73 = .ok (.invokevirtual 413, 3) := by decide +kernel
theorem dX12_findSoonest_76 : decode cX12_findSoonest 76 = .ok (.istore 5, 2) := by decide +kernel
theorem dX12_findSoonest_78 : decode cX12_findSoonest 78 = .ok (.iload 5, 2) := by decide +kernel
theorem dX12_findSoonest_80 : decode cX12_findSoonest 80 = .ok (.ifCond .lt 39, 3) := by decide +kernel
theorem dX12_findSoonest_83 : decode cX12_findSoonest 83 = .ok (.aload_n 0, 1) := by decide +kernel
theorem dX12_findSoonest_84 : decode cX12_findSoonest 84 = .ok (.getfield 63, 3) := by decide +kernel
theorem dX12_findSoonest_87 : decode cX12_findSoonest 87 = .ok (.iload 4, 2) := by decide +kernel
theorem dX12_findSoonest_89 : decode cX12_findSoonest 89 = .ok (.iaload, 1) := by decide +kernel
theorem dX12_findSoonest_90 : decode cX12_findSoonest 90 = .ok (.ifCond .lt 18, 3) := by decide +kernel
theorem dX12_findSoonest_93 : decode cX12_findSoonest 93 = .ok (.iload 5, 2) := by decide +kernel
theorem dX12_findSoonest_95 : decode cX12_findSoonest 95 = .ok (.aload_n 0, 1) := by decide +kernel
theorem dX12_findSoonest_96 : decode cX12_findSoonest 96 = .ok (.getfield 63, 3) := by decide +kernel
theorem dX12_findSoonest_99 : decode cX12_findSoonest 99 = .ok (.iload 4, 2) := by decide +kernel
theorem dX12_findSoonest_101 : decode cX12_findSoonest 101 = .ok (.iaload, 1) := by decide +kernel
theorem dX12_findSoonest_102 : decode cX12_findSoonest 102 = .ok (.if_icmp .lt 6, 3) := by decide +kernel
theorem dX12_findSoonest_105 : decode cX12_findSoonest 105 = .ok (.goto 14, 3) := by decide +kernel
theorem dX12_findSoonest_108 : decode cX12_findSoonest 108 = .ok (.aload_n 0, 1) := by decide +kernel
theorem dX12_findSoonest_109 : decode cX12_findSoonest 109 = .ok (.getfield 63, 3) := by decide +kernel
theorem dX12_findSoonest_112 : decode cX12_findSoonest 112 = .ok (.iload 4, 2) := by decide +kernel
theorem dX12_findSoonest_114 : decode cX12_findSoonest 114 = .ok (.iload 5, 2) := by decide +kernel
theorem dX12_findSoonest_116 : decode cX12_findSoonest 116 = .ok (.iastore, 1) := by decide +kernel
theorem dX12_findSoonest_117 : decode cX12_findSoonest 117 = .ok (.iconst 1, 1) := by decide +kernel
theorem dX12_findSoonest_118 : decode cX12_findSoonest 118 = .ok (.istore_n 2, 1) := by decide +kernel
theorem dX12_findSoonest_119 : decode cX12_findSoonest 119 = .ok (.iinc 3 1, 3) := by decide +kernel
theorem dX12_findSoonest_122 : decode cX12_findSoonest 122 = .ok (.goto (-72), 3) := by decide +kernel
theorem dX12_findSoonest_125 : decode cX12_findSoonest 125 = .ok (.goto (-83), 3) := by decide +kernel
theorem dX12_findSoonest_128 : decode cX12_findSoonest 128 = .ok (.aload_n 0, 1) := by decide +kernel
theorem dX12_findSoonest_129 : decode cX12_findSoonest 129 = .ok (.getfield 35, 3) := by decide +kernel
theorem dX12_findSoonest_132 : decode cX12_findSoonest 132 = .ok (.iconst 1, 1) := by decide +kernel
theorem dX12_findSoonest_133 : decode cX12_findSoonest 133 = .ok (.iaload, 1) := by decide +kernel
theorem dX12_findSoonest_134 : decode cX12_findSoonest 134 = .ok (.iconst 1, 1) := by decide +kernel
theorem dX12_findSoonest_135 : decode cX12_findSoonest 135 = .ok (.isub, 1) := by decide +kernel
theorem dX12_findSoonest_136 : decode cX12_findSoonest 136 = .ok (.istore_n 3, 1) := by decide +kernel
theorem dX12_findSoonest_137 : decode cX12_findSoonest 137 = .ok (.iload_n 3, 1) := by decide +kernel
theorem dX12_findSoonest_138 : decode cX12_findSoonest 138 = .ok (.ifCond .lt 79, 3) := by decide +kernel
theorem dX12_findSoonest_141 : decode cX12_findSoonest 141 = .ok (.iload_n 1, 1) := by decide +kernel
theorem dX12_findSoonest_142 : decode cX12_findSoonest 142 = .ok (.aload_n 0, 1) := by decide +kernel
theorem dX12_findSoonest_143 : decode cX12_findSoonest 143 = .ok (.getfield 35, 3) := by decide +kernel
theorem dX12_findSoonest_146 : decode cX12_findSoonest 146 = .ok (.bipush 29, 2) := by decide +kernel
theorem dX12_findSoonest_148 : decode cX12_findSoonest 148 = .ok (.iload_n 3, 1) := by decide +kernel
theorem dX12_findSoonest_149 : decode cX12_findSoonest 149 = .ok (.iadd, 1) := by decide +kernel
theorem dX12_findSoonest_150 : decode cX12_findSoonest 150 = .ok (.iaload, 1) := by decide +kernel
theorem dX12_findSoonest_151 : decode cX12_findSoonest 151 = .ok (.invokestatic 372, 3) := by decide +kernel
theorem dX12_findSoonest_154 : decode cX12_findSoonest 154 = .ok (.ifCond .ne 57, 3) := by decide +kernel
theorem dX12_findSoonest_157 : decode cX12_findSoonest 157 = .ok (.aload_n 0, 1) := by decide +kernel
theorem dX12_findSoonest_158 : decode cX12_findSoonest 158 = .ok (.iload_n 3, 1) := by decide +kernel
theorem dX12_findSoonest_159 : decode cX12_findSoonest 159 = .ok (.invokevirtual 413, 3) := by decide +kernel
theorem dX12_findSoonest_162 : decode cX12_findSoonest 162 = .ok (.aload_n 0, 1) := by decide +kernel
theorem dX12_findSoonest_163 : decode cX12_findSoonest 163 = .ok (.getfield 63, 3) := by decide +kernel
theorem dX12_findSoonest_166 : decode cX12_findSoonest 166 = .ok (.aload_n 0, 1) := by decide +kernel
theorem dX12_findSoonest_167 : decode cX12_findSoonest 167 = .ok (.getfield 35, 3) := by decide +kernel
theorem dX12_findSoonest_170 : decode cX12_findSoonest 170 = .ok (.bipush 29, 2) := by decide +kernel
theorem dX12_findSoonest_172 : decode cX12_findSoonest 172 = .ok (.iload_n 3, 1) := by decide +kernel
theorem dX12_findSoonest_173 : decode cX12_findSoonest 173 = .ok (.iadd, 1) := by decide +kernel
theorem dX12_findSoonest_174 : decode cX12_findSoonest 174 = .ok (.iaload, 1) := by decide +kernel
theorem dX12_findSoonest_175 : decode cX12_findSoonest 175 = .ok (.iaload, 1) := by decide +kernel
theorem dX12_findSoonest_176 : decode cX12_findSoonest 176 = .ok (.if_icmp .ne 35, 3) := by decide +kernel
theorem dX12_findSoonest_179 : decode cX12_findSoonest 179 = .ok (.aload_n 0, 1) := by decide +kernel
theorem dX12_findSoonest_180 : decode cX12_findSoonest 180 = .ok (.getfield 63, 3) := by decide +kernel
theorem dX12_findSoonest_183 : decode cX12_findSoonest 183 = .ok (.aload_n 0, 1) := by decide +kernel
theorem dX12_findSoonest_184 : decode cX12_findSoonest 184 = .ok (.getfield 35, 3) := by decide +kernel
theorem dX12_findSoonest_187 : decode cX12_findSoonest 187 = .ok (.bipush 29, 2) := by decide +kernel
theorem dX12_findSoonest_189 : decode cX12_findSoonest 189 = .ok (.iload_n 3, 1) := by decide +kernel
theorem dX12_findSoonest_190 : decode cX12_findSoonest 190 = .ok (.iadd, 1) := by decide +kernel
theorem dX12_findSoonest_191 : decode cX12_findSoonest 191 = .ok (.iaload, 1) := by decide +kernel
theorem dX12_findSoonest_192 : decode cX12_findSoonest 192 = .ok (.iaload, 1) := by decide +kernel
theorem dX12_findSoonest_193 : decode cX12_findSoonest 193 = .ok (.ifCond .lt 18, 3) := by decide +kernel
theorem dX12_findSoonest_196 : decode cX12_findSoonest 196 = .ok (.aload_n 0, 1) := by decide +kernel
theorem dX12_findSoonest_197 : decode cX12_findSoonest 197 = .ok (.getfield 66, 3) := by decide +kernel
theorem dX12_findSoonest_200 : decode cX12_findSoonest 200 = .ok (.aload_n 0, 1) := by decide +kernel
theorem dX12_findSoonest_201 : decode cX12_findSoonest 201 = .ok (.getfield 35, 3) := by decide +kernel
theorem dX12_findSoonest_204 : decode cX12_findSoonest 204 = .ok (.bipush 29, 2) := by decide +kernel
theorem dX12_findSoonest_206 : decode cX12_findSoonest 206 = .ok (.iload_n 3, 1) := by decide +kernel
theorem dX12_findSoonest_207 : decode cX12_findSoonest 207 = .ok (.iadd, 1) := by decide +kernel
theorem dX12_findSoonest_208 : decode cX12_findSoonest 208 = .ok (.iaload, 1) := by decide +kernel
theorem dX12_findSoonest_209 : decode cX12_findSoonest 209 = .ok (.iload_n 3, 1) := by decide +kernel
theorem dX12_findSoonest_210 : decode cX12_findSoonest 210 = .ok (.iastore, 1) := by decide +kernel
theorem dX12_findSoonest_211 : decode cX12_findSoonest 211 = .ok (.iinc 3 (-1), 3) := by decide +kernel
theorem dX12_findSoonest_214 : decode cX12_findSoonest 214 = .ok (.goto (-77), 3) := by decide +kernel
theorem dX12_findSoonest_217 : decode cX12_findSoonest 217 = .ok (.return_, 1) := by decide +kernel
theorem dX12_soonest_0 : decode cX12_soonest 0 = .ok (.aload_n 0, 1) := by decide +kernel
theorem dX12_soonest_1 : decode cX12_soonest 1 = .ok (.iconst 0, 1) := by decide +kernel
theorem dX12_soonest_2 : decode cX12_soonest 2 = .ok (.putfield 87, 3) := by decide +kernel
theorem dX12_soonest_5 : decode cX12_soonest 5 = .ok (.aload_n 0, 1) := by decide +kernel
theorem dX12_soonest_6 : decode cX12_soonest 6 = .ok (.iconst 0, 1) := by decide +kernel
theorem dX12_soonest_7 : decode cX12_soonest 7 = .ok (.putfield 90, 3) := by decide +kernel
theorem dX12_soonest_10 : decode cX12_soonest 10 = .ok (.aload_n 0, 1) := by decide +kernel
theorem dX12_soonest_11 : decode cX12_soonest 11 = .ok (.iload_n 1, 1) := by decide +kernel
theorem dX12_soonest_12 : decode cX12_soonest 12 = .ok (.invokevirtual 357, 3) := by decide +kernel
theorem dX12_soonest_15 : decode cX12_soonest 15 = .ok (.ifCond .eq 11, 3) := by decide +kernel
theorem dX12_soonest_18 : decode cX12_soonest 18 = .ok (.aload_n 0, 1) := by decide +kernel
theorem dX12_soonest_19 : decode cX12_soonest 19 = .ok (.iload_n 2, 1) := by decide +kernel
theorem dX12_soonest_20 : decode cX12_soonest 20 = .ok (.invokevirtual 386, 3) := by decide +kernel
theorem dX12_soonest_23 : decode cX12_soonest 23 = .ok (.ifCond .ne 9, 3) := by decide +kernel
theorem dX12_soonest_26 : decode cX12_soonest 26 = .ok (.aload_n 0, 1) := by decide +kernel
theorem dX12_soonest_27 : decode cX12_soonest 27 = .ok (.iconst 2, 1) := by decide +kernel
theorem dX12_soonest_28 : decode cX12_soonest 28 = .ok (.invokevirtual 351, 3) := by decide +kernel
theorem dX12_soonest_31 : decode cX12_soonest 31 = .ok (.ireturn, 1) := by decide +kernel
theorem dX12_soonest_32 : decode cX12_soonest 32 = .ok (.aload_n 0, 1) := by decide +kernel
theorem dX12_soonest_33 : decode cX12_soonest 33 = .ok (.iload_n 2, 1) := by decide +kernel
theorem dX12_soonest_34 : decode cX12_soonest 34 = .ok (.invokevirtual 416, 3) := by decide +kernel
theorem dX12_soonest_37 : decode cX12_soonest 37 = .ok (.aload_n 0, 1) := by decide +kernel
theorem dX12_soonest_38 : decode cX12_soonest 38 = .ok (.getfield 63, 3) := by decide +kernel
theorem dX12_soonest_41 : decode cX12_soonest 41 = .ok (.iload_n 1, 1) := by decide +kernel
theorem dX12_soonest_42 : decode cX12_soonest 42 = .ok (.iaload, 1) := by decide +kernel
theorem dX12_soonest_43 : decode cX12_soonest 43 = .ok (.i2l, 1) := by decide +kernel
theorem dX12_soonest_44 : decode cX12_soonest 44 = .ok (.lconst 0, 1) := by decide +kernel
theorem dX12_soonest_45 : decode cX12_soonest 45 = .ok (.ldc2_w 419, 3) := by decide +kernel
theorem dX12_soonest_48 : decode cX12_soonest 48 = .ok (.invokestatic 122, 3) := by decide +kernel
theorem dX12_soonest_51 : decode cX12_soonest 51 = .ok (.ifCond .eq 12, 3) := by decide +kernel
theorem dX12_soonest_54 : decode cX12_soonest 54 = .ok (.aload_n 0, 1) := by decide +kernel
theorem dX12_soonest_55 : decode cX12_soonest 55 = .ok (.getfield 63, 3) := by decide +kernel
theorem dX12_soonest_58 : decode cX12_soonest 58 = .ok (.iload_n 1, 1) := by decide +kernel
theorem dX12_soonest_59 : decode cX12_soonest 59 = .ok (.iaload, 1) := by decide +kernel
theorem dX12_soonest_60 : decode cX12_soonest 60 = .ok (.goto 9, 3) := by decide +kernel
theorem dX12_soonest_63 : decode cX12_soonest 63 = .ok (.aload_n 0, 1) := by decide +kernel
theorem dX12_soonest_64 : decode cX12_soonest 64 = .ok (.bipush 9, 2) := by decide +kernel
theorem dX12_soonest_66 : decode cX12_soonest 66 = .ok (.invokevirtual 351, 3) := by decide +kernel
theorem dX12_soonest_69 : decode cX12_soonest 69 = .ok (.ireturn, 1) := by decide +kernel
theorem dX12_bars_0 : decode cX12_bars 0 = .ok (.aload_n 0, 1) := by decide +kernel
theorem dX12_bars_1 : decode cX12_bars 1 = .ok (.iconst 0, 1) := by decide +kernel
theorem dX12_bars_2 : decode cX12_bars 2 = .ok (.putfield 87, 3) := by decide +kernel
theorem dX12_bars_5 : decode cX12_bars 5 = .ok (.aload_n 0, 1) := by decide +kernel
theorem dX12_bars_6 : decode cX12_bars 6 = .ok (.iconst 0, 1) := by decide +kernel
theorem dX12_bars_7 : decode cX12_bars 7 = .ok (.putfield 90, 3) := by decide +kernel
theorem dX12_bars_10 : decode cX12_bars 10 = .ok (.aload_n 0, 1) := by decide +kernel
theorem dX12_bars_11 : decode cX12_bars 11 = .ok (.iload_n 1, 1) := by decide +kernel
theorem dX12_bars_12 : decode cX12_bars 12 = .ok (.invokevirtual 357, 3) := by decide +kernel
theorem dX12_bars_15 : decode cX12_bars 15 = .ok (.ifCond .eq 11, 3) := by decide +kernel
theorem dX12_bars_18 : decode cX12_bars 18 = .ok (.aload_n 0, 1) := by decide +kernel
theorem dX12_bars_19 : decode cX12_bars 19 = .ok (.iload_n 2, 1) := by decide +kernel
theorem dX12_bars_20 : decode cX12_bars 20 = .ok (.invokevirtual 386, 3) := by decide +kernel
theorem dX12_bars_23 : decode cX12_bars 23 = .ok (.ifCond .ne 9, 3) := by decide +kernel
theorem dX12_bars_26 : decode cX12_bars 26 = .ok (.aload_n 0, 1) := by decide +kernel
theorem dX12_bars_27 : decode cX12_bars 27 = .ok (.iconst 2, 1) := by decide +kernel
theorem dX12_bars_28 : decode cX12_bars 28 = .ok (.invokevirtual 351, 3) := by decide +kernel
theorem dX12_bars_31 : decode cX12_bars 31 = .ok (.ireturn, 1) := by decide +kernel
theorem dX12_bars_32 : decode cX12_bars 32 = .ok (.iload_n 3, 1) := by decide +kernel
theorem dX12_bars_33 : decode cX12_bars 33 = .ok (.i2l, 1) := by decide +kernel
theorem dX12_bars_34 : decode cX12_bars 34 = .ok (.lconst 0, 1) := by decide +kernel
theorem dX12_bars_35 : decode cX12_bars 35 = .ok (.lconst 1, 1) := by decide +kernel
theorem dX12_bars_36 : decode cX12_bars 36 = .ok (.invokestatic 122, 3) := by decide +kernel
theorem dX12_bars_39 : decode cX12_bars 39 = .ok (.ifCond .ne 9, 3) := by decide +kernel
theorem dX12_bars_42 : decode cX12_bars 42 = .ok (.aload_n 0, 1) := by decide +kernel
theorem dX12_bars_43 : decode cX12_bars 43 = .ok (.iconst 5, 1) := by decide +kernel
theorem dX12_bars_44 : decode cX12_bars 44 = .ok (.invokevirtual 351, 3) := by decide +kernel
theorem dX12_bars_47 : decode cX12_bars 47 = .ok (.ireturn, 1) := by decide +kernel
theorem dX12_bars_48 : decode cX12_bars 48 = .ok (.aload_n 0, 1) := by decide +kernel
theorem dX12_bars_49 : decode cX12_bars 49 = .ok (.iload_n 2, 1) := by decide +kernel
theorem dX12_bars_50 : decode cX12_bars 50 = .ok (.invokevirtual 416, 3) := by decide +kernel
theorem dX12_bars_53 : decode cX12_bars 53 = .ok (.aload_n 0, 1) := by decide +kernel
theorem dX12_bars_54 : decode cX12_bars 54 = .ok (.getfield 66, 3) := by decide +kernel
theorem dX12_bars_57 : decode cX12_bars 57 = .ok (.iload_n 1, 1) := by decide +kernel
theorem dX12_bars_58 : decode cX12_bars 58 = .ok (.iaload, 1) := by decide +kernel
theorem dX12_bars_59 : decode cX12_bars 59 = .ok (.ifCond .ge 10, 3) := by decide +kernel
theorem dX12_bars_62 : decode cX12_bars 62 = .ok (.aload_n 0, 1) := by decide +kernel
theorem dX12_bars_63 : decode cX12_bars 63 = .ok (.bipush 8, 2) := by decide +kernel
theorem dX12_bars_65 : decode cX12_bars 65 = .ok (.invokevirtual 351, 3) := by decide +kernel
theorem dX12_bars_68 : decode cX12_bars 68 = .ok (.ireturn, 1) := by decide +kernel
theorem dX12_bars_69 : decode cX12_bars 69 = .ok (.iload_n 3, 1) := by decide +kernel
theorem dX12_bars_70 : decode cX12_bars 70 = .ok (.ifCond .ne 10, 3) := by decide +kernel
theorem dX12_bars_73 : decode cX12_bars 73 = .ok (.aload_n 0, 1) := by decide +kernel
theorem dX12_bars_74 : decode cX12_bars 74 = .ok (.getfield 66, 3) := by decide +kernel
theorem dX12_bars_77 : decode cX12_bars 77 = .ok (.iload_n 1, 1) := by decide +kernel
theorem dX12_bars_78 : decode cX12_bars 78 = .ok (.iaload, 1) := by decide +kernel
theorem dX12_bars_79 : decode cX12_bars 79 = .ok (.ireturn, 1) := by decide +kernel
theorem dX12_bars_80 : decode cX12_bars 80 = .ok (.iconst (-1), 1) := by decide +kernel
theorem dX12_bars_81 : decode cX12_bars 81 = .ok (.istore 4, 2) := by decide +kernel
theorem dX12_bars_83 : decode cX12_bars 83 = .ok (.iconst 0, 1) := by decide +kernel
theorem dX12_bars_84 : decode cX12_bars 84 = .ok (.istore 5, 2) := by decide +kernel
theorem dX12_bars_86 : decode cX12_bars 86 = .ok (.iload 5, 2) := by decide +kernel
theorem dX12_bars_88 : decode cX12_bars 88 = .ok (.aload_n 0, 1) := by decide +kernel
theorem dX12_bars_89 : decode cX12_bars 89 = .ok (.getfield 35, 3) := by decide +kernel
theorem dX12_bars_92 : decode cX12_bars 92 = .ok (.iconst 0, 1) := by decide +kernel
theorem dX12_bars_93 : decode cX12_bars 93 = .ok (.iaload, 1) := by decide +kernel
theorem dX12_bars_94 : decode cX12_bars 94 = .ok (.if_icmp .ge 53, 3) := by decide +kernel
theorem dX12_bars_97 : decode cX12_bars 97 = .ok (.aload_n 0, 1) := by decide +kernel
theorem dX12_bars_98 : decode cX12_bars 98 = .ok (.aload_n 0, 1) := by decide +kernel
theorem dX12_bars_99 : decode cX12_bars 99 = .ok (.getfield 66, 3) := by decide +kernel
theorem dX12_bars_102 : decode cX12_bars 102 = .ok (.iload_n 1, 1) := by decide +kernel
theorem dX12_bars_103 : decode cX12_bars 103 = .ok (.iaload, 1) := by decide +kernel
theorem dX12_bars_104 : decode cX12_bars 104 = .ok (.invokevirtual 407, 3) := by decide +kernel
theorem dX12_bars_107 : decode cX12_bars 107 = .ok (.iload 5, 2) := by decide +kernel
theorem dX12_bars_109 : decode cX12_bars 109 = .ok (.invokestatic 372, 3) := by decide +kernel
theorem dX12_bars_112 : decode cX12_bars 112 = .ok (.ifCond .eq 29, 3) := by decide +kernel
theorem dX12_bars_115 : decode cX12_bars 115 = .ok (.iload 4, 2) := by decide +kernel
theorem dX12_bars_117 : decode cX12_bars 117 = .ok (.ifCond .lt 20, 3) := by decide +kernel
theorem dX12_bars_120 : decode cX12_bars 120 = .ok (.aload_n 0, 1) := by decide +kernel
theorem dX12_bars_121 : decode cX12_bars 121 = .ok (.getfield 63, 3) := by decide +kernel
theorem dX12_bars_124 : decode cX12_bars 124 = .ok (.iload 5, 2) := by decide +kernel
theorem dX12_bars_126 : decode cX12_bars 126 = .ok (.iaload, 1) := by decide +kernel
theorem dX12_bars_127 : decode cX12_bars 127 = .ok (.aload_n 0, 1) := by decide +kernel
theorem dX12_bars_128 : decode cX12_bars 128 = .ok (.getfield 63, 3) := by decide +kernel
theorem dX12_bars_131 : decode cX12_bars 131 = .ok (.iload 4, 2) := by decide +kernel
theorem dX12_bars_133 : decode cX12_bars 133 = .ok (.iaload, 1) := by decide +kernel
theorem dX12_bars_134 : decode cX12_bars 134 = .ok (.if_icmp .le 7, 3) := by decide +kernel
theorem dX12_bars_137 : decode cX12_bars 137 = .ok (.iload 5, 2) := by decide +kernel
theorem dX12_bars_139 : decode cX12_bars 139 = .ok (.istore 4, 2) := by decide +kernel
theorem dX12_bars_141 : decode cX12_bars 141 = .ok (.iinc 5 1, 3) := by decide +kernel
theorem dX12_bars_144 : decode cX12_bars 144 = .ok (.goto (-58), 3) := by decide +kernel
theorem dX12_bars_147 : decode cX12_bars 147 = .ok (.iload 4, 2) := by decide +kernel
theorem dX12_bars_149 : decode cX12_bars 149 = .ok (.ifCond .ge 12, 3) := by decide +kernel
theorem dX12_bars_152 : decode cX12_bars 152 = .ok (.aload_n 0, 1) := by decide +kernel
theorem dX12_bars_153 : decode cX12_bars 153 = .ok (.bipush 8, 2) := by decide +kernel
theorem dX12_bars_155 : decode cX12_bars 155 = .ok (.invokevirtual 351, 3) := by decide +kernel
theorem dX12_bars_158 : decode cX12_bars 158 = .ok (.goto 5, 3) := by decide +kernel
theorem dX12_bars_161 : decode cX12_bars 161 = .ok (.iload 4, 2) := by decide +kernel
theorem dX12_bars_163 : decode cX12_bars 163 = .ok (.ireturn, 1) := by decide +kernel
theorem dX12_canMake_0 : decode cX12_canMake 0 = .ok (.aload_n 0, 1) := by decide +kernel
theorem dX12_canMake_1 : decode cX12_canMake 1 = .ok (.getfield 35, 3) := by decide +kernel
theorem dX12_canMake_4 : decode cX12_canMake 4 = .ok (.bipush 53, 2) := by decide +kernel
theorem dX12_canMake_6 : decode cX12_canMake 6 = .ok (.iload_n 1, 1) := by decide +kernel
theorem dX12_canMake_7 : decode cX12_canMake 7 = .ok (.iadd, 1) := by decide +kernel
theorem dX12_canMake_8 : decode cX12_canMake 8 = .ok (.iaload, 1) := by decide +kernel
theorem dX12_canMake_9 : decode cX12_canMake 9 = .ok (.iconst 1, 1) := by decide +kernel
theorem dX12_canMake_10 : decode cX12_canMake 10 = .ok (.if_icmp .ne 19, 3) := by decide +kernel
theorem dX12_canMake_13 : decode cX12_canMake 13 = .ok (.aload_n 0, 1) := by decide +kernel
theorem dX12_canMake_14 : decode cX12_canMake 14 = .ok (.iload_n 1, 1) := by decide +kernel
theorem dX12_canMake_15 : decode cX12_canMake 15 = .ok (.invokevirtual 407, 3) := by decide +kernel
theorem dX12_canMake_18 : decode cX12_canMake 18 = .ok (.iload_n 2, 1) := by decide +kernel
theorem dX12_canMake_19 : decode cX12_canMake 19 = .ok (.iconst (-1), 1) := by decide +kernel
theorem dX12_canMake_20 : decode cX12_canMake 20 = .ok (.ixor, 1) := by decide +kernel
theorem dX12_canMake_21 : decode cX12_canMake 21 = .ok (.iand, 1) := by decide +kernel
theorem dX12_canMake_22 : decode cX12_canMake 22 = .ok (.ifCond .ne 7, 3) := by decide +kernel
theorem dX12_canMake_25 : decode cX12_canMake 25 = .ok (.iconst 1, 1) := by decide +kernel
theorem dX12_canMake_26 : decode cX12_canMake 26 = .ok (.goto 4, 3) := by decide +kernel
theorem dX12_canMake_29 : decode cX12_canMake 29 = .ok (.iconst 0, 1) := by decide +kernel
theorem dX12_canMake_30 : decode cX12_canMake 30 = .ok (.ireturn, 1) := by decide +kernel
theorem dX12_labour_0 : decode cX12_labour 0 = .ok (.aload_n 0, 1) := by decide +kernel
theorem dX12_labour_1 : decode cX12_labour 1 = .ok (.iconst 0, 1) := by decide +kernel
theorem dX12_labour_2 : decode cX12_labour 2 = .ok (.putfield 87, 3) := by decide +kernel
theorem dX12_labour_5 : decode cX12_labour 5 = .ok (.aload_n 0, 1) := by decide +kernel
theorem dX12_labour_6 : decode cX12_labour 6 = .ok (.iconst 0, 1) := by decide +kernel
theorem dX12_labour_7 : decode cX12_labour 7 = .ok (.putfield 90, 3) := by decide +kernel
theorem dX12_labour_10 : decode cX12_labour 10 = .ok (.aload_n 0, 1) := by decide +kernel
theorem dX12_labour_11 : decode cX12_labour 11 = .ok (.iload_n 1, 1) := by decide +kernel
theorem dX12_labour_12 : decode cX12_labour 12 = .ok (.invokevirtual 386, 3) := by decide +kernel
theorem dX12_labour_15 : decode cX12_labour 15 = .ok (.ifCond .eq 11, 3) := by decide +kernel
theorem dX12_labour_18 : decode cX12_labour 18 = .ok (.aload_n 0, 1) := by decide +kernel
theorem dX12_labour_19 : decode cX12_labour 19 = .ok (.iload_n 2, 1) := by decide +kernel
theorem dX12_labour_20 : decode cX12_labour 20 = .ok (.invokevirtual 386, 3) := by decide +kernel
theorem dX12_labour_23 : decode cX12_labour 23 = .ok (.ifCond .ne 9, 3) := by decide +kernel
theorem dX12_labour_26 : decode cX12_labour 26 = .ok (.aload_n 0, 1) := by decide +kernel
theorem dX12_labour_27 : decode cX12_labour 27 = .ok (.iconst 2, 1) := by decide +kernel
theorem dX12_labour_28 : decode cX12_labour 28 = .ok (.invokevirtual 351, 3) := by decide +kernel
theorem dX12_labour_31 : decode cX12_labour 31 = .ok (.ireturn, 1) := by decide +kernel
theorem dX12_labour_32 : decode cX12_labour 32 = .ok (.iconst 0, 1) := by decide +kernel
theorem dX12_labour_33 : decode cX12_labour 33 = .ok (.istore_n 3, 1) := by decide +kernel
theorem dX12_labour_34 : decode cX12_labour 34 = .ok (.iload_n 3, 1) := by decide +kernel
theorem dX12_labour_35 : decode cX12_labour 35 = .ok (.sipush 256, 3) := by decide +kernel
theorem dX12_labour_38 : decode cX12_labour 38 = .ok (.if_icmp .ge 16, 3) := by decide +kernel
theorem dX12_labour_41 : decode cX12_labour 41 = .ok (.aload_n 0, 1) := by decide +kernel
theorem dX12_labour_42 : decode cX12_labour 42 = .ok (.getfield 72, 3) := by decide +kernel
theorem dX12_labour_45 : decode cX12_labour 45 = .ok (.iload_n 3, 1) := by decide +kernel
theorem dX12_labour_46 : decode cX12_labour 46 = .ok (.iconst (-1), 1) := by decide +kernel
theorem dX12_labour_47 : decode cX12_labour 47 = .ok (.iastore, 1) := by decide +kernel
theorem dX12_labour_48 : decode cX12_labour 48 = .ok (.iinc 3 1, 3) := by decide +kernel
theorem dX12_labour_51 : decode cX12_labour 51 = .ok (.goto (-17), 3) := by decide +kernel
theorem dX12_labour_54 : decode cX12_labour 54 = .ok (.aload_n 0, 1) := by decide +kernel
theorem dX12_labour_55 : decode cX12_labour 55 = .ok (.getfield 72, 3) := by decide +kernel
theorem dX12_labour_58 : decode cX12_labour 58 = .ok (.iload_n 2, 1) := by decide +kernel
theorem dX12_labour_59 : decode cX12_labour 59 = .ok (.iconst 0, 1) := by decide +kernel
theorem dX12_labour_60 : decode cX12_labour 60 = .ok (.iastore, 1) := by decide +kernel
theorem dX12_labour_61 : decode cX12_labour 61 = .ok (.iconst 1, 1) := by decide +kernel
theorem dX12_labour_62 : decode cX12_labour 62 = .ok (.istore_n 3, 1) := by decide +kernel
theorem dX12_labour_63 : decode cX12_labour 63 = .ok (.iload_n 3, 1) := by decide +kernel
theorem dX12_labour_64 : decode cX12_labour 64 = .ok (.ifCond .eq 160, 3) := by decide +kernel
theorem dX12_labour_67 : decode cX12_labour 67 = .ok (.iconst 0, 1) := by decide +kernel
theorem dX12_labour_68 : decode cX12_labour 68 = .ok (.istore_n 3, 1) := by decide +kernel
theorem dX12_labour_69 : decode cX12_labour 69 = .ok (.iconst 0, 1) := by decide +kernel
theorem dX12_labour_70 : decode cX12_labour 70 = .ok (.istore 4, 2) := by decide +kernel
theorem dX12_labour_72 : decode cX12_labour 72 = .ok (.iload 4, 2) := by decide +kernel
theorem dX12_labour_74 : decode cX12_labour 74 = .ok (.iconst 1, 1) := by decide +kernel
theorem dX12_labour_75 : decode cX12_labour 75 = .ok (.aload_n 0, 1) := by decide +kernel
theorem dX12_labour_76 : decode cX12_labour 76 = .ok (.getfield 35, 3) := by decide +kernel
theorem dX12_labour_79 : decode cX12_labour 79 = .ok (.iconst 0, 1) := by decide +kernel
theorem dX12_labour_80 : decode cX12_labour 80 = .ok (.iaload, 1) := by decide +kernel
theorem dX12_labour_81 : decode cX12_labour 81 = .ok (.ishl, 1) := by decide +kernel
theorem dX12_labour_82 : decode cX12_labour 82 = .ok (.if_icmp .ge 139, 3) := by decide +kernel
theorem dX12_labour_85 : decode cX12_labour 85 = .ok (.iconst 0, 1) := by decide +kernel
theorem dX12_labour_86 : decode cX12_labour 86 = .ok (.istore 5, 2) := by decide +kernel
theorem dX12_labour_88 : decode cX12_labour 88 = .ok (.iload 5, 2) := by decide +kernel
theorem dX12_labour_90 : decode cX12_labour 90 = .ok (.aload_n 0, 1) := by decide +kernel
theorem dX12_labour_91 : decode cX12_labour 91 = .ok (.getfield 35, 3) := by decide +kernel
theorem dX12_labour_94 : decode cX12_labour 94 = .ok (.iconst 1, 1) := by decide +kernel
theorem dX12_labour_95 : decode cX12_labour 95 = .ok (.iaload, 1) := by decide +kernel
theorem dX12_labour_96 : decode cX12_labour 96 = .ok (.if_icmp .ge 119, 3) := by decide +kernel
theorem dX12_labour_99 : decode cX12_labour 99 = .ok (.aload_n 0, 1) := by decide +kernel
theorem dX12_labour_100 : decode cX12_labour 100 = .ok (.getfield 72, 3) := by decide +kernel
theorem dX12_labour_103 : decode cX12_labour 103 = .ok (.iload 4, 2) := by decide +kernel
theorem dX12_labour_105 : decode cX12_labour 105 = .ok (.iaload, 1) := by decide +kernel
theorem dX12_labour_106 : decode cX12_labour 106 = .ok (.ifCond .lt 109, 3) := by decide +kernel
theorem dX12_labour_109 : decode cX12_labour 109 = .ok (.aload_n 0, 1) := by decide +kernel
theorem dX12_labour_110 : decode cX12_labour 110 = .ok (.iload 5, 2) := by decide +kernel
theorem dX12_labour_112 : decode cX12_labour 112 = .ok (.iload 4, 2) := by decide +kernel
theorem dX12_labour_114 : decode cX12_labour 114 = .ok (.invokevirtual 421, 3) := by decide +kernel
theorem dX12_labour_117 : decode cX12_labour 117 = .ok (.ifCond .ne 6, 3) := by decide +kernel
theorem dX12_labour_120 : decode cX12_labour 120 = .ok (.goto 89, 3) := by decide +kernel
theorem dX12_labour_123 : decode cX12_labour 123 = .ok (.iload 4, 2) := by decide +kernel
theorem dX12_labour_125 : decode cX12_labour 125 = .ok (.aload_n 0, 1) := by decide +kernel
theorem dX12_labour_126 : decode cX12_labour 126 = .ok (.getfield 35, 3) := by decide +kernel
theorem dX12_labour_129 : decode cX12_labour 129 = .ok (.bipush 65, 2) := by decide +kernel
theorem dX12_labour_131 : decode cX12_labour 131 = .ok (.iload 5, 2) := by decide +kernel
theorem dX12_labour_133 : decode cX12_labour 133 = .ok (.iadd, 1) := by decide +kernel
theorem dX12_labour_134 : decode cX12_labour 134 = .ok (.iaload, 1) := by decide +kernel
theorem dX12_labour_135 : decode cX12_labour 135 = .ok (.iconst (-1), 1) := by decide +kernel
theorem dX12_labour_136 : decode cX12_labour 136 = .ok (.ixor, 1) := by decide +kernel
theorem dX12_labour_137 : decode cX12_labour 137 = .ok (.iand, 1) := by decide +kernel
theorem dX12_labour_138 : decode cX12_labour 138 = .ok (.iconst 1, 1) := by decide +kernel
theorem dX12_labour_139 : decode cX12_labour 139 = .ok (.aload_n 0, 1) := by decide +kernel
theorem dX12_labour_140 : decode cX12_labour 140 = .ok (.getfield 35, 3) := by decide +kernel
theorem dX12_labour_143 : decode cX12_labour 143 = .ok (.bipush 29, 2) := by decide +kernel
theorem dX12_labour_145 : decode cX12_labour 145 = .ok (.iload 5, 2) := by decide +kernel
theorem dX12_labour_147 : decode cX12_labour 147 = .ok (.iadd, 1) := by decide +kernel
theorem dX12_labour_148 : decode cX12_labour 148 = .ok (.iaload, 1) := by decide +kernel
theorem dX12_labour_149 : decode cX12_labour 149 = .ok (.ishl, 1) := by decide +kernel
theorem dX12_labour_150 : decode cX12_labour 150 = .ok (.ior, 1) := by decide +kernel
theorem dX12_labour_151 : decode cX12_labour 151 = .ok (.istore 6, 2) := by decide +kernel
theorem dX12_labour_153 : decode cX12_labour 153 = .ok (.aload_n 0, 1) := by decide +kernel
theorem dX12_labour_154 : decode cX12_labour 154 = .ok (.getfield 72, 3) := by decide +kernel
theorem dX12_labour_157 : decode cX12_labour 157 = .ok (.iload 4, 2) := by decide +kernel
theorem dX12_labour_159 : decode cX12_labour 159 = .ok (.iaload, 1) := by decide +kernel
theorem dX12_labour_160 : decode cX12_labour 160 = .ok (.aload_n 0, 1) := by decide +kernel
theorem dX12_labour_161 : decode cX12_labour 161 = .ok (.getfield 35, 3) := by decide +kernel
theorem dX12_labour_164 : decode cX12_labour 164 = .ok (.bipush 41, 2) := by decide +kernel
theorem dX12_labour_166 : decode cX12_labour 166 = .ok (.iload 5, 2) := by decide +kernel
theorem dX12_labour_168 : decode cX12_labour 168 = .ok (.iadd, 1) := by decide +kernel
theorem dX12_labour_169 : decode cX12_labour 169 = .ok (.iaload, 1) := by decide +kernel
theorem dX12_labour_170 : decode cX12_labour 170 = .ok (.iadd, 1) := by decide +kernel
theorem dX12_labour_171 : decode cX12_labour 171 = .ok (.istore 7, 2) := by decide +kernel
theorem dX12_labour_173 : decode cX12_labour 173 = .ok (.aload_n 0, 1) := by decide +kernel
theorem dX12_labour_174 : decode cX12_labour 174 = .ok (.getfield 72, 3) := by decide +kernel
theorem dX12_labour_177 : decode cX12_labour 177 = .ok (.iload 6, 2) := by decide +kernel
theorem dX12_labour_179 : decode cX12_labour 179 = .ok (.iaload, 1) := by decide +kernel
theorem dX12_labour_180 : decode cX12_labour 180 = .ok (.ifCond .lt 18, 3) := by decide +kernel
theorem dX12_labour_183 : decode cX12_labour 183 = .ok (.iload 7, 2) := by decide +kernel
theorem dX12_labour_185 : decode cX12_labour 185 = .ok (.aload_n 0, 1) := by decide +kernel
theorem dX12_labour_186 : decode cX12_labour 186 = .ok (.getfield 72, 3) := by decide +kernel
theorem dX12_labour_189 : decode cX12_labour 189 = .ok (.iload 6, 2) := by decide +kernel
theorem dX12_labour_191 : decode cX12_labour 191 = .ok (.iaload, 1) := by decide +kernel
theorem dX12_labour_192 : decode cX12_labour 192 = .ok (.if_icmp .lt 6, 3) := by decide +kernel
theorem dX12_labour_195 : decode cX12_labour 195 = .ok (.goto 14, 3) := by decide +kernel
theorem dX12_labour_198 : decode cX12_labour 198 = .ok (.aload_n 0, 1) := by decide +kernel
theorem dX12_labour_199 : decode cX12_labour 199 = .ok (.getfield 72, 3) := by decide +kernel
theorem dX12_labour_202 : decode cX12_labour 202 = .ok (.iload 6, 2) := by decide +kernel
theorem dX12_labour_204 : decode cX12_labour 204 = .ok (.iload 7, 2) := by decide +kernel
theorem dX12_labour_206 : decode cX12_labour 206 = .ok (.iastore, 1) := by decide +kernel
theorem dX12_labour_207 : decode cX12_labour 207 = .ok (.iconst 1, 1) := by decide +kernel
theorem dX12_labour_208 : decode cX12_labour 208 = .ok (.istore_n 3, 1) := by decide +kernel
theorem dX12_labour_209 : decode cX12_labour 209 = .ok (.iinc 5 1, 3) := by decide +kernel
theorem dX12_labour_212 : decode cX12_labour 212 = .ok (.goto (-124), 3) := by decide +kernel
theorem dX12_labour_215 : decode cX12_labour 215 = .ok (.iinc 4 1, 3) := by decide +kernel
theorem dX12_labour_218 : decode cX12_labour 218 = .ok (.goto (-146), 3) := by decide +kernel
theorem dX12_labour_221 : decode cX12_labour 221 = .ok (.goto (-158), 3) := by decide +kernel
theorem dX12_labour_224 : decode cX12_labour 224 = .ok (.iconst (-1), 1) := by decide +kernel
theorem dX12_labour_225 : decode cX12_labour 225 = .ok (.istore 4, 2) := by decide +kernel
theorem dX12_labour_227 : decode cX12_labour 227 = .ok (.iconst 0, 1) := by decide +kernel
theorem dX12_labour_228 : decode cX12_labour 228 = .ok (.istore 5, 2) := by decide +kernel
theorem dX12_labour_230 : decode cX12_labour 230 = .ok (.iload 5, 2) := by decide +kernel
theorem dX12_labour_232 : decode cX12_labour 232 = .ok (.iconst 1, 1) := by decide +kernel
theorem dX12_labour_233 : decode cX12_labour 233 = .ok (.aload_n 0, 1) := by decide +kernel
theorem dX12_labour_234 : decode cX12_labour 234 = .ok (.getfield 35, 3) := by decide +kernel
theorem dX12_labour_237 : decode cX12_labour 237 = .ok (.iconst 0, 1) := by decide +kernel
theorem dX12_labour_238 : decode cX12_labour 238 = .ok (.iaload, 1) := by decide +kernel
theorem dX12_labour_239 : decode cX12_labour 239 = .ok (.ishl, 1) := by decide +kernel
theorem dX12_labour_240 : decode cX12_labour 240 = .ok (.if_icmp .ge 54, 3) := by decide +kernel
theorem dX12_labour_243 : decode cX12_labour 243 = .ok (.iload_n 1, 1) := by decide +kernel
theorem dX12_labour_244 : decode cX12_labour 244 = .ok (.iload 5, 2) := by decide +kernel
theorem dX12_labour_246 : decode cX12_labour 246 = .ok (.iconst (-1), 1) := by decide +kernel
theorem dX12_labour_247 : decode cX12_labour 247 = .ok (.ixor, 1) := by decide +kernel
theorem dX12_labour_248 : decode cX12_labour 248 = .ok (.iand, 1) := by decide +kernel
theorem dX12_labour_249 : decode cX12_labour 249 = .ok (.ifCond .ne 39, 3) := by decide +kernel
theorem dX12_labour_252 : decode cX12_labour 252 = .ok (.aload_n 0, 1) := by decide +kernel
theorem dX12_labour_253 : decode cX12_labour 253 = .ok (.getfield 72, 3) := by decide +kernel
theorem dX12_labour_256 : decode cX12_labour 256 = .ok (.iload 5, 2) := by decide +kernel
theorem dX12_labour_258 : decode cX12_labour 258 = .ok (.iaload, 1) := by decide +kernel
theorem dX12_labour_259 : decode cX12_labour 259 = .ok (.ifCond .lt 29, 3) := by decide +kernel
theorem dX12_labour_262 : decode cX12_labour 262 = .ok (.iload 4, 2) := by decide +kernel
theorem dX12_labour_264 : decode cX12_labour 264 = .ok (.ifCond .lt 15, 3) := by decide +kernel
theorem dX12_labour_267 : decode cX12_labour 267 = .ok (.aload_n 0, 1) := by decide +kernel
theorem dX12_labour_268 : decode cX12_labour 268 = .ok (.getfield 72, 3) := by decide +kernel
theorem dX12_labour_271 : decode cX12_labour 271 = .ok (.iload 5, 2) := by decide +kernel
theorem dX12_labour_273 : decode cX12_labour 273 = .ok (.iaload, 1) := by decide +kernel
theorem dX12_labour_274 : decode cX12_labour 274 = .ok (.iload 4, 2) := by decide +kernel
theorem dX12_labour_276 : decode cX12_labour 276 = .ok (.if_icmp .ge 12, 3) := by decide +kernel
theorem dX12_labour_279 : decode cX12_labour 279 = .ok (.aload_n 0, 1) := by decide +kernel
theorem dX12_labour_280 : decode cX12_labour 280 = .ok (.getfield 72, 3) := by decide +kernel
theorem dX12_labour_283 : decode cX12_labour 283 = .ok (.iload 5, 2) := by decide +kernel
theorem dX12_labour_285 : decode cX12_labour 285 = .ok (.iaload, 1) := by decide +kernel
theorem dX12_labour_286 : decode cX12_labour 286 = .ok (.istore 4, 2) := by decide +kernel
theorem dX12_labour_288 : decode cX12_labour 288 = .ok (.iinc 5 1, 3) := by decide +kernel
theorem dX12_labour_291 : decode cX12_labour 291 = .ok (.goto (-61), 3) := by decide +kernel
theorem dX12_labour_294 : decode cX12_labour 294 = .ok (.iload 4, 2) := by decide +kernel
theorem dX12_labour_296 : decode cX12_labour 296 = .ok (.ifCond .ge 12, 3) := by decide +kernel
theorem dX12_labour_299 : decode cX12_labour 299 = .ok (.aload_n 0, 1) := by decide +kernel
theorem dX12_labour_300 : decode cX12_labour 300 = .ok (.bipush 8, 2) := by decide +kernel
theorem dX12_labour_302 : decode cX12_labour 302 = .ok (.invokevirtual 351, 3) := by decide +kernel
theorem dX12_labour_305 : decode cX12_labour 305 = .ok (.goto 5, 3) := by decide +kernel
theorem dX12_labour_308 : decode cX12_labour 308 = .ok (.iload 4, 2) := by decide +kernel
theorem dX12_labour_310 : decode cX12_labour 310 = .ok (.ireturn, 1) := by decide +kernel
theorem dX12_makingsOf_0 : decode cX12_makingsOf 0 = .ok (.iload_n 1, 1) := by decide +kernel
theorem dX12_makingsOf_1 : decode cX12_makingsOf 1 = .ok (.istore_n 2, 1) := by decide +kernel
theorem dX12_makingsOf_2 : decode cX12_makingsOf 2 = .ok (.iconst 0, 1) := by decide +kernel
theorem dX12_makingsOf_3 : decode cX12_makingsOf 3 = .ok (.istore_n 3, 1) := by decide +kernel
theorem dX12_makingsOf_4 : decode cX12_makingsOf 4 = .ok (.iconst 1, 1) := by decide +kernel
theorem dX12_makingsOf_5 : decode cX12_makingsOf 5 = .ok (.istore 4, 2) := by decide +kernel
theorem dX12_makingsOf_7 : decode cX12_makingsOf 7 = .ok (.iload 4, 2) := by decide +kernel
theorem dX12_makingsOf_9 : decode cX12_makingsOf 9 = .ok (.ifCond .eq 84, 3) := by decide +kernel
theorem dX12_makingsOf_12 : decode cX12_makingsOf 12 = .ok (.iconst 0, 1) := by decide +kernel
theorem dX12_makingsOf_13 : decode cX12_makingsOf 13 = .ok (.istore 4, 2) := by decide +kernel
theorem dX12_makingsOf_15 : decode cX12_makingsOf 15 = .ok (.iconst 0, 1) := by decide +kernel
theorem dX12_makingsOf_16 : decode cX12_makingsOf 16 = .ok (.istore 5, 2) := by decide +kernel
theorem dX12_makingsOf_18 : decode cX12_makingsOf 18 = .ok (.iload 5, 2) := by decide +kernel
theorem dX12_makingsOf_20 : decode cX12_makingsOf 20 = .ok (.aload_n 0, 1) := by decide +kernel
theorem dX12_makingsOf_21 : decode cX12_makingsOf 21 = .ok (.getfield 35, 3) := by decide +kernel
theorem dX12_makingsOf_24 : decode cX12_makingsOf 24 = .ok (.iconst 0, 1) := by decide +kernel
theorem dX12_makingsOf_25 : decode cX12_makingsOf 25 = .ok (.iaload, 1) := by decide +kernel
theorem dX12_makingsOf_26 : decode cX12_makingsOf 26 = .ok (.if_icmp .ge 64, 3) := by decide +kernel
theorem dX12_makingsOf_29 : decode cX12_makingsOf 29 = .ok (.iload_n 2, 1) := by decide +kernel
theorem dX12_makingsOf_30 : decode cX12_makingsOf 30 = .ok (.iload 5, 2) := by decide +kernel
theorem dX12_makingsOf_32 : decode cX12_makingsOf 32 = .ok (.invokestatic 372, 3) := by decide +kernel
theorem dX12_makingsOf_35 : decode cX12_makingsOf 35 = .ok (.ifCond .eq 49, 3) := by decide +kernel
theorem dX12_makingsOf_38 : decode cX12_makingsOf 38 = .ok (.iload_n 3, 1) := by decide +kernel
theorem dX12_makingsOf_39 : decode cX12_makingsOf 39 = .ok (.aload_n 0, 1) := by decide +kernel
theorem dX12_makingsOf_40 : decode cX12_makingsOf 40 = .ok (.getfield 66, 3) := by decide +kernel
theorem dX12_makingsOf_43 : decode cX12_makingsOf 43 = .ok (.iload 5, 2) := by decide +kernel
theorem dX12_makingsOf_45 : decode cX12_makingsOf 45 = .ok (.iaload, 1) := by decide +kernel
theorem dX12_makingsOf_46 : decode cX12_makingsOf 46 = .ok (.invokestatic 372, 3) := by decide +kernel
theorem dX12_makingsOf_49 : decode cX12_makingsOf 49 = .ok (.ifCond .eq 6, 3) := by decide +kernel
theorem dX12_makingsOf_52 : decode cX12_makingsOf 52 = .ok (.goto 32, 3) := by decide +kernel
theorem dX12_makingsOf_55 : decode cX12_makingsOf 55 = .ok (.iload_n 3, 1) := by decide +kernel
theorem dX12_makingsOf_56 : decode cX12_makingsOf 56 = .ok (.iconst 1, 1) := by decide +kernel
theorem dX12_makingsOf_57 : decode cX12_makingsOf 57 = .ok (.aload_n 0, 1) := by decide +kernel
theorem dX12_makingsOf_58 : decode cX12_makingsOf 58 = .ok (.getfield 66, 3) := by decide +kernel
theorem dX12_makingsOf_61 : decode cX12_makingsOf 61 = .ok (.iload 5, 2) := by decide +kernel
theorem dX12_makingsOf_63 : decode cX12_makingsOf 63 = .ok (.iaload, 1) := by decide +kernel
theorem dX12_makingsOf_64 : decode cX12_makingsOf 64 = .ok (.ishl, 1) := by decide +kernel
theorem dX12_makingsOf_65 : decode cX12_makingsOf 65 = .ok (.ior, 1) := by decide +kernel
theorem dX12_makingsOf_66 : decode cX12_makingsOf 66 = .ok (.istore_n 3, 1) := by decide +kernel
theorem dX12_makingsOf_67 : decode cX12_makingsOf 67 = .ok (.iload_n 2, 1) := by decide +kernel
theorem dX12_makingsOf_68 : decode cX12_makingsOf 68 = .ok (.aload_n 0, 1) := by decide +kernel
theorem dX12_makingsOf_69 : decode cX12_makingsOf 69 = .ok (.aload_n 0, 1) := by decide +kernel
theorem dX12_makingsOf_70 : decode cX12_makingsOf 70 = .ok (.getfield 66, 3) := by decide +kernel
theorem dX12_makingsOf_73 : decode cX12_makingsOf 73 = .ok (.iload 5, 2) := by decide +kernel
theorem dX12_makingsOf_75 : decode cX12_makingsOf 75 = .ok (.iaload, 1) := by decide +kernel
theorem dX12_makingsOf_76 : decode cX12_makingsOf 76 = .ok (.invokevirtual 407, 3) := by decide +kernel
theorem dX12_makingsOf_79 : decode cX12_makingsOf 79 = .ok (.ior, 1) := by decide +kernel
theorem dX12_makingsOf_80 : decode cX12_makingsOf 80 = .ok (.istore_n 2, 1) := by decide +kernel
theorem dX12_makingsOf_81 : decode cX12_makingsOf 81 = .ok (.iconst 1, 1) := by decide +kernel
theorem dX12_makingsOf_82 : decode cX12_makingsOf 82 = .ok (.istore 4, 2) := by decide +kernel
theorem dX12_makingsOf_84 : decode cX12_makingsOf 84 = .ok (.iinc 5 1, 3) := by decide +kernel
theorem dX12_makingsOf_87 : decode cX12_makingsOf 87 = .ok (.goto (-69), 3) := by decide +kernel
theorem dX12_makingsOf_90 : decode cX12_makingsOf 90 = .ok (.goto (-83), 3) := by decide +kernel
theorem dX12_makingsOf_93 : decode cX12_makingsOf 93 = .ok (.iload_n 3, 1) := by decide +kernel
theorem dX12_makingsOf_94 : decode cX12_makingsOf 94 = .ok (.ireturn, 1) := by decide +kernel
theorem dX12_hands_0 : decode cX12_hands 0 = .ok (.aload_n 0, 1) := by decide +kernel
theorem dX12_hands_1 : decode cX12_hands 1 = .ok (.iconst 0, 1) := by decide +kernel
theorem dX12_hands_2 : decode cX12_hands 2 = .ok (.putfield 87, 3) := by decide +kernel
theorem dX12_hands_5 : decode cX12_hands 5 = .ok (.aload_n 0, 1) := by decide +kernel
theorem dX12_hands_6 : decode cX12_hands 6 = .ok (.iconst 0, 1) := by decide +kernel
theorem dX12_hands_7 : decode cX12_hands 7 = .ok (.putfield 90, 3) := by decide +kernel
theorem dX12_hands_10 : decode cX12_hands 10 = .ok (.aload_n 0, 1) := by decide +kernel
theorem dX12_hands_11 : decode cX12_hands 11 = .ok (.iload_n 1, 1) := by decide +kernel
theorem dX12_hands_12 : decode cX12_hands 12 = .ok (.invokevirtual 386, 3) := by decide +kernel
theorem dX12_hands_15 : decode cX12_hands 15 = .ok (.ifCond .ne 9, 3) := by decide +kernel
theorem dX12_hands_18 : decode cX12_hands 18 = .ok (.aload_n 0, 1) := by decide +kernel
theorem dX12_hands_19 : decode cX12_hands 19 = .ok (.iconst 2, 1) := by decide +kernel
theorem dX12_hands_20 : decode cX12_hands 20 = .ok (.invokevirtual 351, 3) := by decide +kernel
theorem dX12_hands_23 : decode cX12_hands 23 = .ok (.ireturn, 1) := by decide +kernel
theorem dX12_hands_24 : decode cX12_hands 24 = .ok (.aload_n 0, 1) := by decide +kernel
theorem dX12_hands_25 : decode cX12_hands 25 = .ok (.iconst 0, 1) := by decide +kernel
theorem dX12_hands_26 : decode cX12_hands 26 = .ok (.invokevirtual 416, 3) := by decide +kernel
theorem dX12_hands_29 : decode cX12_hands 29 = .ok (.iconst 0, 1) := by decide +kernel
theorem dX12_hands_30 : decode cX12_hands 30 = .ok (.istore_n 2, 1) := by decide +kernel
theorem dX12_hands_31 : decode cX12_hands 31 = .ok (.iload_n 2, 1) := by decide +kernel
theorem dX12_hands_32 : decode cX12_hands 32 = .ok (.aload_n 0, 1) := by decide +kernel
theorem dX12_hands_33 : decode cX12_hands 33 = .ok (.getfield 35, 3) := by decide +kernel
theorem dX12_hands_36 : decode cX12_hands 36 = .ok (.iconst 0, 1) := by decide +kernel
theorem dX12_hands_37 : decode cX12_hands 37 = .ok (.iaload, 1) := by decide +kernel
theorem dX12_hands_38 : decode cX12_hands 38 = .ok (.if_icmp .ge 41, 3) := by decide +kernel
theorem dX12_hands_41 : decode cX12_hands 41 = .ok (.iload_n 1, 1) := by decide +kernel
theorem dX12_hands_42 : decode cX12_hands 42 = .ok (.iload_n 2, 1) := by decide +kernel
theorem dX12_hands_43 : decode cX12_hands 43 = .ok (.invokestatic 372, 3) := by decide +kernel
theorem dX12_hands_46 : decode cX12_hands 46 = .ok (.ifCond .eq 27, 3) := by decide +kernel
theorem dX12_hands_49 : decode cX12_hands 49 = .ok (.aload_n 0, 1) := by decide +kernel
theorem dX12_hands_50 : decode cX12_hands 50 = .ok (.getfield 63, 3) := by decide +kernel
theorem dX12_hands_53 : decode cX12_hands 53 = .ok (.iload_n 2, 1) := by decide +kernel
theorem dX12_hands_54 : decode cX12_hands 54 = .ok (.iaload, 1) := by decide +kernel
theorem dX12_hands_55 : decode cX12_hands 55 = .ok (.i2l, 1) := by decide +kernel
theorem dX12_hands_56 : decode cX12_hands 56 = .ok (.lconst 0, 1) := by decide +kernel
theorem dX12_hands_57 : decode cX12_hands 57 = .ok (.ldc2_w 419, 3) := by decide +kernel
theorem dX12_hands_60 : decode cX12_hands 60 = .ok (.invokestatic 122, 3) := by decide +kernel
theorem dX12_hands_63 : decode cX12_hands 63 = .ok (.ifCond .ne 10, 3) := by decide +kernel
theorem dX12_hands_66 : decode cX12_hands 66 = .ok (.aload_n 0, 1) := by decide +kernel
theorem dX12_hands_67 : decode cX12_hands 67 = .ok (.bipush 9, 2) := by decide +kernel
theorem dX12_hands_69 : decode cX12_hands 69 = .ok (.invokevirtual 351, 3) := by decide +kernel
theorem dX12_hands_72 : decode cX12_hands 72 = .ok (.ireturn, 1) := by decide +kernel
theorem dX12_hands_73 : decode cX12_hands 73 = .ok (.iinc 2 1, 3) := by decide +kernel
theorem dX12_hands_76 : decode cX12_hands 76 = .ok (.goto (-45), 3) := by decide +kernel
theorem dX12_hands_79 : decode cX12_hands 79 = .ok (.aload_n 0, 1) := by decide +kernel
theorem dX12_hands_80 : decode cX12_hands 80 = .ok (.iload_n 1, 1) := by decide +kernel
theorem dX12_hands_81 : decode cX12_hands 81 = .ok (.invokevirtual 424, 3) := by decide +kernel
theorem dX12_hands_84 : decode cX12_hands 84 = .ok (.istore_n 2, 1) := by decide +kernel
theorem dX12_hands_85 : decode cX12_hands 85 = .ok (.iconst 0, 1) := by decide +kernel
theorem dX12_hands_86 : decode cX12_hands 86 = .ok (.istore_n 3, 1) := by decide +kernel
theorem dX12_hands_87 : decode cX12_hands 87 = .ok (.iconst 0, 1) := by decide +kernel
theorem dX12_hands_88 : decode cX12_hands 88 = .ok (.istore 4, 2) := by decide +kernel
theorem dX12_hands_90 : decode cX12_hands 90 = .ok (.iconst 0, 1) := by decide +kernel
theorem dX12_hands_91 : decode cX12_hands 91 = .ok (.istore 5, 2) := by decide +kernel
theorem dX12_hands_93 : decode cX12_hands 93 = .ok (.iload 5, 2) := by decide +kernel
theorem dX12_hands_95 : decode cX12_hands 95 = .ok (.aload_n 0, 1) := by decide +kernel
theorem dX12_hands_96 : decode cX12_hands 96 = .ok (.getfield 35, 3) := by decide +kernel
theorem dX12_hands_99 : decode cX12_hands 99 = .ok (.iconst 1, 1) := by decide +kernel
theorem dX12_hands_100 : decode cX12_hands 100 = .ok (.iaload, 1) := by decide +kernel
theorem dX12_hands_101 : decode cX12_hands 101 = .ok (.if_icmp .ge 62, 3) := by decide +kernel
theorem dX12_hands_104 : decode cX12_hands 104 = .ok (.iload_n 2, 1) := by decide +kernel
theorem dX12_hands_105 : decode cX12_hands 105 = .ok (.iload 5, 2) := by decide +kernel
theorem dX12_hands_107 : decode cX12_hands 107 = .ok (.invokestatic 372, 3) := by decide +kernel
theorem dX12_hands_110 : decode cX12_hands 110 = .ok (.ifCond .ne 6, 3) := by decide +kernel
theorem dX12_hands_113 : decode cX12_hands 113 = .ok (.goto 44, 3) := by decide +kernel
theorem dX12_hands_116 : decode cX12_hands 116 = .ok (.iload_n 3, 1) := by decide +kernel
theorem dX12_hands_117 : decode cX12_hands 117 = .ok (.aload_n 0, 1) := by decide +kernel
theorem dX12_hands_118 : decode cX12_hands 118 = .ok (.getfield 35, 3) := by decide +kernel
theorem dX12_hands_121 : decode cX12_hands 121 = .ok (.bipush 41, 2) := by decide +kernel
theorem dX12_hands_123 : decode cX12_hands 123 = .ok (.iload 5, 2) := by decide +kernel
theorem dX12_hands_125 : decode cX12_hands 125 = .ok (.iadd, 1) := by decide +kernel
theorem dX12_hands_126 : decode cX12_hands 126 = .ok (.iaload, 1) := by decide +kernel
theorem dX12_hands_127 : decode cX12_hands 127 = .ok (.aload_n 0, 1) := by decide +kernel
theorem dX12_hands_128 : decode cX12_hands 128 = .ok (.getfield 35, 3) := by decide +kernel
theorem dX12_hands_131 : decode cX12_hands 131 = .ok (.bipush 53, 2) := by decide +kernel
theorem dX12_hands_133 : decode cX12_hands 133 = .ok (.iload 5, 2) := by decide +kernel
theorem dX12_hands_135 : decode cX12_hands 135 = .ok (.iadd, 1) := by decide +kernel
theorem dX12_hands_136 : decode cX12_hands 136 = .ok (.iaload, 1) := by decide +kernel
theorem dX12_hands_137 : decode cX12_hands 137 = .ok (.imul, 1) := by decide +kernel
theorem dX12_hands_138 : decode cX12_hands 138 = .ok (.iadd, 1) := by decide +kernel
theorem dX12_hands_139 : decode cX12_hands 139 = .ok (.istore_n 3, 1) := by decide +kernel
theorem dX12_hands_140 : decode cX12_hands 140 = .ok (.iload 4, 2) := by decide +kernel
theorem dX12_hands_142 : decode cX12_hands 142 = .ok (.aload_n 0, 1) := by decide +kernel
theorem dX12_hands_143 : decode cX12_hands 143 = .ok (.getfield 35, 3) := by decide +kernel
theorem dX12_hands_146 : decode cX12_hands 146 = .ok (.bipush 53, 2) := by decide +kernel
theorem dX12_hands_148 : decode cX12_hands 148 = .ok (.iload 5, 2) := by decide +kernel
theorem dX12_hands_150 : decode cX12_hands 150 = .ok (.iadd, 1) := by decide +kernel
theorem dX12_hands_151 : decode cX12_hands 151 = .ok (.iaload, 1) := by decide +kernel
theorem dX12_hands_152 : decode cX12_hands 152 = .ok (.invokestatic 410, 3) := by decide +kernel
theorem dX12_hands_155 : decode cX12_hands 155 = .ok (.istore 4, 2) := by decide +kernel
theorem dX12_hands_157 : decode cX12_hands 157 = .ok (.iinc 5 1, 3) := by decide +kernel
theorem dX12_hands_160 : decode cX12_hands 160 = .ok (.goto (-67), 3) := by decide +kernel
theorem dX12_hands_163 : decode cX12_hands 163 = .ok (.iload 4, 2) := by decide +kernel
theorem dX12_hands_165 : decode cX12_hands 165 = .ok (.iload_n 3, 1) := by decide +kernel
theorem dX12_hands_166 : decode cX12_hands 166 = .ok (.bipush 23, 2) := by decide +kernel
theorem dX12_hands_168 : decode cX12_hands 168 = .ok (.iadd, 1) := by decide +kernel
theorem dX12_hands_169 : decode cX12_hands 169 = .ok (.bipush 24, 2) := by decide +kernel
theorem dX12_hands_171 : decode cX12_hands 171 = .ok (.idiv, 1) := by decide +kernel
theorem dX12_hands_172 : decode cX12_hands 172 = .ok (.invokestatic 410, 3) := by decide +kernel
theorem dX12_hands_175 : decode cX12_hands 175 = .ok (.ireturn, 1) := by decide +kernel
theorem dX12_take_0 : decode cX12_take 0 = .ok (.aload_n 0, 1) := by decide +kernel
theorem dX12_take_1 : decode cX12_take 1 = .ok (.iconst 0, 1) := by decide +kernel
theorem dX12_take_2 : decode cX12_take 2 = .ok (.putfield 427, 3) := by decide +kernel
theorem dX12_take_5 : decode cX12_take 5 = .ok (.aload_n 0, 1) := by decide +kernel
theorem dX12_take_6 : decode cX12_take 6 = .ok (.iload_n 2, 1) := by decide +kernel
theorem dX12_take_7 : decode cX12_take 7 = .ok (.putfield 430, 3) := by decide +kernel
theorem dX12_take_10 : decode cX12_take 10 = .ok (.aload_n 0, 1) := by decide +kernel
theorem dX12_take_11 : decode cX12_take 11 = .ok (.iconst 0, 1) := by decide +kernel
theorem dX12_take_12 : decode cX12_take 12 = .ok (.putfield 433, 3) := by decide +kernel
theorem dX12_take_15 : decode cX12_take 15 = .ok (.iconst 0, 1) := by decide +kernel
theorem dX12_take_16 : decode cX12_take 16 = .ok (.istore_n 3, 1) := by decide +kernel
theorem dX12_take_17 : decode cX12_take 17 = .ok (.iload_n 3, 1) := by decide +kernel
theorem dX12_take_18 : decode cX12_take 18 = .ok (.aload_n 0, 1) := by decide +kernel
theorem dX12_take_19 : decode cX12_take 19 = .ok (.getfield 35, 3) := by decide +kernel
theorem dX12_take_22 : decode cX12_take 22 = .ok (.iconst 3, 1) := by decide +kernel
theorem dX12_take_23 : decode cX12_take 23 = .ok (.iaload, 1) := by decide +kernel
theorem dX12_take_24 : decode cX12_take 24 = .ok (.if_icmp .ge 108, 3) := by decide +kernel
theorem dX12_take_27 : decode cX12_take 27 = .ok (.aload_n 0, 1) := by decide +kernel
theorem dX12_take_28 : decode cX12_take 28 = .ok (.getfield 35, 3) := by decide +kernel
theorem dX12_take_31 : decode cX12_take 31 = .ok (.bipush 115, 2) := by decide +kernel
theorem dX12_take_33 : decode cX12_take 33 = .ok (.iload_n 3, 1) := by decide +kernel
theorem dX12_take_34 : decode cX12_take 34 = .ok (.iadd, 1) := by decide +kernel
theorem dX12_take_35 : decode cX12_take 35 = .ok (.iaload, 1) := by decide +kernel
theorem dX12_take_36 : decode cX12_take 36 = .ok (.iload_n 1, 1) := by decide +kernel
theorem dX12_take_37 : decode cX12_take 37 = .ok (.if_icmp .ne 89, 3) := by decide +kernel
theorem dX12_take_40 : decode cX12_take 40 = .ok (.aload_n 0, 1) := by decide +kernel
theorem dX12_take_41 : decode cX12_take 41 = .ok (.getfield 430, 3) := by decide +kernel
theorem dX12_take_44 : decode cX12_take 44 = .ok (.aload_n 0, 1) := by decide +kernel
theorem dX12_take_45 : decode cX12_take 45 = .ok (.getfield 35, 3) := by decide +kernel
theorem dX12_take_48 : decode cX12_take 48 = .ok (.bipush 107, 2) := by decide +kernel
theorem dX12_take_50 : decode cX12_take 50 = .ok (.iload_n 3, 1) := by decide +kernel
theorem dX12_take_51 : decode cX12_take 51 = .ok (.iadd, 1) := by decide +kernel
theorem dX12_take_52 : decode cX12_take 52 = .ok (.iaload, 1) := by decide +kernel
theorem dX12_take_53 : decode cX12_take 53 = .ok (.invokestatic 372, 3) := by decide +kernel
theorem dX12_take_56 : decode cX12_take 56 = .ok (.ifCond .ne 6, 3) := by decide +kernel
theorem dX12_take_59 : decode cX12_take 59 = .ok (.goto 67, 3) := by decide +kernel
theorem dX12_take_62 : decode cX12_take 62 = .ok (.aload_n 0, 1) := by decide +kernel
theorem dX12_take_63 : decode cX12_take 63 = .ok (.dup, 1) := by decide +kernel
theorem dX12_take_64 : decode cX12_take 64 = .ok (.getfield 427, 3) := by decide +kernel
theorem dX12_take_67 : decode cX12_take 67 = .ok (.aload_n 0, 1) := by decide +kernel
theorem dX12_take_68 : decode cX12_take 68 = .ok (.getfield 35, 3) := by decide +kernel
theorem dX12_take_71 : decode cX12_take 71 = .ok (.bipush 123, 2) := by decide +kernel
theorem dX12_take_73 : decode cX12_take 73 = .ok (.iload_n 3, 1) := by decide +kernel
theorem dX12_take_74 : decode cX12_take 74 = .ok (.iadd, 1) := by decide +kernel
theorem dX12_take_75 : decode cX12_take 75 = .ok (.iaload, 1) := by decide +kernel
theorem dX12_take_76 : decode cX12_take 76 = .ok (.iadd, 1) := by decide +kernel
theorem dX12_take_77 : decode cX12_take 77 = .ok (.putfield 427, 3) := by decide +kernel
theorem dX12_take_80 : decode cX12_take 80 = .ok (.aload_n 0, 1) := by decide +kernel
theorem dX12_take_81 : decode cX12_take 81 = .ok (.dup, 1) := by decide +kernel
theorem dX12_take_82 : decode cX12_take 82 = .ok (.getfield 433, 3) := by decide +kernel
theorem dX12_take_85 : decode cX12_take 85 = .ok (.iconst 1, 1) := by decide +kernel
theorem dX12_take_86 : decode cX12_take 86 = .ok (.iadd, 1) := by decide +kernel
theorem dX12_take_87 : decode cX12_take 87 = .ok (.putfield 433, 3) := by decide +kernel
theorem dX12_take_90 : decode cX12_take 90 = .ok (.aload_n 0, 1) := by decide +kernel
theorem dX12_take_91 : decode cX12_take 91 = .ok (.getfield 35, 3) := by decide +kernel
theorem dX12_take_94 : decode cX12_take 94 = .ok (.sipush 131, 3) := by decide +kernel
theorem dX12_take_97 : decode cX12_take 97 = .ok (.iload_n 3, 1) := by decide +kernel
theorem dX12_take_98 : decode cX12_take 98 = .ok (.iadd, 1) := by decide +kernel
theorem dX12_take_99 : decode cX12_take 99 = .ok (.iaload, 1) := by decide +kernel
theorem dX12_take_100 : decode cX12_take 100 = .ok (.iconst 1, 1) := by decide +kernel
theorem dX12_take_101 : decode cX12_take 101 = .ok (.if_icmp .ne 25, 3) := by decide +kernel
theorem dX12_take_104 : decode cX12_take 104 = .ok (.aload_n 0, 1) := by decide +kernel
theorem dX12_take_105 : decode cX12_take 105 = .ok (.dup, 1) := by decide +kernel
theorem dX12_take_106 : decode cX12_take 106 = .ok (.getfield 430, 3) := by decide +kernel
theorem dX12_take_109 : decode cX12_take 109 = .ok (.iconst 1, 1) := by decide +kernel
theorem dX12_take_110 : decode cX12_take 110 = .ok (.aload_n 0, 1) := by decide +kernel
theorem dX12_take_111 : decode cX12_take 111 = .ok (.getfield 35, 3) := by decide +kernel
theorem dX12_take_114 : decode cX12_take 114 = .ok (.bipush 107, 2) := by decide +kernel
theorem dX12_take_116 : decode cX12_take 116 = .ok (.iload_n 3, 1) := by decide +kernel
theorem dX12_take_117 : decode cX12_take 117 = .ok (.iadd, 1) := by decide +kernel
theorem dX12_take_118 : decode cX12_take 118 = .ok (.iaload, 1) := by decide +kernel
theorem dX12_take_119 : decode cX12_take 119 = .ok (.ishl, 1) := by decide +kernel
theorem dX12_take_120 : decode cX12_take 120 = .ok (.iconst (-1), 1) := by decide +kernel
theorem dX12_take_121 : decode cX12_take 121 = .ok (.ixor, 1) := by decide +kernel
theorem dX12_take_122 : decode cX12_take 122 = .ok (.iand, 1) := by decide +kernel
theorem dX12_take_123 : decode cX12_take 123 = .ok (.putfield 430, 3) := by decide +kernel
theorem dX12_take_126 : decode cX12_take 126 = .ok (.iinc 3 1, 3) := by decide +kernel
theorem dX12_take_129 : decode cX12_take 129 = .ok (.goto (-112), 3) := by decide +kernel
theorem dX12_take_132 : decode cX12_take 132 = .ok (.return_, 1) := by decide +kernel
theorem dX12_byMaking_0 : decode cX12_byMaking 0 = .ok (.iload_n 2, 1) := by decide +kernel
theorem dX12_byMaking_1 : decode cX12_byMaking 1 = .ok (.aload_n 0, 1) := by decide +kernel
theorem dX12_byMaking_2 : decode cX12_byMaking 2 = .ok (.getfield 35, 3) := by decide +kernel
theorem dX12_byMaking_5 : decode cX12_byMaking 5 = .ok (.bipush 41, 2) := by decide +kernel
theorem dX12_byMaking_7 : decode cX12_byMaking 7 = .ok (.iload_n 1, 1) := by decide +kernel
theorem dX12_byMaking_8 : decode cX12_byMaking 8 = .ok (.iadd, 1) := by decide +kernel
theorem dX12_byMaking_9 : decode cX12_byMaking 9 = .ok (.iaload, 1) := by decide +kernel
theorem dX12_byMaking_10 : decode cX12_byMaking 10 = .ok (.iadd, 1) := by decide +kernel
theorem dX12_byMaking_11 : decode cX12_byMaking 11 = .ok (.istore 4, 2) := by decide +kernel
theorem dX12_byMaking_13 : decode cX12_byMaking 13 = .ok (.iload_n 3, 1) := by decide +kernel
theorem dX12_byMaking_14 : decode cX12_byMaking 14 = .ok (.aload_n 0, 1) := by decide +kernel
theorem dX12_byMaking_15 : decode cX12_byMaking 15 = .ok (.getfield 35, 3) := by decide +kernel
theorem dX12_byMaking_18 : decode cX12_byMaking 18 = .ok (.bipush 65, 2) := by decide +kernel
theorem dX12_byMaking_20 : decode cX12_byMaking 20 = .ok (.iload_n 1, 1) := by decide +kernel
theorem dX12_byMaking_21 : decode cX12_byMaking 21 = .ok (.iadd, 1) := by decide +kernel
theorem dX12_byMaking_22 : decode cX12_byMaking 22 = .ok (.iaload, 1) := by decide +kernel
theorem dX12_byMaking_23 : decode cX12_byMaking 23 = .ok (.iconst (-1), 1) := by decide +kernel
theorem dX12_byMaking_24 : decode cX12_byMaking 24 = .ok (.ixor, 1) := by decide +kernel
theorem dX12_byMaking_25 : decode cX12_byMaking 25 = .ok (.iand, 1) := by decide +kernel
theorem dX12_byMaking_26 : decode cX12_byMaking 26 = .ok (.istore 5, 2) := by decide +kernel
theorem dX12_byMaking_28 : decode cX12_byMaking 28 = .ok (.iconst 0, 1) := by decide +kernel
theorem dX12_byMaking_29 : decode cX12_byMaking 29 = .ok (.istore 6, 2) := by decide +kernel
theorem dX12_byMaking_31 : decode cX12_byMaking 31 = .ok (.iload_n 2, 1) := by decide +kernel
theorem dX12_byMaking_32 : decode cX12_byMaking 32 = .ok (.iconst 1, 1) := by decide +kernel
theorem dX12_byMaking_33 : decode cX12_byMaking 33 = .ok (.iadd, 1) := by decide +kernel
theorem dX12_byMaking_34 : decode cX12_byMaking 34 = .ok (.istore 7, 2) := by decide +kernel
theorem dX12_byMaking_36 : decode cX12_byMaking 36 = .ok (.iload 7, 2) := by decide +kernel
theorem dX12_byMaking_38 : decode cX12_byMaking 38 = .ok (.iload 4, 2) := by decide +kernel
theorem dX12_byMaking_40 : decode cX12_byMaking 40 = .ok (.if_icmp .ge 32, 3) := by decide +kernel
theorem dX12_byMaking_43 : decode cX12_byMaking 43 = .ok (.aload_n 0, 1) := by decide +kernel
theorem dX12_byMaking_44 : decode cX12_byMaking 44 = .ok (.iload 7, 2) := by decide +kernel
theorem dX12_byMaking_46 : decode cX12_byMaking 46 = .ok (.iload 5, 2) := by decide +kernel
theorem dX12_byMaking_48 : decode cX12_byMaking 48 = .ok (.invokevirtual 436, 3) := by decide +kernel
theorem dX12_byMaking_51 : decode cX12_byMaking 51 = .ok (.iload 6, 2) := by decide +kernel
theorem dX12_byMaking_53 : decode cX12_byMaking 53 = .ok (.aload_n 0, 1) := by decide +kernel
theorem dX12_byMaking_54 : decode cX12_byMaking 54 = .ok (.getfield 427, 3) := by decide +kernel
theorem dX12_byMaking_57 : decode cX12_byMaking 57 = .ok (.iadd, 1) := by decide +kernel
theorem dX12_byMaking_58 : decode cX12_byMaking 58 = .ok (.istore 6, 2) := by decide +kernel
theorem dX12_byMaking_60 : decode cX12_byMaking 60 = .ok (.aload_n 0, 1) := by decide +kernel
theorem dX12_byMaking_61 : decode cX12_byMaking 61 = .ok (.getfield 430, 3) := by decide +kernel
theorem dX12_byMaking_64 : decode cX12_byMaking 64 = .ok (.istore 5, 2) := by decide +kernel
theorem dX12_byMaking_66 : decode cX12_byMaking 66 = .ok (.iinc 7 1, 3) := by decide +kernel
theorem dX12_byMaking_69 : decode cX12_byMaking 69 = .ok (.goto (-33), 3) := by decide +kernel
theorem dX12_byMaking_72 : decode cX12_byMaking 72 = .ok (.iload 6, 2) := by decide +kernel
theorem dX12_byMaking_74 : decode cX12_byMaking 74 = .ok (.aload_n 0, 1) := by decide +kernel
theorem dX12_byMaking_75 : decode cX12_byMaking 75 = .ok (.getfield 45, 3) := by decide +kernel
theorem dX12_byMaking_78 : decode cX12_byMaking 78 = .ok (.sipush 256, 3) := by decide +kernel
theorem dX12_byMaking_81 : decode cX12_byMaking 81 = .ok (.iload 4, 2) := by decide +kernel
theorem dX12_byMaking_83 : decode cX12_byMaking 83 = .ok (.imul, 1) := by decide +kernel
theorem dX12_byMaking_84 : decode cX12_byMaking 84 = .ok (.iload 5, 2) := by decide +kernel
theorem dX12_byMaking_86 : decode cX12_byMaking 86 = .ok (.iconst 1, 1) := by decide +kernel
theorem dX12_byMaking_87 : decode cX12_byMaking 87 = .ok (.aload_n 0, 1) := by decide +kernel
theorem dX12_byMaking_88 : decode cX12_byMaking 88 = .ok (.getfield 35, 3) := by decide +kernel
theorem dX12_byMaking_91 : decode cX12_byMaking 91 = .ok (.bipush 29, 2) := by decide +kernel
theorem dX12_byMaking_93 : decode cX12_byMaking 93 = .ok (.iload_n 1, 1) := by decide +kernel
theorem dX12_byMaking_94 : decode cX12_byMaking 94 = .ok (.iadd, 1) := by decide +kernel
theorem dX12_byMaking_95 : decode cX12_byMaking 95 = .ok (.iaload, 1) := by decide +kernel
theorem dX12_byMaking_96 : decode cX12_byMaking 96 = .ok (.ishl, 1) := by decide +kernel
theorem dX12_byMaking_97 : decode cX12_byMaking 97 = .ok (.ior, 1) := by decide +kernel
theorem dX12_byMaking_98 : decode cX12_byMaking 98 = .ok (.iadd, 1) := by decide +kernel
theorem dX12_byMaking_99 : decode cX12_byMaking 99 = .ok (.iaload, 1) := by decide +kernel
theorem dX12_byMaking_100 : decode cX12_byMaking 100 = .ok (.iadd, 1) := by decide +kernel
theorem dX12_byMaking_101 : decode cX12_byMaking 101 = .ok (.ireturn, 1) := by decide +kernel
theorem dX12_mostFrom_0 : decode cX12_mostFrom 0 = .ok (.aload_n 0, 1) := by decide +kernel
theorem dX12_mostFrom_1 : decode cX12_mostFrom 1 = .ok (.getfield 45, 3) := by decide +kernel
theorem dX12_mostFrom_4 : decode cX12_mostFrom 4 = .ok (.sipush 256, 3) := by decide +kernel
theorem dX12_mostFrom_7 : decode cX12_mostFrom 7 = .ok (.iload_n 1, 1) := by decide +kernel
theorem dX12_mostFrom_8 : decode cX12_mostFrom 8 = .ok (.iconst 1, 1) := by decide +kernel
theorem dX12_mostFrom_9 : decode cX12_mostFrom 9 = .ok (.iadd, 1) := by decide +kernel
theorem dX12_mostFrom_10 : decode cX12_mostFrom 10 = .ok (.imul, 1) := by decide +kernel
theorem dX12_mostFrom_11 : decode cX12_mostFrom 11 = .ok (.iload_n 2, 1) := by decide +kernel
theorem dX12_mostFrom_12 : decode cX12_mostFrom 12 = .ok (.iadd, 1) := by decide +kernel
theorem dX12_mostFrom_13 : decode cX12_mostFrom 13 = .ok (.iaload, 1) := by decide +kernel
theorem dX12_mostFrom_14 : decode cX12_mostFrom 14 = .ok (.istore_n 3, 1) := by decide +kernel
theorem dX12_mostFrom_15 : decode cX12_mostFrom 15 = .ok (.iconst 0, 1) := by decide +kernel
theorem dX12_mostFrom_16 : decode cX12_mostFrom 16 = .ok (.istore 4, 2) := by decide +kernel
theorem dX12_mostFrom_18 : decode cX12_mostFrom 18 = .ok (.iload 4, 2) := by decide +kernel
theorem dX12_mostFrom_20 : decode cX12_mostFrom 20 = .ok (.aload_n 0, 1) := by decide +kernel
theorem dX12_mostFrom_21 : decode cX12_mostFrom 21 = .ok (.getfield 35, 3) := by decide +kernel
theorem dX12_mostFrom_24 : decode cX12_mostFrom 24 = .ok (.iconst 1, 1) := by decide +kernel
theorem dX12_mostFrom_25 : decode cX12_mostFrom 25 = .ok (.iaload, 1) := by decide +kernel
theorem dX12_mostFrom_26 : decode cX12_mostFrom 26 = .ok (.if_icmp .ge 49, 3) := by decide +kernel
theorem dX12_mostFrom_29 : decode cX12_mostFrom 29 = .ok (.aload_n 0, 1) := by decide +kernel
theorem dX12_mostFrom_30 : decode cX12_mostFrom 30 = .ok (.iload 4, 2) := by decide +kernel
theorem dX12_mostFrom_32 : decode cX12_mostFrom 32 = .ok (.iload_n 2, 1) := by decide +kernel
theorem dX12_mostFrom_33 : decode cX12_mostFrom 33 = .ok (.invokevirtual 421, 3) := by decide +kernel
theorem dX12_mostFrom_36 : decode cX12_mostFrom 36 = .ok (.ifCond .eq 33, 3) := by decide +kernel
theorem dX12_mostFrom_39 : decode cX12_mostFrom 39 = .ok (.iload_n 1, 1) := by decide +kernel
theorem dX12_mostFrom_40 : decode cX12_mostFrom 40 = .ok (.aload_n 0, 1) := by decide +kernel
theorem dX12_mostFrom_41 : decode cX12_mostFrom 41 = .ok (.getfield 35, 3) := by decide +kernel
theorem dX12_mostFrom_44 : decode cX12_mostFrom 44 = .ok (.bipush 41, 2) := by decide +kernel
theorem dX12_mostFrom_46 : decode cX12_mostFrom 46 = .ok (.iload 4, 2) := by decide +kernel
theorem dX12_mostFrom_48 : decode cX12_mostFrom 48 = .ok (.iadd, 1) := by decide +kernel
theorem dX12_mostFrom_49 : decode cX12_mostFrom 49 = .ok (.iaload, 1) := by decide +kernel
theorem dX12_mostFrom_50 : decode cX12_mostFrom 50 = .ok (.iadd, 1) := by decide +kernel
theorem dX12_mostFrom_51 : decode cX12_mostFrom 51 = .ok (.bipush 25, 2) := by decide +kernel
theorem dX12_mostFrom_53 : decode cX12_mostFrom 53 = .ok (.if_icmp .ge 16, 3) := by decide +kernel
theorem dX12_mostFrom_56 : decode cX12_mostFrom 56 = .ok (.iload_n 3, 1) := by decide +kernel
theorem dX12_mostFrom_57 : decode cX12_mostFrom 57 = .ok (.aload_n 0, 1) := by decide +kernel
theorem dX12_mostFrom_58 : decode cX12_mostFrom 58 = .ok (.iload 4, 2) := by decide +kernel
theorem dX12_mostFrom_60 : decode cX12_mostFrom 60 = .ok (.iload_n 1, 1) := by decide +kernel
theorem dX12_mostFrom_61 : decode cX12_mostFrom 61 = .ok (.iload_n 2, 1) := by decide +kernel
theorem dX12_mostFrom_62 : decode cX12_mostFrom 62 = .ok (.invokevirtual 439, 3) := by decide +kernel
theorem dX12_mostFrom_65 : decode cX12_mostFrom 65 = .ok (.invokestatic 410, 3) := by decide +kernel
theorem dX12_mostFrom_68 : decode cX12_mostFrom 68 = .ok (.istore_n 3, 1) := by decide +kernel
theorem dX12_mostFrom_69 : decode cX12_mostFrom 69 = .ok (.iinc 4 1, 3) := by decide +kernel
theorem dX12_mostFrom_72 : decode cX12_mostFrom 72 = .ok (.goto (-54), 3) := by decide +kernel
theorem dX12_mostFrom_75 : decode cX12_mostFrom 75 = .ok (.iload_n 3, 1) := by decide +kernel
theorem dX12_mostFrom_76 : decode cX12_mostFrom 76 = .ok (.ireturn, 1) := by decide +kernel
theorem dX12_tellDay_0 : decode cX12_tellDay 0 = .ok (.bipush 24, 2) := by decide +kernel
theorem dX12_tellDay_2 : decode cX12_tellDay 2 = .ok (.istore_n 1, 1) := by decide +kernel
theorem dX12_tellDay_3 : decode cX12_tellDay 3 = .ok (.iload_n 1, 1) := by decide +kernel
theorem dX12_tellDay_4 : decode cX12_tellDay 4 = .ok (.ifCond .lt 83, 3) := by decide +kernel
theorem dX12_tellDay_7 : decode cX12_tellDay 7 = .ok (.iconst 0, 1) := by decide +kernel
theorem dX12_tellDay_8 : decode cX12_tellDay 8 = .ok (.istore_n 2, 1) := by decide +kernel
theorem dX12_tellDay_9 : decode cX12_tellDay 9 = .ok (.iload_n 2, 1) := by decide +kernel
theorem dX12_tellDay_10 : decode cX12_tellDay 10 = .ok (.iconst 1, 1) := by decide +kernel
theorem dX12_tellDay_11 : decode cX12_tellDay 11 = .ok (.aload_n 0, 1) := by decide +kernel
theorem dX12_tellDay_12 : decode cX12_tellDay 12 = .ok (.getfield 35, 3) := by decide +kernel
theorem dX12_tellDay_15 : decode cX12_tellDay 15 = .ok (.iconst 0, 1) := by decide +kernel
theorem dX12_tellDay_16 : decode cX12_tellDay 16 = .ok (.iaload, 1) := by decide +kernel
theorem dX12_tellDay_17 : decode cX12_tellDay 17 = .ok (.ishl, 1) := by decide +kernel
theorem dX12_tellDay_18 : decode cX12_tellDay 18 = .ok (.if_icmp .ge 63, 3) := by decide +kernel
theorem dX12_tellDay_21 : decode cX12_tellDay 21 = .ok (.aload_n 0, 1) := by decide +kernel
theorem dX12_tellDay_22 : decode cX12_tellDay 22 = .ok (.iload_n 1, 1) := by decide +kernel
theorem dX12_tellDay_23 : decode cX12_tellDay 23 = .ok (.iload_n 2, 1) := by decide +kernel
theorem dX12_tellDay_24 : decode cX12_tellDay 24 = .ok (.invokevirtual 436, 3) := by decide +kernel
theorem dX12_tellDay_27 : decode cX12_tellDay 27 = .ok (.aload_n 0, 1) := by decide +kernel
theorem dX12_tellDay_28 : decode cX12_tellDay 28 = .ok (.getfield 427, 3) := by decide +kernel
theorem dX12_tellDay_31 : decode cX12_tellDay 31 = .ok (.istore_n 3, 1) := by decide +kernel
theorem dX12_tellDay_32 : decode cX12_tellDay 32 = .ok (.aload_n 0, 1) := by decide +kernel
theorem dX12_tellDay_33 : decode cX12_tellDay 33 = .ok (.getfield 430, 3) := by decide +kernel
theorem dX12_tellDay_36 : decode cX12_tellDay 36 = .ok (.istore 4, 2) := by decide +kernel
theorem dX12_tellDay_38 : decode cX12_tellDay 38 = .ok (.aload_n 0, 1) := by decide +kernel
theorem dX12_tellDay_39 : decode cX12_tellDay 39 = .ok (.getfield 45, 3) := by decide +kernel
theorem dX12_tellDay_42 : decode cX12_tellDay 42 = .ok (.sipush 256, 3) := by decide +kernel
theorem dX12_tellDay_45 : decode cX12_tellDay 45 = .ok (.iload_n 1, 1) := by decide +kernel
theorem dX12_tellDay_46 : decode cX12_tellDay 46 = .ok (.imul, 1) := by decide +kernel
theorem dX12_tellDay_47 : decode cX12_tellDay 47 = .ok (.iload_n 2, 1) := by decide +kernel
theorem dX12_tellDay_48 : decode cX12_tellDay 48 = .ok (.iadd, 1) := by decide +kernel
theorem dX12_tellDay_49 : decode cX12_tellDay 49 = .ok (.iload_n 3, 1) := by decide +kernel
theorem dX12_tellDay_50 : decode cX12_tellDay 50 = .ok (.iload_n 1, 1) := by decide +kernel
theorem dX12_tellDay_51 : decode cX12_tellDay 51 = .ok (.bipush 24, 2) := by decide +kernel
theorem dX12_tellDay_53 : decode cX12_tellDay 53 = .ok (.if_icmp .ne 13, 3) := by decide +kernel
theorem dX12_tellDay_56 : decode cX12_tellDay 56 = .ok (.aload_n 0, 1) := by decide +kernel
theorem dX12_tellDay_57 : decode cX12_tellDay 57 = .ok (.getfield 51, 3) := by decide +kernel
theorem dX12_tellDay_60 : decode cX12_tellDay 60 = .ok (.iload 4, 2) := by decide +kernel
theorem dX12_tellDay_62 : decode cX12_tellDay 62 = .ok (.iaload, 1) := by decide +kernel
theorem dX12_tellDay_63 : decode cX12_tellDay 63 = .ok (.goto 10, 3) := by decide +kernel
theorem dX12_tellDay_66 : decode cX12_tellDay 66 = .ok (.aload_n 0, 1) := by decide +kernel
theorem dX12_tellDay_67 : decode cX12_tellDay 67 = .ok (.iload_n 1, 1) := by decide +kernel
theorem dX12_tellDay_68 : decode cX12_tellDay 68 = .ok (.iload 4, 2) := by decide +kernel
theorem dX12_tellDay_70 : decode cX12_tellDay 70 = .ok (.invokevirtual 442, 3) := by decide +kernel
theorem dX12_tellDay_73 : decode cX12_tellDay 73 = .ok (.iadd, 1) := by decide +kernel
theorem dX12_tellDay_74 : decode cX12_tellDay 74 = .ok (.iastore, 1) := by decide +kernel
theorem dX12_tellDay_75 : decode cX12_tellDay 75 = .ok (.iinc 2 1, 3) := by decide +kernel
theorem dX12_tellDay_78 : decode cX12_tellDay 78 = .ok (.goto (-69), 3) := by decide +kernel
theorem dX12_tellDay_81 : decode cX12_tellDay 81 = .ok (.iinc 1 (-1), 3) := by decide +kernel
theorem dX12_tellDay_84 : decode cX12_tellDay 84 = .ok (.goto (-81), 3) := by decide +kernel
theorem dX12_tellDay_87 : decode cX12_tellDay 87 = .ok (.return_, 1) := by decide +kernel
theorem dX12_nothingBehind_0 : decode cX12_nothingBehind 0 = .ok (.iconst 0, 1) := by decide +kernel
theorem dX12_nothingBehind_1 : decode cX12_nothingBehind 1 = .ok (.istore_n 1, 1) := by decide +kernel
theorem dX12_nothingBehind_2 : decode cX12_nothingBehind 2 = .ok (.iload_n 1, 1) := by decide +kernel
theorem dX12_nothingBehind_3 : decode cX12_nothingBehind 3 = .ok (.sipush 256, 3) := by decide +kernel
theorem dX12_nothingBehind_6 : decode cX12_nothingBehind 6 = .ok (.if_icmp .ge 16, 3) := by decide +kernel
theorem dX12_nothingBehind_9 : decode cX12_nothingBehind 9 = .ok (.aload_n 0, 1) := by decide +kernel
theorem dX12_nothingBehind_10 : decode cX12_nothingBehind 10 = .ok (.getfield 51, 3) := by decide +kernel
theorem dX12_nothingBehind_13 : decode cX12_nothingBehind 13 = .ok (.iload_n 1, 1) := by decide +kernel
theorem dX12_nothingBehind_14 : decode cX12_nothingBehind 14 = .ok (.iconst 0, 1) := by decide +kernel
theorem dX12_nothingBehind_15 : decode cX12_nothingBehind 15 = .ok (.iastore, 1) := by decide +kernel
theorem dX12_nothingBehind_16 : decode cX12_nothingBehind 16 = .ok (.iinc 1 1, 3) := by decide +kernel
theorem dX12_nothingBehind_19 : decode cX12_nothingBehind 19 = .ok (.goto (-17), 3) := by decide +kernel
theorem dX12_nothingBehind_22 : decode cX12_nothingBehind 22 = .ok (.return_, 1) := by decide +kernel
theorem dX12_walkDay_0 : decode cX12_walkDay 0 = .ok (.aload_n 0, 1) := by decide +kernel
theorem dX12_walkDay_1 : decode cX12_walkDay 1 = .ok (.iconst 0, 1) := by decide +kernel
theorem dX12_walkDay_2 : decode cX12_walkDay 2 = .ok (.putfield 445, 3) := by decide +kernel
theorem dX12_walkDay_5 : decode cX12_walkDay 5 = .ok (.iload_n 2, 1) := by decide +kernel
theorem dX12_walkDay_6 : decode cX12_walkDay 6 = .ok (.istore_n 3, 1) := by decide +kernel
theorem dX12_walkDay_7 : decode cX12_walkDay 7 = .ok (.iload_n 1, 1) := by decide +kernel
theorem dX12_walkDay_8 : decode cX12_walkDay 8 = .ok (.istore 4, 2) := by decide +kernel
theorem dX12_walkDay_10 : decode cX12_walkDay 10 = .ok (.iload_n 3, 1) := by decide +kernel
theorem dX12_walkDay_11 : decode cX12_walkDay 11 = .ok (.bipush 24, 2) := by decide +kernel
theorem dX12_walkDay_13 : decode cX12_walkDay 13 = .ok (.if_icmp .ge 227, 3) := by decide +kernel
theorem dX12_walkDay_16 : decode cX12_walkDay 16 = .ok (.aload_n 0, 1) := by decide +kernel
theorem dX12_walkDay_17 : decode cX12_walkDay 17 = .ok (.iload_n 3, 1) := by decide +kernel
theorem dX12_walkDay_18 : decode cX12_walkDay 18 = .ok (.iload 4, 2) := by decide +kernel
theorem dX12_walkDay_20 : decode cX12_walkDay 20 = .ok (.invokevirtual 436, 3) := by decide +kernel
theorem dX12_walkDay_23 : decode cX12_walkDay 23 = .ok (.aload_n 0, 1) := by decide +kernel
theorem dX12_walkDay_24 : decode cX12_walkDay 24 = .ok (.getfield 430, 3) := by decide +kernel
theorem dX12_walkDay_27 : decode cX12_walkDay 27 = .ok (.istore 4, 2) := by decide +kernel
theorem dX12_walkDay_29 : decode cX12_walkDay 29 = .ok (.aload_n 0, 1) := by decide +kernel
theorem dX12_walkDay_30 : decode cX12_walkDay 30 = .ok (.iload_n 3, 1) := by decide +kernel
theorem dX12_walkDay_31 : decode cX12_walkDay 31 = .ok (.iload 4, 2) := by decide +kernel
theorem dX12_walkDay_33 : decode cX12_walkDay 33 = .ok (.invokevirtual 442, 3) := by decide +kernel
theorem dX12_walkDay_36 : decode cX12_walkDay 36 = .ok (.istore 5, 2) := by decide +kernel
theorem dX12_walkDay_38 : decode cX12_walkDay 38 = .ok (.iconst (-1), 1) := by decide +kernel
theorem dX12_walkDay_39 : decode cX12_walkDay 39 = .ok (.istore 6, 2) := by decide +kernel
theorem dX12_walkDay_41 : decode cX12_walkDay 41 = .ok (.iconst 0, 1) := by decide +kernel
theorem dX12_walkDay_42 : decode cX12_walkDay 42 = .ok (.istore 7, 2) := by decide +kernel
theorem dX12_walkDay_44 : decode cX12_walkDay 44 = .ok (.iload 7, 2) := by decide +kernel
theorem dX12_walkDay_46 : decode cX12_walkDay 46 = .ok (.aload_n 0, 1) := by decide +kernel
theorem dX12_walkDay_47 : decode cX12_walkDay 47 = .ok (.getfield 35, 3) := by decide +kernel
theorem dX12_walkDay_50 : decode cX12_walkDay 50 = .ok (.iconst 1, 1) := by decide +kernel
theorem dX12_walkDay_51 : decode cX12_walkDay 51 = .ok (.iaload, 1) := by decide +kernel
theorem dX12_walkDay_52 : decode cX12_walkDay 52 = .ok (.if_icmp .ge 60, 3) := by decide +kernel
theorem dX12_walkDay_55 : decode cX12_walkDay 55 = .ok (.iload 6, 2) := by decide +kernel
theorem dX12_walkDay_57 : decode cX12_walkDay 57 = .ok (.ifCond .ge 55, 3) := by decide +kernel
theorem dX12_walkDay_60 : decode cX12_walkDay 60 = .ok (.aload_n 0, 1) := by decide +kernel
theorem dX12_walkDay_61 : decode cX12_walkDay 61 = .ok (.iload 7, 2) := by decide +kernel
theorem dX12_walkDay_63 : decode cX12_walkDay 63 = .ok (.iload 4, 2) := by decide +kernel
theorem dX12_walkDay_65 : decode cX12_walkDay 65 = .ok (.invokevirtual 421, 3) := by decide +kernel
theorem dX12_walkDay_68 : decode cX12_walkDay 68 = .ok (.ifCond .eq 38, 3) := by decide +kernel
theorem dX12_walkDay_71 : decode cX12_walkDay 71 = .ok (.iload_n 3, 1) := by decide +kernel
theorem dX12_walkDay_72 : decode cX12_walkDay 72 = .ok (.aload_n 0, 1) := by decide +kernel
theorem dX12_walkDay_73 : decode cX12_walkDay 73 = .ok (.getfield 35, 3) := by decide +kernel
theorem dX12_walkDay_76 : decode cX12_walkDay 76 = .ok (.bipush 41, 2) := by decide +kernel
theorem dX12_walkDay_78 : decode cX12_walkDay 78 = .ok (.iload 7, 2) := by decide +kernel
theorem dX12_walkDay_80 : decode cX12_walkDay 80 = .ok (.iadd, 1) := by decide +kernel
theorem dX12_walkDay_81 : decode cX12_walkDay 81 = .ok (.iaload, 1) := by decide +kernel
theorem dX12_walkDay_82 : decode cX12_walkDay 82 = .ok (.iadd, 1) := by decide +kernel
theorem dX12_walkDay_83 : decode cX12_walkDay 83 = .ok (.bipush 25, 2) := by decide +kernel
theorem dX12_walkDay_85 : decode cX12_walkDay 85 = .ok (.if_icmp .ge 21, 3) := by decide +kernel
theorem dX12_walkDay_88 : decode cX12_walkDay 88 = .ok (.aload_n 0, 1) := by decide +kernel
theorem dX12_walkDay_89 : decode cX12_walkDay 89 = .ok (.iload 7, 2) := by decide +kernel
theorem dX12_walkDay_91 : decode cX12_walkDay 91 = .ok (.iload_n 3, 1) := by decide +kernel
theorem dX12_walkDay_92 : decode cX12_walkDay 92 = .ok (.iload 4, 2) := by decide +kernel
theorem dX12_walkDay_94 : decode cX12_walkDay 94 = .ok (.invokevirtual 439, 3) := by decide +kernel
theorem dX12_walkDay_97 : decode cX12_walkDay 97 = .ok (.iload 5, 2) := by decide +kernel
theorem dX12_walkDay_99 : decode cX12_walkDay 99 = .ok (.if_icmp .ne 7, 3) := by decide +kernel
theorem dX12_walkDay_102 : decode cX12_walkDay 102 = .ok (.iload 7, 2) := by decide +kernel
theorem dX12_walkDay_104 : decode cX12_walkDay 104 = .ok (.istore 6, 2) := by decide +kernel
theorem dX12_walkDay_106 : decode cX12_walkDay 106 = .ok (.iinc 7 1, 3) := by decide +kernel
theorem dX12_walkDay_109 : decode cX12_walkDay 109 = .ok (.goto (-65), 3) := by decide +kernel
theorem dX12_walkDay_112 : decode cX12_walkDay 112 = .ok (.aload_n 0, 1) := by decide +kernel
theorem dX12_walkDay_113 : decode cX12_walkDay 113 = .ok (.getfield 54, 3) := by decide +kernel
theorem dX12_walkDay_116 : decode cX12_walkDay 116 = .ok (.aload_n 0, 1) := by decide +kernel
theorem dX12_walkDay_117 : decode cX12_walkDay 117 = .ok (.getfield 445, 3) := by decide +kernel
theorem dX12_walkDay_120 : decode cX12_walkDay 120 = .ok (.iload 6, 2) := by decide +kernel
theorem dX12_walkDay_122 : decode cX12_walkDay 122 = .ok (.iastore, 1) := by decide +kernel
theorem dX12_walkDay_123 : decode cX12_walkDay 123 = .ok (.aload_n 0, 1) := by decide +kernel
theorem dX12_walkDay_124 : decode cX12_walkDay 124 = .ok (.getfield 57, 3) := by decide +kernel
theorem dX12_walkDay_127 : decode cX12_walkDay 127 = .ok (.aload_n 0, 1) := by decide +kernel
theorem dX12_walkDay_128 : decode cX12_walkDay 128 = .ok (.getfield 445, 3) := by decide +kernel
theorem dX12_walkDay_131 : decode cX12_walkDay 131 = .ok (.iload_n 3, 1) := by decide +kernel
theorem dX12_walkDay_132 : decode cX12_walkDay 132 = .ok (.iastore, 1) := by decide +kernel
theorem dX12_walkDay_133 : decode cX12_walkDay 133 = .ok (.aload_n 0, 1) := by decide +kernel
theorem dX12_walkDay_134 : decode cX12_walkDay 134 = .ok (.dup, 1) := by decide +kernel
theorem dX12_walkDay_135 : decode cX12_walkDay 135 = .ok (.getfield 445, 3) := by decide +kernel
theorem dX12_walkDay_138 : decode cX12_walkDay 138 = .ok (.iconst 1, 1) := by decide +kernel
theorem dX12_walkDay_139 : decode cX12_walkDay 139 = .ok (.iadd, 1) := by decide +kernel
theorem dX12_walkDay_140 : decode cX12_walkDay 140 = .ok (.putfield 445, 3) := by decide +kernel
theorem dX12_walkDay_143 : decode cX12_walkDay 143 = .ok (.iload 6, 2) := by decide +kernel
theorem dX12_walkDay_145 : decode cX12_walkDay 145 = .ok (.ifCond .ge 9, 3) := by decide +kernel
theorem dX12_walkDay_148 : decode cX12_walkDay 148 = .ok (.iinc 3 1, 3) := by decide +kernel
theorem dX12_walkDay_151 : decode cX12_walkDay 151 = .ok (.goto (-141), 3) := by decide +kernel
theorem dX12_walkDay_154 : decode cX12_walkDay 154 = .ok (.iload_n 3, 1) := by decide +kernel
theorem dX12_walkDay_155 : decode cX12_walkDay 155 = .ok (.aload_n 0, 1) := by decide +kernel
theorem dX12_walkDay_156 : decode cX12_walkDay 156 = .ok (.getfield 35, 3) := by decide +kernel
theorem dX12_walkDay_159 : decode cX12_walkDay 159 = .ok (.bipush 41, 2) := by decide +kernel
theorem dX12_walkDay_161 : decode cX12_walkDay 161 = .ok (.iload 6, 2) := by decide +kernel
theorem dX12_walkDay_163 : decode cX12_walkDay 163 = .ok (.iadd, 1) := by decide +kernel
theorem dX12_walkDay_164 : decode cX12_walkDay 164 = .ok (.iaload, 1) := by decide +kernel
theorem dX12_walkDay_165 : decode cX12_walkDay 165 = .ok (.iadd, 1) := by decide +kernel
theorem dX12_walkDay_166 : decode cX12_walkDay 166 = .ok (.istore 7, 2) := by decide +kernel
theorem dX12_walkDay_168 : decode cX12_walkDay 168 = .ok (.iload 4, 2) := by decide +kernel
theorem dX12_walkDay_170 : decode cX12_walkDay 170 = .ok (.aload_n 0, 1) := by decide +kernel
theorem dX12_walkDay_171 : decode cX12_walkDay 171 = .ok (.getfield 35, 3) := by decide +kernel
theorem dX12_walkDay_174 : decode cX12_walkDay 174 = .ok (.bipush 65, 2) := by decide +kernel
theorem dX12_walkDay_176 : decode cX12_walkDay 176 = .ok (.iload 6, 2) := by decide +kernel
theorem dX12_walkDay_178 : decode cX12_walkDay 178 = .ok (.iadd, 1) := by decide +kernel
theorem dX12_walkDay_179 : decode cX12_walkDay 179 = .ok (.iaload, 1) := by decide +kernel
theorem dX12_walkDay_180 : decode cX12_walkDay 180 = .ok (.iconst (-1), 1) := by decide +kernel
theorem dX12_walkDay_181 : decode cX12_walkDay 181 = .ok (.ixor, 1) := by decide +kernel
theorem dX12_walkDay_182 : decode cX12_walkDay 182 = .ok (.iand, 1) := by decide +kernel
theorem dX12_walkDay_183 : decode cX12_walkDay 183 = .ok (.istore 4, 2) := by decide +kernel
theorem dX12_walkDay_185 : decode cX12_walkDay 185 = .ok (.iload_n 3, 1) := by decide +kernel
theorem dX12_walkDay_186 : decode cX12_walkDay 186 = .ok (.iconst 1, 1) := by decide +kernel
theorem dX12_walkDay_187 : decode cX12_walkDay 187 = .ok (.iadd, 1) := by decide +kernel
theorem dX12_walkDay_188 : decode cX12_walkDay 188 = .ok (.istore 8, 2) := by decide +kernel
theorem dX12_walkDay_190 : decode cX12_walkDay 190 = .ok (.iload 8, 2) := by decide +kernel
theorem dX12_walkDay_192 : decode cX12_walkDay 192 = .ok (.iload 7, 2) := by decide +kernel
theorem dX12_walkDay_194 : decode cX12_walkDay 194 = .ok (.if_icmp .ge 23, 3) := by decide +kernel
theorem dX12_walkDay_197 : decode cX12_walkDay 197 = .ok (.aload_n 0, 1) := by decide +kernel
theorem dX12_walkDay_198 : decode cX12_walkDay 198 = .ok (.iload 8, 2) := by decide +kernel
theorem dX12_walkDay_200 : decode cX12_walkDay 200 = .ok (.iload 4, 2) := by decide +kernel
theorem dX12_walkDay_202 : decode cX12_walkDay 202 = .ok (.invokevirtual 436, 3) := by decide +kernel
theorem dX12_walkDay_205 : decode cX12_walkDay 205 = .ok (.aload_n 0, 1) := by decide +kernel
theorem dX12_walkDay_206 : decode cX12_walkDay 206 = .ok (.getfield 430, 3) := by decide +kernel
theorem dX12_walkDay_209 : decode cX12_walkDay 209 = .ok (.istore 4, 2) := by decide +kernel
theorem dX12_walkDay_211 : decode cX12_walkDay 211 = .ok (.iinc 8 1, 3) := by decide +kernel
theorem dX12_walkDay_214 : decode cX12_walkDay 214 = .ok (.goto (-24), 3) := by decide +kernel
theorem dX12_walkDay_217 : decode cX12_walkDay 217 = .ok (.iload 4, 2) := by decide +kernel
theorem dX12_walkDay_219 : decode cX12_walkDay 219 = .ok (.iconst 1, 1) := by decide +kernel
theorem dX12_walkDay_220 : decode cX12_walkDay 220 = .ok (.aload_n 0, 1) := by decide +kernel
theorem dX12_walkDay_221 : decode cX12_walkDay 221 = .ok (.getfield 35, 3) := by decide +kernel
theorem dX12_walkDay_224 : decode cX12_walkDay 224 = .ok (.bipush 29, 2) := by decide +kernel
theorem dX12_walkDay_226 : decode cX12_walkDay 226 = .ok (.iload 6, 2) := by decide +kernel
theorem dX12_walkDay_228 : decode cX12_walkDay 228 = .ok (.iadd, 1) := by decide +kernel
theorem dX12_walkDay_229 : decode cX12_walkDay 229 = .ok (.iaload, 1) := by decide +kernel
theorem dX12_walkDay_230 : decode cX12_walkDay 230 = .ok (.ishl, 1) := by decide +kernel
theorem dX12_walkDay_231 : decode cX12_walkDay 231 = .ok (.ior, 1) := by decide +kernel
theorem dX12_walkDay_232 : decode cX12_walkDay 232 = .ok (.istore 4, 2) := by decide +kernel
theorem dX12_walkDay_234 : decode cX12_walkDay 234 = .ok (.iload 7, 2) := by decide +kernel
theorem dX12_walkDay_236 : decode cX12_walkDay 236 = .ok (.istore_n 3, 1) := by decide +kernel
theorem dX12_walkDay_237 : decode cX12_walkDay 237 = .ok (.goto (-227), 3) := by decide +kernel
theorem dX12_walkDay_240 : decode cX12_walkDay 240 = .ok (.aload_n 0, 1) := by decide +kernel
theorem dX12_walkDay_241 : decode cX12_walkDay 241 = .ok (.bipush 24, 2) := by decide +kernel
theorem dX12_walkDay_243 : decode cX12_walkDay 243 = .ok (.iload 4, 2) := by decide +kernel
theorem dX12_walkDay_245 : decode cX12_walkDay 245 = .ok (.invokevirtual 436, 3) := by decide +kernel
theorem dX12_walkDay_248 : decode cX12_walkDay 248 = .ok (.aload_n 0, 1) := by decide +kernel
theorem dX12_walkDay_249 : decode cX12_walkDay 249 = .ok (.getfield 430, 3) := by decide +kernel
theorem dX12_walkDay_252 : decode cX12_walkDay 252 = .ok (.ireturn, 1) := by decide +kernel
theorem dX12_day_0 : decode cX12_day 0 = .ok (.aload_n 0, 1) := by decide +kernel
theorem dX12_day_1 : decode cX12_day 1 = .ok (.iconst 0, 1) := by decide +kernel
theorem dX12_day_2 : decode cX12_day 2 = .ok (.putfield 87, 3) := by decide +kernel
theorem dX12_day_5 : decode cX12_day 5 = .ok (.aload_n 0, 1) := by decide +kernel
theorem dX12_day_6 : decode cX12_day 6 = .ok (.iconst 0, 1) := by decide +kernel
theorem dX12_day_7 : decode cX12_day 7 = .ok (.putfield 90, 3) := by decide +kernel
theorem dX12_day_10 : decode cX12_day 10 = .ok (.aload_n 0, 1) := by decide +kernel
theorem dX12_day_11 : decode cX12_day 11 = .ok (.iload_n 1, 1) := by decide +kernel
theorem dX12_day_12 : decode cX12_day 12 = .ok (.invokevirtual 386, 3) := by decide +kernel
theorem dX12_day_15 : decode cX12_day 15 = .ok (.ifCond .ne 9, 3) := by decide +kernel
theorem dX12_day_18 : decode cX12_day 18 = .ok (.aload_n 0, 1) := by decide +kernel
theorem dX12_day_19 : decode cX12_day 19 = .ok (.iconst 2, 1) := by decide +kernel
theorem dX12_day_20 : decode cX12_day 20 = .ok (.invokevirtual 351, 3) := by decide +kernel
theorem dX12_day_23 : decode cX12_day 23 = .ok (.ireturn, 1) := by decide +kernel
theorem dX12_day_24 : decode cX12_day 24 = .ok (.iload_n 2, 1) := by decide +kernel
theorem dX12_day_25 : decode cX12_day 25 = .ok (.i2l, 1) := by decide +kernel
theorem dX12_day_26 : decode cX12_day 26 = .ok (.lconst 0, 1) := by decide +kernel
theorem dX12_day_27 : decode cX12_day 27 = .ok (.ldc2_w 419, 3) := by decide +kernel
theorem dX12_day_30 : decode cX12_day 30 = .ok (.invokestatic 122, 3) := by decide +kernel
theorem dX12_day_33 : decode cX12_day 33 = .ok (.ifCond .ne 9, 3) := by decide +kernel
theorem dX12_day_36 : decode cX12_day 36 = .ok (.aload_n 0, 1) := by decide +kernel
theorem dX12_day_37 : decode cX12_day 37 = .ok (.iconst 5, 1) := by decide +kernel
theorem dX12_day_38 : decode cX12_day 38 = .ok (.invokevirtual 351, 3) := by decide +kernel
theorem dX12_day_41 : decode cX12_day 41 = .ok (.ireturn, 1) := by decide +kernel
theorem dX12_day_42 : decode cX12_day 42 = .ok (.aload_n 0, 1) := by decide +kernel
theorem dX12_day_43 : decode cX12_day 43 = .ok (.invokevirtual 448, 3) := by decide +kernel
theorem dX12_day_46 : decode cX12_day 46 = .ok (.aload_n 0, 1) := by decide +kernel
theorem dX12_day_47 : decode cX12_day 47 = .ok (.invokevirtual 451, 3) := by decide +kernel
theorem dX12_day_50 : decode cX12_day 50 = .ok (.aload_n 0, 1) := by decide +kernel
theorem dX12_day_51 : decode cX12_day 51 = .ok (.iload_n 1, 1) := by decide +kernel
theorem dX12_day_52 : decode cX12_day 52 = .ok (.iload_n 2, 1) := by decide +kernel
theorem dX12_day_53 : decode cX12_day 53 = .ok (.invokevirtual 454, 3) := by decide +kernel
theorem dX12_day_56 : decode cX12_day 56 = .ok (.pop, 1) := by decide +kernel
theorem dX12_day_57 : decode cX12_day 57 = .ok (.aload_n 0, 1) := by decide +kernel
theorem dX12_day_58 : decode cX12_day 58 = .ok (.getfield 45, 3) := by decide +kernel
theorem dX12_day_61 : decode cX12_day 61 = .ok (.sipush 256, 3) := by decide +kernel
theorem dX12_day_64 : decode cX12_day 64 = .ok (.iload_n 2, 1) := by decide +kernel
theorem dX12_day_65 : decode cX12_day 65 = .ok (.imul, 1) := by decide +kernel
theorem dX12_day_66 : decode cX12_day 66 = .ok (.iload_n 1, 1) := by decide +kernel
theorem dX12_day_67 : decode cX12_day 67 = .ok (.iadd, 1) := by decide +kernel
theorem dX12_day_68 : decode cX12_day 68 = .ok (.iaload, 1) := by decide +kernel
theorem dX12_day_69 : decode cX12_day 69 = .ok (.ireturn, 1) := by decide +kernel
theorem dX12_bestNight_0 : decode cX12_bestNight 0 = .ok (.iconst (-1), 1) := by decide +kernel
theorem dX12_bestNight_1 : decode cX12_bestNight 1 = .ok (.istore_n 3, 1) := by decide +kernel
theorem dX12_bestNight_2 : decode cX12_bestNight 2 = .ok (.iconst (-1), 1) := by decide +kernel
theorem dX12_bestNight_3 : decode cX12_bestNight 3 = .ok (.istore 4, 2) := by decide +kernel
theorem dX12_bestNight_5 : decode cX12_bestNight 5 = .ok (.iload 4, 2) := by decide +kernel
theorem dX12_bestNight_7 : decode cX12_bestNight 7 = .ok (.aload_n 0, 1) := by decide +kernel
theorem dX12_bestNight_8 : decode cX12_bestNight 8 = .ok (.getfield 35, 3) := by decide +kernel
theorem dX12_bestNight_11 : decode cX12_bestNight 11 = .ok (.iconst 0, 1) := by decide +kernel
theorem dX12_bestNight_12 : decode cX12_bestNight 12 = .ok (.iaload, 1) := by decide +kernel
theorem dX12_bestNight_13 : decode cX12_bestNight 13 = .ok (.if_icmp .ge 101, 3) := by decide +kernel
theorem dX12_bestNight_16 : decode cX12_bestNight 16 = .ok (.iconst (-1), 1) := by decide +kernel
theorem dX12_bestNight_17 : decode cX12_bestNight 17 = .ok (.istore 5, 2) := by decide +kernel
theorem dX12_bestNight_19 : decode cX12_bestNight 19 = .ok (.iload 5, 2) := by decide +kernel
theorem dX12_bestNight_21 : decode cX12_bestNight 21 = .ok (.aload_n 0, 1) := by decide +kernel
theorem dX12_bestNight_22 : decode cX12_bestNight 22 = .ok (.getfield 35, 3) := by decide +kernel
theorem dX12_bestNight_25 : decode cX12_bestNight 25 = .ok (.iconst 0, 1) := by decide +kernel
theorem dX12_bestNight_26 : decode cX12_bestNight 26 = .ok (.iaload, 1) := by decide +kernel
theorem dX12_bestNight_27 : decode cX12_bestNight 27 = .ok (.if_icmp .ge 81, 3) := by decide +kernel
theorem dX12_bestNight_30 : decode cX12_bestNight 30 = .ok (.aload_n 0, 1) := by decide +kernel
theorem dX12_bestNight_31 : decode cX12_bestNight 31 = .ok (.iload 4, 2) := by decide +kernel
theorem dX12_bestNight_33 : decode cX12_bestNight 33 = .ok (.iload_n 1, 1) := by decide +kernel
theorem dX12_bestNight_34 : decode cX12_bestNight 34 = .ok (.invokevirtual 394, 3) := by decide +kernel
theorem dX12_bestNight_37 : decode cX12_bestNight 37 = .ok (.ifCond .eq 71, 3) := by decide +kernel
theorem dX12_bestNight_40 : decode cX12_bestNight 40 = .ok (.iconst (-1), 1) := by decide +kernel
theorem dX12_bestNight_41 : decode cX12_bestNight 41 = .ok (.istore 6, 2) := by decide +kernel
theorem dX12_bestNight_43 : decode cX12_bestNight 43 = .ok (.iload 6, 2) := by decide +kernel
theorem dX12_bestNight_45 : decode cX12_bestNight 45 = .ok (.aload_n 0, 1) := by decide +kernel
theorem dX12_bestNight_46 : decode cX12_bestNight 46 = .ok (.getfield 35, 3) := by decide +kernel
theorem dX12_bestNight_49 : decode cX12_bestNight 49 = .ok (.iconst 0, 1) := by decide +kernel
theorem dX12_bestNight_50 : decode cX12_bestNight 50 = .ok (.iaload, 1) := by decide +kernel
theorem dX12_bestNight_51 : decode cX12_bestNight 51 = .ok (.if_icmp .ge 51, 3) := by decide +kernel
theorem dX12_bestNight_54 : decode cX12_bestNight 54 = .ok (.aload_n 0, 1) := by decide +kernel
theorem dX12_bestNight_55 : decode cX12_bestNight 55 = .ok (.iload 5, 2) := by decide +kernel
theorem dX12_bestNight_57 : decode cX12_bestNight 57 = .ok (.iload_n 1, 1) := by decide +kernel
theorem dX12_bestNight_58 : decode cX12_bestNight 58 = .ok (.invokevirtual 397, 3) := by decide +kernel
theorem dX12_bestNight_61 : decode cX12_bestNight 61 = .ok (.ifCond .eq 41, 3) := by decide +kernel
theorem dX12_bestNight_64 : decode cX12_bestNight 64 = .ok (.aload_n 0, 1) := by decide +kernel
theorem dX12_bestNight_65 : decode cX12_bestNight 65 = .ok (.iload 6, 2) := by decide +kernel
theorem dX12_bestNight_67 : decode cX12_bestNight 67 = .ok (.iload_n 1, 1) := by decide +kernel
theorem dX12_bestNight_68 : decode cX12_bestNight 68 = .ok (.invokevirtual 400, 3) := by decide +kernel
theorem dX12_bestNight_71 : decode cX12_bestNight 71 = .ok (.ifCond .eq 25, 3) := by decide +kernel
theorem dX12_bestNight_74 : decode cX12_bestNight 74 = .ok (.iload_n 3, 1) := by decide +kernel
theorem dX12_bestNight_75 : decode cX12_bestNight 75 = .ok (.aload_n 0, 1) := by decide +kernel
theorem dX12_bestNight_76 : decode cX12_bestNight 76 = .ok (.getfield 48, 3) := by decide +kernel
theorem dX12_bestNight_79 : decode cX12_bestNight 79 = .ok (.aload_n 0, 1) := by decide +kernel
theorem dX12_bestNight_80 : decode cX12_bestNight 80 = .ok (.iload_n 1, 1) := by decide +kernel
theorem dX12_bestNight_81 : decode cX12_bestNight 81 = .ok (.iload 4, 2) := by decide +kernel
theorem dX12_bestNight_83 : decode cX12_bestNight 83 = .ok (.iload 5, 2) := by decide +kernel
theorem dX12_bestNight_85 : decode cX12_bestNight 85 = .ok (.iload 6, 2) := by decide +kernel
theorem dX12_bestNight_87 : decode cX12_bestNight 87 = .ok (.iload_n 2, 1) := by decide +kernel
theorem dX12_bestNight_88 : decode cX12_bestNight 88 = .ok (.invokevirtual 403, 3) := by decide +kernel
theorem dX12_bestNight_91 : decode cX12_bestNight 91 = .ok (.iaload, 1) := by decide +kernel
theorem dX12_bestNight_92 : decode cX12_bestNight 92 = .ok (.invokestatic 410, 3) := by decide +kernel
theorem dX12_bestNight_95 : decode cX12_bestNight 95 = .ok (.istore_n 3, 1) := by decide +kernel
theorem dX12_bestNight_96 : decode cX12_bestNight 96 = .ok (.iinc 6 1, 3) := by decide +kernel
theorem dX12_bestNight_99 : decode cX12_bestNight 99 = .ok (.goto (-56), 3) := by decide +kernel
theorem dX12_bestNight_102 : decode cX12_bestNight 102 = .ok (.iinc 5 1, 3) := by decide +kernel
theorem dX12_bestNight_105 : decode cX12_bestNight 105 = .ok (.goto (-86), 3) := by decide +kernel
theorem dX12_bestNight_108 : decode cX12_bestNight 108 = .ok (.iinc 4 1, 3) := by decide +kernel
theorem dX12_bestNight_111 : decode cX12_bestNight 111 = .ok (.goto (-106), 3) := by decide +kernel
theorem dX12_bestNight_114 : decode cX12_bestNight 114 = .ok (.iload_n 3, 1) := by decide +kernel
theorem dX12_bestNight_115 : decode cX12_bestNight 115 = .ok (.ireturn, 1) := by decide +kernel
theorem dX12_tellDays_0 : decode cX12_tellDays 0 = .ok (.aload_n 0, 1) := by decide +kernel
theorem dX12_tellDays_1 : decode cX12_tellDays 1 = .ok (.invokevirtual 448, 3) := by decide +kernel
theorem dX12_tellDays_4 : decode cX12_tellDays 4 = .ok (.iload_n 1, 1) := by decide +kernel
theorem dX12_tellDays_5 : decode cX12_tellDays 5 = .ok (.iconst 1, 1) := by decide +kernel
theorem dX12_tellDays_6 : decode cX12_tellDays 6 = .ok (.isub, 1) := by decide +kernel
theorem dX12_tellDays_7 : decode cX12_tellDays 7 = .ok (.istore_n 3, 1) := by decide +kernel
theorem dX12_tellDays_8 : decode cX12_tellDays 8 = .ok (.iload_n 3, 1) := by decide +kernel
theorem dX12_tellDays_9 : decode cX12_tellDays 9 = .ok (.ifCond .lt 88, 3) := by decide +kernel
theorem dX12_tellDays_12 : decode cX12_tellDays 12 = .ok (.aload_n 0, 1) := by decide +kernel
theorem dX12_tellDays_13 : decode cX12_tellDays 13 = .ok (.invokevirtual 451, 3) := by decide +kernel
theorem dX12_tellDays_16 : decode cX12_tellDays 16 = .ok (.iconst 0, 1) := by decide +kernel
theorem dX12_tellDays_17 : decode cX12_tellDays 17 = .ok (.istore 4, 2) := by decide +kernel
theorem dX12_tellDays_19 : decode cX12_tellDays 19 = .ok (.iload 4, 2) := by decide +kernel
theorem dX12_tellDays_21 : decode cX12_tellDays 21 = .ok (.sipush 256, 3) := by decide +kernel
theorem dX12_tellDays_24 : decode cX12_tellDays 24 = .ok (.if_icmp .ge 23, 3) := by decide +kernel
theorem dX12_tellDays_27 : decode cX12_tellDays 27 = .ok (.aload_n 0, 1) := by decide +kernel
theorem dX12_tellDays_28 : decode cX12_tellDays 28 = .ok (.getfield 48, 3) := by decide +kernel
theorem dX12_tellDays_31 : decode cX12_tellDays 31 = .ok (.iload 4, 2) := by decide +kernel
theorem dX12_tellDays_33 : decode cX12_tellDays 33 = .ok (.aload_n 0, 1) := by decide +kernel
theorem dX12_tellDays_34 : decode cX12_tellDays 34 = .ok (.getfield 45, 3) := by decide +kernel
theorem dX12_tellDays_37 : decode cX12_tellDays 37 = .ok (.iload 4, 2) := by decide +kernel
theorem dX12_tellDays_39 : decode cX12_tellDays 39 = .ok (.iaload, 1) := by decide +kernel
theorem dX12_tellDays_40 : decode cX12_tellDays 40 = .ok (.iastore, 1) := by decide +kernel
theorem dX12_tellDays_41 : decode cX12_tellDays 41 = .ok (.iinc 4 1, 3) := by decide +kernel
theorem dX12_tellDays_44 : decode cX12_tellDays 44 = .ok (.goto (-25), 3) := by decide +kernel
theorem dX12_tellDays_47 : decode cX12_tellDays 47 = .ok (.iload_n 3, 1) := by decide +kernel
theorem dX12_tellDays_48 : decode cX12_tellDays 48 = .ok (.ifCond .le 43, 3) := by decide +kernel
theorem dX12_tellDays_51 : decode cX12_tellDays 51 = .ok (.iconst 0, 1) := by decide +kernel
theorem dX12_tellDays_52 : decode cX12_tellDays 52 = .ok (.istore 4, 2) := by decide +kernel
theorem dX12_tellDays_54 : decode cX12_tellDays 54 = .ok (.iload 4, 2) := by decide +kernel
theorem dX12_tellDays_56 : decode cX12_tellDays 56 = .ok (.iconst 1, 1) := by decide +kernel
theorem dX12_tellDays_57 : decode cX12_tellDays 57 = .ok (.aload_n 0, 1) := by decide +kernel
theorem dX12_tellDays_58 : decode cX12_tellDays 58 = .ok (.getfield 35, 3) := by decide +kernel
theorem dX12_tellDays_61 : decode cX12_tellDays 61 = .ok (.iconst 0, 1) := by decide +kernel
theorem dX12_tellDays_62 : decode cX12_tellDays 62 = .ok (.iaload, 1) := by decide +kernel
theorem dX12_tellDays_63 : decode cX12_tellDays 63 = .ok (.ishl, 1) := by decide +kernel
theorem dX12_tellDays_64 : decode cX12_tellDays 64 = .ok (.if_icmp .ge 27, 3) := by decide +kernel
theorem dX12_tellDays_67 : decode cX12_tellDays 67 = .ok (.aload_n 0, 1) := by decide +kernel
theorem dX12_tellDays_68 : decode cX12_tellDays 68 = .ok (.getfield 51, 3) := by decide +kernel
theorem dX12_tellDays_71 : decode cX12_tellDays 71 = .ok (.iload 4, 2) := by decide +kernel
theorem dX12_tellDays_73 : decode cX12_tellDays 73 = .ok (.aload_n 0, 1) := by decide +kernel
theorem dX12_tellDays_74 : decode cX12_tellDays 74 = .ok (.iload 4, 2) := by decide +kernel
theorem dX12_tellDays_76 : decode cX12_tellDays 76 = .ok (.iload_n 2, 1) := by decide +kernel
theorem dX12_tellDays_77 : decode cX12_tellDays 77 = .ok (.iload_n 3, 1) := by decide +kernel
theorem dX12_tellDays_78 : decode cX12_tellDays 78 = .ok (.iadd, 1) := by decide +kernel
theorem dX12_tellDays_79 : decode cX12_tellDays 79 = .ok (.iconst 1, 1) := by decide +kernel
theorem dX12_tellDays_80 : decode cX12_tellDays 80 = .ok (.isub, 1) := by decide +kernel
theorem dX12_tellDays_81 : decode cX12_tellDays 81 = .ok (.invokevirtual 457, 3) := by decide +kernel
theorem dX12_tellDays_84 : decode cX12_tellDays 84 = .ok (.iastore, 1) := by decide +kernel
theorem dX12_tellDays_85 : decode cX12_tellDays 85 = .ok (.iinc 4 1, 3) := by decide +kernel
theorem dX12_tellDays_88 : decode cX12_tellDays 88 = .ok (.goto (-34), 3) := by decide +kernel
theorem dX12_tellDays_91 : decode cX12_tellDays 91 = .ok (.iinc 3 (-1), 3) := by decide +kernel
theorem dX12_tellDays_94 : decode cX12_tellDays 94 = .ok (.goto (-86), 3) := by decide +kernel
theorem dX12_tellDays_97 : decode cX12_tellDays 97 = .ok (.return_, 1) := by decide +kernel
theorem dX12_findNight_0 : decode cX12_findNight 0 = .ok (.aload_n 0, 1) := by decide +kernel
theorem dX12_findNight_1 : decode cX12_findNight 1 = .ok (.getfield 51, 3) := by decide +kernel
theorem dX12_findNight_4 : decode cX12_findNight 4 = .ok (.iload_n 1, 1) := by decide +kernel
theorem dX12_findNight_5 : decode cX12_findNight 5 = .ok (.iaload, 1) := by decide +kernel
theorem dX12_findNight_6 : decode cX12_findNight 6 = .ok (.istore_n 3, 1) := by decide +kernel
theorem dX12_findNight_7 : decode cX12_findNight 7 = .ok (.iconst (-1), 1) := by decide +kernel
theorem dX12_findNight_8 : decode cX12_findNight 8 = .ok (.istore 4, 2) := by decide +kernel
theorem dX12_findNight_10 : decode cX12_findNight 10 = .ok (.iload 4, 2) := by decide +kernel
theorem dX12_findNight_12 : decode cX12_findNight 12 = .ok (.aload_n 0, 1) := by decide +kernel
theorem dX12_findNight_13 : decode cX12_findNight 13 = .ok (.getfield 35, 3) := by decide +kernel
theorem dX12_findNight_16 : decode cX12_findNight 16 = .ok (.iconst 0, 1) := by decide +kernel
theorem dX12_findNight_17 : decode cX12_findNight 17 = .ok (.iaload, 1) := by decide +kernel
theorem dX12_findNight_18 : decode cX12_findNight 18 = .ok (.if_icmp .ge 143, 3) := by decide +kernel
theorem dX12_findNight_21 : decode cX12_findNight 21 = .ok (.iconst (-1), 1) := by decide +kernel
theorem dX12_findNight_22 : decode cX12_findNight 22 = .ok (.istore 5, 2) := by decide +kernel
theorem dX12_findNight_24 : decode cX12_findNight 24 = .ok (.iload 5, 2) := by decide +kernel
theorem dX12_findNight_26 : decode cX12_findNight 26 = .ok (.aload_n 0, 1) := by decide +kernel
theorem dX12_findNight_27 : decode cX12_findNight 27 = .ok (.getfield 35, 3) := by decide +kernel
theorem dX12_findNight_30 : decode cX12_findNight 30 = .ok (.iconst 0, 1) := by decide +kernel
theorem dX12_findNight_31 : decode cX12_findNight 31 = .ok (.iaload, 1) := by decide +kernel
theorem dX12_findNight_32 : decode cX12_findNight 32 = .ok (.if_icmp .ge 123, 3) := by decide +kernel
theorem dX12_findNight_35 : decode cX12_findNight 35 = .ok (.aload_n 0, 1) := by decide +kernel
theorem dX12_findNight_36 : decode cX12_findNight 36 = .ok (.iload 4, 2) := by decide +kernel
theorem dX12_findNight_38 : decode cX12_findNight 38 = .ok (.iload_n 1, 1) := by decide +kernel
theorem dX12_findNight_39 : decode cX12_findNight 39 = .ok (.invokevirtual 394, 3) := by decide +kernel
theorem dX12_findNight_42 : decode cX12_findNight 42 = .ok (.ifCond .eq 113, 3) := by decide +kernel
theorem dX12_findNight_45 : decode cX12_findNight 45 = .ok (.iconst (-1), 1) := by decide +kernel
theorem dX12_findNight_46 : decode cX12_findNight 46 = .ok (.istore 6, 2) := by decide +kernel
theorem dX12_findNight_48 : decode cX12_findNight 48 = .ok (.iload 6, 2) := by decide +kernel
theorem dX12_findNight_50 : decode cX12_findNight 50 = .ok (.aload_n 0, 1) := by decide +kernel
theorem dX12_findNight_51 : decode cX12_findNight 51 = .ok (.getfield 35, 3) := by decide +kernel
theorem dX12_findNight_54 : decode cX12_findNight 54 = .ok (.iconst 0, 1) := by decide +kernel
theorem dX12_findNight_55 : decode cX12_findNight 55 = .ok (.iaload, 1) := by decide +kernel
theorem dX12_findNight_56 : decode cX12_findNight 56 = .ok (.if_icmp .ge 93, 3) := by decide +kernel
theorem dX12_findNight_59 : decode cX12_findNight 59 = .ok (.aload_n 0, 1) := by decide +kernel
theorem dX12_findNight_60 : decode cX12_findNight 60 = .ok (.iload 5, 2) := by decide +kernel
theorem dX12_findNight_62 : decode cX12_findNight 62 = .ok (.iload_n 1, 1) := by decide +kernel
theorem dX12_findNight_63 : decode cX12_findNight 63 = .ok (.invokevirtual 397, 3) := by decide +kernel
theorem dX12_findNight_66 : decode cX12_findNight 66 = .ok (.ifCond .eq 83, 3) := by decide +kernel
theorem dX12_findNight_69 : decode cX12_findNight 69 = .ok (.aload_n 0, 1) := by decide +kernel
theorem dX12_findNight_70 : decode cX12_findNight 70 = .ok (.iload 6, 2) := by decide +kernel
theorem dX12_findNight_72 : decode cX12_findNight 72 = .ok (.iload_n 1, 1) := by decide +kernel
theorem dX12_findNight_73 : decode cX12_findNight 73 = .ok (.invokevirtual 400, 3) := by decide +kernel
theorem dX12_findNight_76 : decode cX12_findNight 76 = .ok (.ifCond .ne 6, 3) := by decide +kernel
theorem dX12_findNight_79 : decode cX12_findNight 79 = .ok (.goto 64, 3) := by decide +kernel
theorem dX12_findNight_82 : decode cX12_findNight 82 = .ok (.aload_n 0, 1) := by decide +kernel
theorem dX12_findNight_83 : decode cX12_findNight 83 = .ok (.iload_n 1, 1) := by decide +kernel
theorem dX12_findNight_84 : decode cX12_findNight 84 = .ok (.iload 4, 2) := by decide +kernel
theorem dX12_findNight_86 : decode cX12_findNight 86 = .ok (.iload 5, 2) := by decide +kernel
theorem dX12_findNight_88 : decode cX12_findNight 88 = .ok (.iload 6, 2) := by decide +kernel
theorem dX12_findNight_90 : decode cX12_findNight 90 = .ok (.iload_n 2, 1) := by decide +kernel
theorem dX12_findNight_91 : decode cX12_findNight 91 = .ok (.invokevirtual 403, 3) := by decide +kernel
theorem dX12_findNight_94 : decode cX12_findNight 94 = .ok (.istore 7, 2) := by decide +kernel
theorem dX12_findNight_96 : decode cX12_findNight 96 = .ok (.aload_n 0, 1) := by decide +kernel
theorem dX12_findNight_97 : decode cX12_findNight 97 = .ok (.getfield 75, 3) := by decide +kernel
theorem dX12_findNight_100 : decode cX12_findNight 100 = .ok (.iload 7, 2) := by decide +kernel
theorem dX12_findNight_102 : decode cX12_findNight 102 = .ok (.iaload, 1) := by decide +kernel
